section ATR
variable {W : AW} {call : Nat → List AV → Option AV} {g : Nat → Int}
theorem a_wr_ok {i v : Int × Int × Bool} {id j x : Int} {M : EM} (h : a_wr W 100 i v id = true) (hj : a_g (some (.inl i)) j) (hx : a_g (some (.inl v)) x) (hM : a_M M) : ∃ M', e_st 100 [id, j, x] M = some M' ∧ a_M M' ∧ a_fr W M M' := by
  unfold a_wr at h
  simp only [Bool.and_eq_true, decide_eq_true_eq] at h
  obtain ⟨⟨⟨⟨⟨c1, c2⟩, c3⟩, c4⟩, c5⟩, c6⟩ := h
  obtain ⟨j1, j2, -⟩ := hj
  have hsz : e_sz M id.toNat = (e_sh id.toNat).2 := if_neg (by omega)
  obtain ⟨m1, m2⟩ := a_up_ok (k := j.toNat) c6 (by omega) (by omega) hx hM
  exact ⟨_, if_pos ⟨c1, by omega, c2, c3, by omega, by rw [hsz]; omega⟩, m1, m2⟩
theorem a_wf_ok {key : Nat} {v : Int × Int × Bool} {id x : Int} {M : EM} (h : a_wf W key v id = true) (hx : a_g (some (.inl v)) x) (hM : a_M M) : ∃ M', e_pf key [id, x] M = some M' ∧ a_M M' ∧ a_fr W M M' := by
  unfold a_wf at h
  simp only [Bool.and_eq_true, decide_eq_true_eq] at h
  obtain ⟨⟨c1, c2⟩, c3⟩ := h
  obtain ⟨m1, m2⟩ := a_up_ok (k := key % 64) c3 (Int.le_refl _) (Int.le_refl _) hx hM
  exact ⟨_, if_pos ⟨c1, c2⟩, m1, m2⟩
theorem a_full_ok {x y n : Int} {M : EM} (h : a_full W x y = true) (hM : a_M M) (h0 : 0 ≤ n) (h1 : n ≤ ((e_sh x.toNat).2 : Int)) (h2 : n ≤ ((e_sh y.toNat).2 : Int)) : ∃ M', e_cp [x, 0, y, 0, n] M = some M' ∧ a_M M' ∧ a_fr W M M' := by
  unfold a_full at h
  simp only [Bool.and_eq_true, decide_eq_true_eq] at h
  obtain ⟨⟨⟨⟨⟨⟨c1, c2⟩, c3⟩, c4⟩, c5⟩, c6⟩, c7⟩ := h
  have hcp : e_cp [x, 0, y, 0, n] M = some (e_cpm M x.toNat (0 : Int).toNat y.toNat (0 : Int).toNat n.toNat) := if_pos ⟨c2, c1, Int.le_refl _, Int.le_refl _, h0, by omega, by omega⟩
  refine ⟨_, hcp, fun b j h5 => ?_, fun b j hw => ?_⟩
  · unfold e_cpm
    split
    · rename_i hc
      obtain ⟨rfl, hc1, hc2⟩ := hc
      have hx5 : x.toNat ≠ 5 := by have := c1.1; omega
      obtain ⟨m1, m2, m3⟩ := hM x.toNat ((0 : Int).toNat + (j - (0 : Int).toNat)) hx5
      have hj : (0 : Int).toNat + (j - (0 : Int).toNat) = j := by simp
      rw [hj] at m1 m2 m3 ⊢
      refine ⟨?_, ?_, fun s hs => ?_⟩
      · unfold a_lo at m1 ⊢; rw [if_neg c5] at m1; rw [if_neg c6]; exact m1
      · unfold a_hi at m2 ⊢; rw [if_neg c5] at m2; rw [if_neg c6]; exact m2
      · rw [← c3] at hs
        exact m3 s hs
    · exact hM b j h5
  · unfold e_cpm
    rw [if_neg]
    intro hc
    obtain ⟨rfl, hc1, hc2⟩ := hc
    obtain ⟨w, w1, w2⟩ := List.any_eq_true.mp c7
    simp only [Bool.and_eq_true, decide_eq_true_eq] at w2
    have hz : (0 : Int).toNat = 0 := rfl
    rw [hz] at hc2
    exact hw w w1 ⟨w2.1.1, by omega, by omega⟩
theorem a_st_ok (hC : a_CALL W call) {s : e_X} {E E' : AE} (h : a_st W call s E = some E') : ∀ L M, a_E g E L → a_M M → ∃ L' M', e_sv E_C s L M = some (L', M') ∧ a_E g E' L' ∧ a_M M' ∧ a_fr W M M' := by
  intro L M hE hM
  unfold a_st at h
  split at h
  · rename_i k e
    split at h
    · rename_i hk
      subst hk
      split at h
      · rename_i ids i v p q hx
        split at h
        · rename_i hall
          cases h
          obtain ⟨xs, M1, e1, e2, e3, e4, -⟩ := a_ex_ok (g := g) hC e E _ hx L M hE hM
          obtain ⟨a, j, x, rfl, ha, hj, hx2⟩ := a_gs_3 e2
          obtain ⟨M2, m1, m2, m3⟩ := a_wr_ok (List.all_eq_true.mp hall a ha) hj hx2 e3
          refine ⟨L, M2, ?_, hE, m2, a_fr_tr e4 m3⟩
          simp only [e_sv, if_pos, e1, Option.bind_some, m1]
        · cases h
      · cases h
    rename_i n64
    split at h
    · rename_i hk
      subst hk
      split at h
      · rename_i as sp bs dp n p q hx
        split at h
        · rename_i hc
          cases h
          obtain ⟨c1, c2, c3, c4, c5, c6⟩ := hc
          obtain ⟨xs, M1, e1, e2, e3, e4, -⟩ := a_ex_ok (g := g) hC e E _ hx L M hE hM
          obtain ⟨x', r1, rfl, hx', g1⟩ := a_gs_c e2
          obtain ⟨sp', r2, rfl, hsp, g2⟩ := a_gs_c g1
          obtain ⟨y', dp', n', rfl, hy', hdp, hn⟩ := a_gs_3 g2
          obtain ⟨s1, s2, -⟩ := hsp
          obtain ⟨d1, d2, -⟩ := hdp
          obtain ⟨n1, n2, -⟩ := hn
          have hs0 : sp' = 0 := by omega
          have hd0 : dp' = 0 := by omega
          subst hs0 hd0
          have h8 := List.all_eq_true.mp (List.all_eq_true.mp c1 x' hx') y' hy'
          simp only [Bool.and_eq_true, decide_eq_true_eq] at h8
          obtain ⟨⟨h8, h9⟩, h10⟩ := h8
          obtain ⟨M2, m1, m2, m3⟩ := a_full_ok (n := n') h8 e3 (by omega) (by omega) (by omega)
          refine ⟨L, M2, ?_, hE, m2, a_fr_tr e4 m3⟩
          simp only [e_sv, if_neg (show ¬ ((66 : Int) = 64) by decide), if_neg (show ¬ ((66 : Int) = 65) by decide), if_pos, e1, Option.bind_some, m1]
        · cases h
      · cases h
    rename_i n66
    split at h
    · rename_i hk
      subst hk
      split at h
      · rename_i o x key
        split at h
        · rename_i ids p q v p2 q2 ho hx
          split at h
          · rename_i hall
            cases h
            obtain ⟨xs, M1, e1, e2, e3, e4, -⟩ := a_ex_ok (g := g) hC o E _ ho L M hE hM
            obtain ⟨a, rfl, ha⟩ := a_gs_1 e2
            obtain ⟨ys, M2, f1, f2, f3, f4, -⟩ := a_ex_ok (g := g) hC x E _ hx L M1 hE e3
            obtain ⟨b, rfl, hb⟩ := a_gs_1 f2
            have h1 := List.all_eq_true.mp hall a ha
            split at h1
            · rename_i qq hq
              split at h1
              · rename_i zz hz
                rw [Bool.and_eq_true] at h1
                obtain ⟨u, u1, u2⟩ := a_fld_ok hq e3
                obtain ⟨z, z1, z2⟩ := a_b2_ok hz u2 hb
                obtain ⟨M3, m1, m2, m3⟩ := a_wf_ok h1.1 z2 f3
                refine ⟨L, M3, ?_, hE, m2, a_fr_tr e4 (a_fr_tr f4 m3)⟩
                simp only [e_sv, if_neg (show ¬ ((67 : Int) = 64) by decide), if_neg (show ¬ ((67 : Int) = 65) by decide), if_neg (show ¬ ((67 : Int) = 66) by decide), if_pos, e1, Option.bind_some, u1, f1]
                rw [show ([b] : List Int).getD 0 0 = b from rfl, z1]
                simp only [Option.bind_some, List.cons_append, List.nil_append, m1]
              · cases h1
            · cases h1
          · cases h
        · cases h
      · cases h
    rename_i n67
    split at h
    · rename_i hk
      split at h
      · rename_i c
        split at h
        · rename_i hlen
          split at h
          · rename_i q hq
            have hi : ∀ j, j = k.toNat - 200 → e_sv E_C (.mulL k (.num c)) L M = some (L.set j (e_w (L.getD j 0 + c)), M) := by
              intro j hj
              rw [hj]
              simp only [e_sv, if_neg n64, if_neg (show ¬ k = 65 by omega), if_neg n66, if_neg n67, if_neg (show ¬ k = 68 by omega), if_neg (show ¬ (100 ≤ k ∧ k < 200) by omega), if_pos hk]
            generalize hgen : k.toNat - 200 = j at h hlen hq
            have hi := hi j hgen.symm
            have h1 := a_E_at hE j
            rw [hq] at h1
            obtain ⟨h2, h3, -⟩ := h1
            split at h
            · rename_i hb
              cases h
              rw [a_w_id (by omega) (by omega)] at hi
              refine ⟨_, M, hi, ?_, hM, a_fr_rf⟩
              refine ⟨by rw [List.length_set, List.length_set]; exact hE.1, fun s hs => ?_⟩
              rw [List.length_set] at hs
              by_cases hsj : s = j
              · subst hsj
                rw [List.getD_eq_getElem?_getD, List.getElem?_set_self hs, List.getD_eq_getElem?_getD, List.getElem?_set_self (by rw [hE.1]; exact hs)]
                refine ⟨a_gi (by show _ ≤ L.getD s 0 + c; omega) (by show L.getD s 0 + c ≤ _; omega), fun t ht => ?_⟩
                have h9 : e_op (10 : Int).toNat [L.getD s 0, c] M = some (e_w (L.getD s 0 + c)) := rfl
                refine a_tag_ok (e := .mulL 10 (.add (.var s) (.num c))) (x := L.getD s 0 + c) (M := M) (M' := M) hE ?_ t ht
                simp only [e_ev, if_neg (show ¬ ((10 : Int) < 0) by decide), Option.bind_some, List.cons_append, List.nil_append, if_neg (show ¬ ((5000 : Int) ≤ 10) by decide), h9]
                rw [a_w_id (by omega) (by omega)]
              · rw [List.getD_eq_getElem?_getD, List.getElem?_set_ne (Ne.symm hsj), List.getD_eq_getElem?_getD, List.getElem?_set_ne (Ne.symm hsj), ← List.getD_eq_getElem?_getD, ← List.getD_eq_getElem?_getD]
                exact hE.2 s hs
            · cases h
              refine ⟨_, M, hi, ?_, hM, a_fr_rf⟩
              refine ⟨by rw [List.length_set, List.length_set]; exact hE.1, fun s hs => ?_⟩
              rw [List.length_set] at hs
              by_cases hsj : s = j
              · subst hsj
                rw [List.getD_eq_getElem?_getD, List.getElem?_set_self hs, List.getD_eq_getElem?_getD, List.getElem?_set_self (by rw [hE.1]; exact hs)]
                exact ⟨a_T32_ok (a_w _), fun t ht => by cases ht⟩
              · rw [List.getD_eq_getElem?_getD, List.getElem?_set_ne (Ne.symm hsj), List.getD_eq_getElem?_getD, List.getElem?_set_ne (Ne.symm hsj), ← List.getD_eq_getElem?_getD, ← List.getD_eq_getElem?_getD]
                exact hE.2 s hs
          · cases h
        · cases h
      · cases h
    rename_i n200
    split at h
    · rename_i hk
      split at h
      · rename_i R hR
        cases h
        obtain ⟨xs, M1, e1, e2, e3, e4, -⟩ := a_ex_ok (g := g) hC _ E _ hR L M hE hM
        refine ⟨L, M1, ?_, hE, e3, e4⟩
        simp only [e_sv, if_neg n64, if_neg (show ¬ k = 65 by omega), if_neg n66, if_neg n67, if_neg (show ¬ k = 68 by omega), if_neg (show ¬ (100 ≤ k ∧ k < 200) by omega), if_neg n200, if_pos hk, e1, Option.bind_some]
      · cases h
    · cases h
  · rename_i e key
    split at h
    · rename_i ids v p q hx
      split at h
      · rename_i hall
        cases h
        obtain ⟨xs, M1, e1, e2, e3, e4, -⟩ := a_ex_ok (g := g) hC e E _ hx L M hE hM
        obtain ⟨a, x, rfl, ha, hx2⟩ := a_gs_2 e2
        obtain ⟨M2, m1, m2, m3⟩ := a_wf_ok (List.all_eq_true.mp hall a ha) hx2 e3
        refine ⟨L, M2, ?_, hE, m2, a_fr_tr e4 m3⟩
        simp only [e_sv, e1, Option.bind_some, m1]
      · cases h
    · cases h
  · cases h
end ATR
