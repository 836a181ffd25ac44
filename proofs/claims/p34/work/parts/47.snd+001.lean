section ESND
variable {ro : MRo} {d mid hv : Nat} {K : Nat → List Int → EM → EO} {G : List (Nat × Nat)} {L : List Int} {ML1 : ML}
theorem e_cn_lt2 {k b c : Nat} {tgt : Int} {nx pt pf : Nat} (h : e_br k b c tgt nx pt pf = true) (hc : c < 6) (hb : b ≤ 54) : k < 60 := by
  rcases e_br_ok h with ⟨h, -, -⟩ | ⟨h, -, -⟩
  · omega
  · have := e_ng_lt hc
    omega
theorem e_cj_lt {k p pt pf : Nat} {ts : List Nat} (hj : e_cj mid k ts p pt pf = true) : k < 60 := by
  unfold e_cj at hj
  repeat' split at hj
  all_goals simp only [Bool.and_eq_true, Bool.or_eq_true, decide_eq_true_eq, Bool.false_eq_true] at hj
  · exact e_cn_lt2 hj.2 (e_cn_lt _) (by decide)
  · exact e_cn_lt2 hj.2 (e_cn_lt _) (by decide)
  · exact e_cn_lt2 hj.2 (e_cn_lt _) (by decide)
  · rcases hj.2 with h | h <;> omega
  · rcases hj.2 with h | h <;> omega
/-- what is pushed is what the tree says; a condition goes where it says -/
theorem e_chk_ok (HK : e_KOK ro K) (hvd : hv ≤ d) (h0 : 0 < d) : ∀ (n : Nat) (x : e_X), SizeOf.sizeOf x ≤ n → ∀ (z : Option (Nat × Nat)) (pc h : Nat) (R : List Nat × Nat), e_chk mid hv G x z pc h = some R → ∀ (M : EM) (r : List Int × EM), e_ev K L x M = some r → ∀ (st : List MV) (w : MWd), m_cats st = h → e_lr (q_nl mid) G L ML1 → e_wr ro M w →
    e_post ro d mid ML1 z R r pc st w := by
  intro n
  induction n with
  | zero => intro x hx; cases x <;> simp at hx
  | succ n ih =>
    intro x hx z pc h R hc M r he st w hst hL hW
    cases x with
    | num c =>
      unfold e_chk at hc
      cases he
      cases z with
      | some q =>
        dsimp only at hc
        split at hc
        · rename_i h1
          cases hc
          refine ⟨c, w, rfl, hW, ?_⟩
          rcases h1 with ⟨rfl, rfl⟩ | ⟨rfl, rfl⟩
          · rw [if_neg (by decide)]; exact e_re_rf
          · rw [if_pos rfl]; exact e_re_rf
        · cases hc
      | none =>
        dsimp only at hc
        split at hc
        · rename_i x hx2
          split at hc
          · rename_i h1
            cases hc
            refine ⟨[.inl x.1], w, ⟨?_, trivial⟩, hW, e_re_cst hx2⟩
            split
            · rename_i h2; exact ⟨h2, _, rfl, h1⟩
            · exact ⟨_, rfl, h1⟩
          · cases hc
        · cases hc
    | var i =>
      unfold e_chk at hc
      cases he
      cases z with
      | some q => cases hc
      | none =>
        dsimp only at hc
        split at hc
        · rename_i x t hx2 ht
          split at hc
          · rename_i h1
            cases hc
            obtain ⟨rfl, h2⟩ := h1
            obtain ⟨v, hv1, hv2⟩ := hL.2 _ _ ht
            exact ⟨[v], w, ⟨hv2, trivial⟩, hW, e_re_lod hx2 hv1 hv2 h2⟩
          · cases hc
        · cases hc
    | add a b =>
      unfold e_chk at hc
      simp at hx
      cases z with
      | some q => cases hc
      | none =>
        dsimp only at hc
        simp only [e_ev, Option.bind_eq_some_iff] at he
        obtain ⟨ra, hea, rb, heb, he⟩ := he
        cases he
        split at hc
        · cases hc
        rename_i Ra hca
        split at hc
        · cases hc
        rename_i Rb hcb
        cases hc
        obtain ⟨va, wa, a1, a2, a3⟩ := ih a (by omega) none pc h Ra hca M ra hea st w hst hL hW
        obtain ⟨vb, wb, b1, b2, b3⟩ := ih b (by omega) none Ra.2 _ Rb hcb ra.2 rb heb (va.reverse ++ st) wa (by rw [e_cats_app, e_cats_rev, e_vs_cat a1, hst]; omega) hL a2
        refine ⟨va ++ vb, wb, e_vs_app a1 b1, b2, e_re_tr a3 ?_⟩
        rw [List.reverse_append, List.append_assoc]
        exact b3
    | neg a => simp [e_chk] at hc
    | mulL k a =>
      unfold e_chk at hc
      simp at hx
      split at hc
      · rename_i h1
        unfold e_ev at he
        rw [if_pos h1] at he
        exact ih a (by omega) z pc h R hc M r he st w hst hL hW
      rename_i hk0
      split at hc
      · rename_i h1
        subst h1
        split at hc
        · rename_i c x hx2
          split at hc
          · rename_i h2
            cases hc
            cases he
            exact ⟨[.inr (.inl x.1)], w, ⟨⟨_, rfl, h2⟩, trivial⟩, hW, e_re_csl hx2⟩
          · cases hc
        · cases hc
      split at hc
      · rename_i h1
        subst h1
        split at hc
        · rename_i c hx2
          split at hc
          · rename_i h2
            cases hc
            cases he
            exact ⟨[.inr (.inr none)], w, ⟨Or.inl ⟨h2, rfl⟩, trivial⟩, hW, e_re_null hx2⟩
          · cases hc
        · cases hc
      split at hc
      · rename_i h1
        subst h1
        split at hc
        · rename_i c idx hx2
          split at hc
          · rename_i s hs
            split at hc
            · rename_i h2
              cases hc
              cases he
              exact ⟨[.inr (.inr (some s))], w, ⟨Or.inr ⟨s, h2, rfl⟩, trivial⟩, hW, e_re_stat hx2 hs⟩
            · cases hc
          · cases hc
        · cases hc
      unfold e_ev at he
      rw [if_neg hk0] at he
      obtain ⟨ra, hea, he⟩ := Option.bind_eq_some_iff.mp he
      split at hc
      · cases hc
      rename_i Ra hca
      obtain ⟨va, wa, a1, a2, a3⟩ := ih a (by omega) none pc h Ra hca M ra hea st w hst hL hW
      cases z with
      | some q =>
        dsimp only at hc
        split at hc
        · rename_i hj
          cases hc
          have h5 : ¬ (5000 ≤ k) := by
            intro h5
            have : k.toNat < 60 := e_cj_lt hj
            omega
          rw [if_neg h5] at he
          obtain ⟨b, hb, he⟩ := Option.bind_eq_some_iff.mp he
          cases he
          exact ⟨b, wa, rfl, a2, e_re_tr a3 (e_re_cj hj a1 hb)⟩
        · cases hc
      | none =>
        dsimp only at hc
        split at hc
        · rename_i h5
          rw [if_pos h5] at he
          obtain ⟨q, hq, he⟩ := Option.bind_eq_some_iff.mp he
          cases he
          split at hc
          · rename_i h6
            split at hc
            · rename_i t ht
              cases hc
              obtain ⟨o, w', g1, g2, g3⟩ := e_re_call (ML1 := ML1) HK hvd h6.1 a1 hst a2 hq
              rw [h6.2] at g2
              rcases g2 with ⟨ov, rfl, g4⟩ | ⟨g4, -⟩
              · rw [ht] at g4
                obtain ⟨v, rfl, g5⟩ := g4
                refine ⟨[v], w', ⟨g5, trivial⟩, g1, e_re_tr a3 ?_⟩
                intro kk oo hkk
                exact g3 kk oo hkk
              · cases g4
            · cases hc
          · cases hc
        · rename_i h5
          rw [if_neg h5] at he
          obtain ⟨b, hb, he⟩ := Option.bind_eq_some_iff.mp he
          cases he
          obtain ⟨q, q1, q2⟩ := e_co_ok (ML1 := ML1) h0 hc a1 hst a2 hb
          exact ⟨[q], wa, q1, a2, e_re_tr a3 q2⟩
    | mulR a k =>
      unfold e_chk at hc
      simp at hx
      cases z with
      | some q => cases hc
      | none =>
        dsimp only at hc
        simp only [e_ev, Option.bind_eq_some_iff] at he
        obtain ⟨ra, hea, b, hb, he⟩ := he
        cases he
        split at hc
        · rename_i t p hca
          split at hc
          · rename_i idx hi
            split at hc
            · rename_i h1
              cases hc
              obtain ⟨h1, rfl⟩ := h1
              obtain ⟨va, wa, a1, a2, a3⟩ := ih a (by omega) none pc h _ hca M ra hea st w hst hL hW
              obtain ⟨x, v, h5, rfl, a4⟩ := e_vs_1 a1
              rw [h5] at hb
              obtain ⟨q, q1, q2⟩ := e_re_get (d := d) (L := ML1) (st := st) hi h1 a2 a4 hb
              exact ⟨[q], wa, ⟨q1, trivial⟩, a2, e_re_tr a3 q2⟩
            · cases hc
          · cases hc
        · cases hc
    | sub c e =>
     cases e with
     | num _ => simp [e_chk] at hc
     | var _ => simp [e_chk] at hc
     | sub _ _ => simp [e_chk] at hc
     | neg _ => simp [e_chk] at hc
     | mulL _ _ => simp [e_chk] at hc
     | mulR _ _ => simp [e_chk] at hc
     | add a' b' =>
     cases a' with
     | num _ => simp [e_chk] at hc
     | var _ => simp [e_chk] at hc
     | sub _ _ => simp [e_chk] at hc
     | neg _ => simp [e_chk] at hc
     | add _ _ => simp [e_chk] at hc
     | mulR _ _ => simp [e_chk] at hc
     | mulL pa a =>
     cases b' with
     | num _ => simp [e_chk] at hc
     | var _ => simp [e_chk] at hc
     | sub _ _ => simp [e_chk] at hc
     | neg _ => simp [e_chk] at hc
     | add _ _ => simp [e_chk] at hc
     | mulR _ _ => simp [e_chk] at hc
     | mulL pb b =>
      unfold e_chk at hc
      simp at hx
      split at hc
      · rename_i hneg
        simp only [e_ev, Option.bind_eq_some_iff] at he
        obtain ⟨rc, hec, he⟩ := he
        rw [if_pos hneg.2, if_pos hneg.1] at he
        split at hc
        · cases hc
        rename_i Rc hcc
        split at hc
        · cases hc
        rename_i Ra hca
        split at hc
        · cases hc
        rename_i Rb hcb
        obtain ⟨bb, wc, c1, c2, c3⟩ := ih c (by omega) _ pc h Rc hcc M rc hec st w hst hL hW
        dsimp only at c3
        rw [c1] at he
        have both : (bb = 0 ∧ e_post ro d mid ML1 z Rb r (e_pc pb) st wc ∧ e_re ro d mid pc ML1 st w (e_pc pb) ML1 st wc) ∨ (e_post ro d mid ML1 z Ra r (e_pc pa) st wc ∧ e_re ro d mid pc ML1 st w (e_pc pa) ML1 st wc) := by
          by_cases hb0 : bb = 0
          · subst hb0
            rw [if_pos rfl] at he c3
            exact Or.inl ⟨rfl, ih b (by omega) z _ h Rb hcb _ r he st wc hst hL c2, c3⟩
          · rw [if_neg (fun q => hb0 (by cases q; rfl))] at he
            rw [if_neg hb0] at c3
            exact Or.inr ⟨ih a (by omega) z _ h Ra hca _ r he st wc hst hL c2, c3⟩
        cases z with
        | some q =>
          dsimp only at hc
          cases hc
          rcases both with ⟨-, ⟨b1, w1, e1, e2, e3⟩, e4⟩ | ⟨⟨b1, w1, e1, e2, e3⟩, e4⟩
          · exact ⟨b1, w1, e1, e2, e_re_tr e4 e3⟩
          · exact ⟨b1, w1, e1, e2, e_re_tr e4 e3⟩
        | none =>
          dsimp only at hc
          split at hc
          · rename_i p ts hj hl
            cases hc
            rcases both with ⟨-, ⟨b1, w1, e1, e2, e3⟩, e4⟩ | ⟨⟨b1, w1, e1, e2, e3⟩, e4⟩
            · exact ⟨b1, w1, (e_lub_ok hl).2 _ _ e1, e2, e_re_tr e4 (e_re_tr e3 (e_jn_ok hj _ _).2)⟩
            · exact ⟨b1, w1, (e_lub_ok hl).1 _ _ e1, e2, e_re_tr e4 (e_re_tr e3 (e_jn_ok hj _ _).1)⟩
          · cases hc
      · cases hc
end ESND
