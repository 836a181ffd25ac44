section
section ESND
variable {ro : MRo} {d mid hv : Nat} {K : Nat → List Int → EM → EO} {G : List (Nat × Nat)} {L : List Int} {ML1 : ML}
def e_post (ro : MRo) (d mid : Nat) (ML1 : ML) (z : Option (Nat × Nat)) (R : List Nat × Nat) (r : List Int × EM) (pc : Nat) (st : List MV) (w : MWd) : Prop := match z with
  | none => ∃ vs w', e_vs R.1 r.1 vs ∧ e_wr ro r.2 w' ∧ e_re ro d mid pc ML1 st w R.2 ML1 (vs.reverse ++ st) w'
  | some q => ∃ b w', r.1 = [b] ∧ e_wr ro r.2 w' ∧ e_re ro d mid pc ML1 st w (if b = 0 then q.2 else q.1) ML1 st w'
theorem e_re_gt {p : Nat} {st : List MV} {w : MWd} (h : e_gtb mid p = true) : e_re ro d mid p ML1 st w (e_gt mid p) ML1 st w := by
  unfold e_gt
  unfold e_gtb at h
  split at h
  · rename_i off hi
    have h0 := of_decide_eq_true h
    refine e_re_pr (r := (((p : Int) + off).toNat, ML1, st)) hi ?_
    show m_to p off ML1 st = _
    unfold m_to; rw [if_pos h0]
  · exact e_re_rf
theorem e_jn_ok {p q j : Nat} (h : e_jn mid p q = some j) (st : List MV) (w : MWd) : e_re ro d mid p ML1 st w j ML1 st w ∧ e_re ro d mid q ML1 st w j ML1 st w := by
  unfold e_jn at h
  split at h
  · rename_i h1; cases h; subst h1; exact ⟨e_re_rf, e_re_rf⟩
  split at h
  · rename_i h1; cases h
    have := e_re_gt (ro := ro) (d := d) (ML1 := ML1) (st := st) (w := w) h1.1
    rw [h1.2] at this
    exact ⟨this, e_re_rf⟩
  split at h
  · rename_i h1; cases h
    have := e_re_gt (ro := ro) (d := d) (ML1 := ML1) (st := st) (w := w) h1.1
    rw [h1.2] at this
    exact ⟨e_re_rf, this⟩
  split at h
  · rename_i h1; cases h
    have h2 := e_re_gt (ro := ro) (d := d) (ML1 := ML1) (st := st) (w := w) h1.1
    have h3 := e_re_gt (ro := ro) (d := d) (ML1 := ML1) (st := st) (w := w) h1.2.1
    rw [← h1.2.2] at h3
    exact ⟨h2, h3⟩
  · cases h
theorem e_lub_ok {a b c : List Nat} (h : e_lub a b = some c) : (∀ xs vs, e_vs a xs vs → e_vs c xs vs) ∧ (∀ xs vs, e_vs b xs vs → e_vs c xs vs) := by
  unfold e_lub at h
  split at h
  · rename_i t u
    split at h
    · rename_i h1; cases h; subst h1; exact ⟨fun _ _ h => h, fun _ _ h => h⟩
    · split at h
      · rename_i h1
        cases h
        refine ⟨fun xs vs h => ?_, fun xs vs h => ?_⟩
        · obtain ⟨x, v, rfl, rfl, h2⟩ := e_vs_1 h
          exact ⟨by have := e_v_kt h2; rw [h1.1] at this; exact this, trivial⟩
        · obtain ⟨x, v, rfl, rfl, h2⟩ := e_vs_1 h
          exact ⟨by have := e_v_kt h2; rw [h1.2] at this; exact this, trivial⟩
      · cases h
  · cases h
theorem e_math_re {i : Instr} {p n : Nat} {st st' : List MV} {w : MWd} (hi : e_in mid p = some i) (hm : e_math mid i = n) (hn : n ≠ 0) (h0 : 0 < d) (ho : m_obj mid i st = some st') : e_re ro d mid p ML1 st w (p + 3) ML1 st' w := by
  cases i
  case invokestatic idx => exact e_re_o hi rfl rfl (e_no_new (fun _ q => by cases q) (fun _ q => by cases q) (fun _ q => by cases q)) rfl ho h0
  all_goals exact absurd (hm.symm) hn
theorem e_co_ok (h0 : 0 < d) {k p h : Nat} {ts : List Nat} {R : List Nat × Nat} {xs : List Int} {vs st : List MV} {M : EM} {w : MWd} {z : Int} (hc : e_co mid k ts p h = some R) (hvs : e_vs ts xs vs) (hst : m_cats st = h) (hW : e_wr ro M w) (he : e_op k xs M = some z) :
    ∃ q, e_vs R.1 [z] [q] ∧ e_re ro d mid p ML1 (vs.reverse ++ st) w R.2 ML1 (q :: st) w := by
  unfold e_co at hc
  split at hc
  · cases hc
  rename_i i hi
  split at hc
  · rename_i t
    obtain ⟨x, v, rfl, rfl, h1⟩ := e_vs_1 hvs
    split at hc
    · rename_i c hc1
      split at hc
      · rename_i h2
        cases hc
        obtain ⟨rfl, h3⟩ := h2
        have he2 : e_b1 c.1 x = some z := by
          simp only [e_op] at he
          split at he
          · rename_i h63
            exfalso
            cases i <;> first
              | (cases hc1; exact absurd h63 (by decide))
              | (cases hc1; done)
          · exact he
        obtain ⟨q, hq, hr⟩ := e_re_i1 (ro := ro) (d := d) (L := ML1) (st := st) (w := w) hi hc1 h3 h1 he2
        exact ⟨q, ⟨hq, trivial⟩, hr⟩
      · cases hc
    · split at hc
      · rename_i hal
        split at hc
        · rename_i h2
          cases hc
          obtain ⟨rfl, rfl⟩ := h2
          subst hal
          obtain ⟨q, hq, hr⟩ := e_re_alen (d := d) (L := ML1) (st := st) hi hW h1 he
          exact ⟨q, ⟨hq, trivial⟩, hr⟩
        · cases hc
      · split at hc
        · rename_i h2
          cases hc
          obtain ⟨h3, rfl, h4, h5⟩ := h2
          obtain ⟨a, rfl, rfl⟩ := e_v_int h4 h1
          simp only [e_op, if_neg (show ¬ (36 = 63) by decide), e_b1] at he
          cases he
          refine ⟨.inl (if 0 ≤ a then a else 0 - a), ⟨⟨_, rfl, ?_⟩, trivial⟩, ?_⟩
          · have e : (0 ≤ a) ↔ (0 ≤ a.toInt) := Int32.le_iff_toInt_le
            by_cases hh : 0 ≤ a
            · rw [if_pos hh, if_pos (e.mp hh)]
            · rw [if_neg hh, if_neg (fun q => hh (e.mpr q)), Int32.toInt_sub]; exact e_wb _
          · refine e_math_re hi h3 (by decide) h0 ?_
            cases i
            case invokestatic idx =>
              simp only [e_math] at h3
              split at h3
              · cases h3
              · cases h3
              · rename_i hq
                simp only [List.reverse_singleton, List.singleton_append, m_obj, hq]
                rw [if_pos (by rw [hst]; exact h5)]
              · cases h3
            all_goals cases h3
        · cases hc
  · rename_i t u
    obtain ⟨x, y, v, v2, rfl, rfl, h1, h2⟩ := e_vs_2 hvs
    have hrev : ([v, v2] : List MV).reverse ++ st = v2 :: v :: st := rfl
    rw [hrev]
    split at hc
    · rename_i c hc1
      split at hc
      · rename_i h3
        cases hc
        obtain ⟨rfl, h3, h4⟩ := h3
        have he2 : e_b2 c.1 x y = some z := by
          have hn : c.1 ≠ 60 ∧ c.1 ≠ 61 ∧ c.1 ≠ 62 := by
            cases i <;> first
              | (cases hc1; decide)
              | (cases hc1; done)
          simp only [e_op, if_neg hn.1, if_neg hn.2.1, if_neg hn.2.2] at he
          exact he
        obtain ⟨q, hq, hr⟩ := e_re_i2 (ro := ro) (d := d) (L := ML1) (st := st) (w := w) hi hc1 h3 h4 h1 h2 he2
        exact ⟨q, ⟨hq, trivial⟩, hr⟩
      · cases hc
    · split at hc
      · rename_i hia
        split at hc
        · rename_i h3
          cases hc
          obtain ⟨rfl, rfl, h4⟩ := h3
          subst hia
          obtain ⟨q, hq, hr⟩ := e_re_iald (d := d) (L := ML1) (st := st) hi hW rfl h4 h1 h2 he
          exact ⟨q, ⟨hq, trivial⟩, hr⟩
        · cases hc
      · split at hc
        · rename_i hia
          split at hc
          · rename_i h3
            cases hc
            obtain ⟨rfl, rfl, h4⟩ := h3
            subst hia
            obtain ⟨q, hq, hr⟩ := e_re_lald (d := d) (L := ML1) (st := st) hi hW rfl h4 h1 h2 he
            exact ⟨q, ⟨hq, trivial⟩, hr⟩
          · cases hc
        · split at hc
          · rename_i hia
            split at hc
            · rename_i h3
              cases hc
              obtain ⟨rfl, rfl, h4⟩ := h3
              subst hia
              obtain ⟨q, hq, hr⟩ := e_re_aald (d := d) (L := ML1) (st := st) hi hW rfl h4 h1 h2 he
              exact ⟨q, ⟨hq, trivial⟩, hr⟩
            · cases hc
          · split at hc
            · rename_i h3
              cases hc
              obtain ⟨h3, rfl, h4, h5, h6⟩ := h3
              obtain ⟨a, rfl, rfl⟩ := e_v_int h4 h1
              obtain ⟨b, rfl, rfl⟩ := e_v_int h5 h2
              cases i
              case invokestatic idx =>
                rcases h3 with h3 | h3
                · rw [h3] at he
                  simp only [e_op, if_neg (show ¬ (34 = 60) by decide), if_neg (show ¬ (34 = 61) by decide), if_neg (show ¬ (34 = 62) by decide), e_b2] at he
                  cases he
                  refine ⟨.inl (if a < b then b else a), ⟨⟨_, rfl, ?_⟩, trivial⟩, e_math_re hi h3 (by decide) h0 ?_⟩
                  · have e : (a < b) ↔ (a.toInt < b.toInt) := Int32.lt_iff_toInt_lt
                    by_cases hh : a < b
                    · rw [if_pos hh, if_pos (e.mp hh)]
                    · rw [if_neg hh, if_neg (fun q => hh (e.mpr q))]
                  · simp only [e_math] at h3
                    split at h3
                    · rename_i hq
                      simp only [m_obj, hq]
                      rw [if_pos (by rw [hst]; exact h6)]
                    · cases h3
                    · cases h3
                    · cases h3
                · rw [h3] at he
                  simp only [e_op, if_neg (show ¬ (35 = 60) by decide), if_neg (show ¬ (35 = 61) by decide), if_neg (show ¬ (35 = 62) by decide), e_b2] at he
                  cases he
                  refine ⟨.inl (if b < a then b else a), ⟨⟨_, rfl, ?_⟩, trivial⟩, e_math_re hi h3 (by decide) h0 ?_⟩
                  · have e : (b < a) ↔ (b.toInt < a.toInt) := Int32.lt_iff_toInt_lt
                    by_cases hh : b < a
                    · rw [if_pos hh, if_pos (e.mp hh)]
                    · rw [if_neg hh, if_neg (fun q => hh (e.mpr q))]
                  · simp only [e_math] at h3
                    split at h3
                    · cases h3
                    · rename_i hq
                      simp only [m_obj, hq]
                      rw [if_pos (by rw [hst]; exact h6)]
                    · cases h3
                    · cases h3
              all_goals (rcases h3 with h3 | h3 <;> cases h3)
            · cases hc
  · cases hc
theorem e_cn_lt2 {k b c : Nat} {tgt : Int} {nx pt pf : Nat} (h : e_br k b c tgt nx pt pf = true) (hc : c < 6) (hb : b ≤ 54) : k < 60 := by
  rcases e_br_ok h with ⟨h, -, -⟩ | ⟨h, -, -⟩
  · omega
  · have := e_ng_lt hc
    omega
theorem e_cj_lt {k p pt pf : Nat} {ts : List Nat} (hj : e_cj mid k ts p pt pf = true) : k < 60 := by
  unfold e_cj at hj
  repeat' split at hj
  all_goals simp only [Bool.and_eq_true, Bool.or_eq_true, decide_eq_true_eq, Bool.false_eq_true] at hj
  · exact e_cn_lt2 hj.2 (e_cn_lt _) (by decide)
  · exact e_cn_lt2 hj.2 (e_cn_lt _) (by decide)
  · exact e_cn_lt2 hj.2 (e_cn_lt _) (by decide)
  · rcases hj.2 with h | h <;> omega
  · rcases hj.2 with h | h <;> omega
/-- what is pushed is what the tree says; a condition goes where it says -/
theorem e_chk_ok (HK : e_KOK ro K) (hvd : hv ≤ d) (h0 : 0 < d) : ∀ (n : Nat) (x : e_X), SizeOf.sizeOf x ≤ n → ∀ (z : Option (Nat × Nat)) (pc h : Nat) (R : List Nat × Nat), e_chk mid hv G x z pc h = some R → ∀ (M : EM) (r : List Int × EM), e_ev K L x M = some r → ∀ (st : List MV) (w : MWd), m_cats st = h → e_lr (q_nl mid) G L ML1 → e_wr ro M w →
    e_post ro d mid ML1 z R r pc st w := by
  intro n
  induction n with
  | zero => intro x hx; cases x <;> simp at hx
  | succ n ih =>
    intro x hx z pc h R hc M r he st w hst hL hW
    cases x with
    | num c =>
      unfold e_chk at hc
      cases he
      cases z with
      | some q =>
        dsimp only at hc
        split at hc
        · rename_i h1
          cases hc
          refine ⟨c, w, rfl, hW, ?_⟩
          rcases h1 with ⟨rfl, rfl⟩ | ⟨rfl, rfl⟩
          · rw [if_neg (by decide)]; exact e_re_rf
          · rw [if_pos rfl]; exact e_re_rf
        · cases hc
      | none =>
        dsimp only at hc
        split at hc
        · rename_i x hx2
          split at hc
          · rename_i h1
            cases hc
            refine ⟨[.inl x.1], w, ⟨?_, trivial⟩, hW, e_re_cst hx2⟩
            split
            · rename_i h2; exact ⟨h2, _, rfl, h1⟩
            · exact ⟨_, rfl, h1⟩
          · cases hc
        · cases hc
    | var i =>
      unfold e_chk at hc
      cases he
      cases z with
      | some q => cases hc
      | none =>
        dsimp only at hc
        split at hc
        · rename_i x t hx2 ht
          split at hc
          · rename_i h1
            cases hc
            obtain ⟨rfl, h2⟩ := h1
            obtain ⟨v, hv1, hv2⟩ := hL.2 _ _ ht
            exact ⟨[v], w, ⟨hv2, trivial⟩, hW, e_re_lod hx2 hv1 hv2 h2⟩
          · cases hc
        · cases hc
    | add a b =>
      unfold e_chk at hc
      simp at hx
      cases z with
      | some q => cases hc
      | none =>
        dsimp only at hc
        simp only [e_ev, Option.bind_eq_some_iff] at he
        obtain ⟨ra, hea, rb, heb, he⟩ := he
        cases he
        split at hc
        · cases hc
        rename_i Ra hca
        split at hc
        · cases hc
        rename_i Rb hcb
        cases hc
        obtain ⟨va, wa, a1, a2, a3⟩ := ih a (by omega) none pc h Ra hca M ra hea st w hst hL hW
        obtain ⟨vb, wb, b1, b2, b3⟩ := ih b (by omega) none Ra.2 _ Rb hcb ra.2 rb heb (va.reverse ++ st) wa (by rw [e_cats_app, e_cats_rev, e_vs_cat a1, hst]; omega) hL a2
        refine ⟨va ++ vb, wb, e_vs_app a1 b1, b2, e_re_tr a3 ?_⟩
        rw [List.reverse_append, List.append_assoc]
        exact b3
    | neg a => simp [e_chk] at hc
    | mulL k a =>
      unfold e_chk at hc
      simp at hx
      split at hc
      · rename_i h1
        unfold e_ev at he
        rw [if_pos h1] at he
        exact ih a (by omega) z pc h R hc M r he st w hst hL hW
      rename_i hk0
      split at hc
      · rename_i h1
        subst h1
        split at hc
        · rename_i c x hx2
          split at hc
          · rename_i h2
            cases hc
            cases he
            exact ⟨[.inr (.inl x.1)], w, ⟨⟨_, rfl, h2⟩, trivial⟩, hW, e_re_csl hx2⟩
          · cases hc
        · cases hc
      split at hc
      · rename_i h1
        subst h1
        split at hc
        · rename_i c hx2
          split at hc
          · rename_i h2
            cases hc
            cases he
            exact ⟨[.inr (.inr none)], w, ⟨Or.inl ⟨h2, rfl⟩, trivial⟩, hW, e_re_null hx2⟩
          · cases hc
        · cases hc
      split at hc
      · rename_i h1
        subst h1
        split at hc
        · rename_i c idx hx2
          split at hc
          · rename_i s hs
            split at hc
            · rename_i h2
              cases hc
              cases he
              exact ⟨[.inr (.inr (some s))], w, ⟨Or.inr ⟨s, h2, rfl⟩, trivial⟩, hW, e_re_stat hx2 hs⟩
            · cases hc
          · cases hc
        · cases hc
      unfold e_ev at he
      rw [if_neg hk0] at he
      obtain ⟨ra, hea, he⟩ := Option.bind_eq_some_iff.mp he
      split at hc
      · cases hc
      rename_i Ra hca
      obtain ⟨va, wa, a1, a2, a3⟩ := ih a (by omega) none pc h Ra hca M ra hea st w hst hL hW
      cases z with
      | some q =>
        dsimp only at hc
        split at hc
        · rename_i hj
          cases hc
          have h5 : ¬ (5000 ≤ k) := by
            intro h5
            have : k.toNat < 60 := e_cj_lt hj
            omega
          rw [if_neg h5] at he
          obtain ⟨b, hb, he⟩ := Option.bind_eq_some_iff.mp he
          cases he
          exact ⟨b, wa, rfl, a2, e_re_tr a3 (e_re_cj hj a1 hb)⟩
        · cases hc
      | none =>
        dsimp only at hc
        split at hc
        · rename_i h5
          rw [if_pos h5] at he
          obtain ⟨q, hq, he⟩ := Option.bind_eq_some_iff.mp he
          cases he
          split at hc
          · rename_i h6
            split at hc
            · rename_i t ht
              cases hc
              obtain ⟨o, w', g1, g2, g3⟩ := e_re_call (ML1 := ML1) HK hvd h6.1 a1 hst a2 hq
              rw [h6.2] at g2
              rcases g2 with ⟨ov, rfl, g4⟩ | ⟨g4, -⟩
              · rw [ht] at g4
                obtain ⟨v, rfl, g5⟩ := g4
                refine ⟨[v], w', ⟨g5, trivial⟩, g1, e_re_tr a3 ?_⟩
                intro kk oo hkk
                exact g3 kk oo hkk
              · cases g4
            · cases hc
          · cases hc
        · rename_i h5
          rw [if_neg h5] at he
          obtain ⟨b, hb, he⟩ := Option.bind_eq_some_iff.mp he
          cases he
          obtain ⟨q, q1, q2⟩ := e_co_ok (ML1 := ML1) h0 hc a1 hst a2 hb
          exact ⟨[q], wa, q1, a2, e_re_tr a3 q2⟩
    | mulR a k =>
      unfold e_chk at hc
      simp at hx
      cases z with
      | some q => cases hc
      | none =>
        dsimp only at hc
        simp only [e_ev, Option.bind_eq_some_iff] at he
        obtain ⟨ra, hea, b, hb, he⟩ := he
        cases he
        split at hc
        · rename_i t p hca
          split at hc
          · rename_i idx hi
            split at hc
            · rename_i h1
              cases hc
              obtain ⟨h1, rfl⟩ := h1
              obtain ⟨va, wa, a1, a2, a3⟩ := ih a (by omega) none pc h _ hca M ra hea st w hst hL hW
              obtain ⟨x, v, h5, rfl, a4⟩ := e_vs_1 a1
              rw [h5] at hb
              obtain ⟨q, q1, q2⟩ := e_re_get (d := d) (L := ML1) (st := st) hi h1 a2 a4 hb
              exact ⟨[q], wa, ⟨q1, trivial⟩, a2, e_re_tr a3 q2⟩
            · cases hc
          · cases hc
        · cases hc
    | sub c e =>
     cases e with
     | num _ => simp [e_chk] at hc
     | var _ => simp [e_chk] at hc
     | sub _ _ => simp [e_chk] at hc
     | neg _ => simp [e_chk] at hc
     | mulL _ _ => simp [e_chk] at hc
     | mulR _ _ => simp [e_chk] at hc
     | add a' b' =>
     cases a' with
     | num _ => simp [e_chk] at hc
     | var _ => simp [e_chk] at hc
     | sub _ _ => simp [e_chk] at hc
     | neg _ => simp [e_chk] at hc
     | add _ _ => simp [e_chk] at hc
     | mulR _ _ => simp [e_chk] at hc
     | mulL pa a =>
     cases b' with
     | num _ => simp [e_chk] at hc
     | var _ => simp [e_chk] at hc
     | sub _ _ => simp [e_chk] at hc
     | neg _ => simp [e_chk] at hc
     | add _ _ => simp [e_chk] at hc
     | mulR _ _ => simp [e_chk] at hc
     | mulL pb b =>
      unfold e_chk at hc
      simp at hx
      split at hc
      · rename_i hneg
        simp only [e_ev, Option.bind_eq_some_iff] at he
        obtain ⟨rc, hec, he⟩ := he
        rw [if_pos hneg.2, if_pos hneg.1] at he
        split at hc
        · cases hc
        rename_i Rc hcc
        split at hc
        · cases hc
        rename_i Ra hca
        split at hc
        · cases hc
        rename_i Rb hcb
        obtain ⟨bb, wc, c1, c2, c3⟩ := ih c (by omega) _ pc h Rc hcc M rc hec st w hst hL hW
        dsimp only at c3
        rw [c1] at he
        have both : (bb = 0 ∧ e_post ro d mid ML1 z Rb r (e_pc pb) st wc ∧ e_re ro d mid pc ML1 st w (e_pc pb) ML1 st wc) ∨ (e_post ro d mid ML1 z Ra r (e_pc pa) st wc ∧ e_re ro d mid pc ML1 st w (e_pc pa) ML1 st wc) := by
          by_cases hb0 : bb = 0
          · subst hb0
            rw [if_pos rfl] at he c3
            exact Or.inl ⟨rfl, ih b (by omega) z _ h Rb hcb _ r he st wc hst hL c2, c3⟩
          · rw [if_neg (fun q => hb0 (by cases q; rfl))] at he
            rw [if_neg hb0] at c3
            exact Or.inr ⟨ih a (by omega) z _ h Ra hca _ r he st wc hst hL c2, c3⟩
        cases z with
        | some q =>
          dsimp only at hc
          cases hc
          rcases both with ⟨-, ⟨b1, w1, e1, e2, e3⟩, e4⟩ | ⟨⟨b1, w1, e1, e2, e3⟩, e4⟩
          · exact ⟨b1, w1, e1, e2, e_re_tr e4 e3⟩
          · exact ⟨b1, w1, e1, e2, e_re_tr e4 e3⟩
        | none =>
          dsimp only at hc
          split at hc
          · rename_i p ts hj hl
            cases hc
            rcases both with ⟨-, ⟨b1, w1, e1, e2, e3⟩, e4⟩ | ⟨⟨b1, w1, e1, e2, e3⟩, e4⟩
            · exact ⟨b1, w1, (e_lub_ok hl).2 _ _ e1, e2, e_re_tr e4 (e_re_tr e3 (e_jn_ok hj _ _).2)⟩
            · exact ⟨b1, w1, (e_lub_ok hl).1 _ _ e1, e2, e_re_tr e4 (e_re_tr e3 (e_jn_ok hj _ _).1)⟩
          · cases hc
      · cases hc
end ESND
end
section
theorem e_find_key {f : Nat → Bool} {j : Nat} : ∀ {G : List (Nat × Nat)} {t : Nat}, q_find (G.filter (fun q => f q.1)) j = some t → q_find G j = some t ∧ f j = true
  | [], t, h => by simp [q_find] at h
  | (k, u) :: G, t, h => by
    rw [List.filter_cons] at h
    split at h
    · rename_i hf
      unfold q_find at h ⊢
      cases hb : Nat.beq k j with
      | true =>
        rw [hb] at h
        have := Nat.eq_of_beq_eq_true hb
        subst this
        exact ⟨h, hf⟩
      | false =>
        rw [hb] at h
        exact e_find_key h
    · rename_i hf
      have h2 := e_find_key h
      refine ⟨?_, h2.2⟩
      unfold q_find
      cases hb : Nat.beq k j with
      | true =>
        have := Nat.eq_of_beq_eq_true hb
        subst this
        exact absurd h2.2 hf
      | false => exact h2.1
theorem e_get_fil {p : Nat × MV → Bool} {j : Nat} {v : MV} : ∀ {ML1 : ML}, m_get ML1 j = some v → p (j, v) = true → m_get (ML1.filter p) j = some v
  | [], h, _ => by simp [m_get] at h
  | (k, u) :: t, h, hp => by
    unfold m_get at h
    rw [List.filter_cons]
    by_cases hk : k = j
    · rw [if_pos hk] at h
      cases h
      subst hk
      rw [if_pos hp]
      unfold m_get
      rw [if_pos rfl]
    · rw [if_neg hk] at h
      have h2 := e_get_fil h hp
      split
      · unfold m_get
        rw [if_neg hk]; exact h2
      · exact h2
theorem e_kp_ok {G : List (Nat × Nat)} {i t j : Nat} (h : e_kp G i t j = true) : j ≠ i ∧ (j + 1 = i → q_find G j ≠ some 1) ∧ (t = 1 → j ≠ i + 1) := by
  unfold e_kp at h
  simp only [Bool.and_eq_true, Bool.not_eq_true', Bool.and_eq_false_iff, beq_eq_false_iff_ne] at h
  obtain ⟨h1, h2, h3⟩ := h
  refine ⟨fun e => by subst e; simp at h1, fun e => ?_, fun e1 e2 => ?_⟩
  · rcases h2 with h2 | h2
    · subst e; simp at h2
    · exact h2
  · subst e1 e2
    rcases h3 with h3 | h3 <;> simp at h3
theorem e_find_hd {i t : Nat} {G : List (Nat × Nat)} : q_find ((i, t) :: G) i = some t := by
  unfold q_find; simp
theorem e_find_tl {i j t : Nat} {G : List (Nat × Nat)} (h : j ≠ i) : q_find ((i, t) :: G) j = q_find G j := by
  conv => lhs; unfold q_find
  have : Nat.beq i j = false := by
    cases hb : Nat.beq i j with
    | false => rfl
    | true => exact absurd (Nat.eq_of_beq_eq_true hb).symm h
  rw [this]; rfl
section ERUN
variable {ro : MRo} {d mid hv v : Nat} {K J : Nat → List Int → EM → EO} {G : List (Nat × Nat)} {L : List Int} {ML1 : ML}
theorem e_lr_st {nl i t : Nat} {x : Int} {mv : MV} {F : List (Nat × MV)} (hL : e_lr nl G L ML1) (hv : e_v t x mv) (hi : i < nl) (hF : ∀ j u, j ≠ i → (j + 1 = i → m_isL u = false) → (t = 1 → j ≠ i + 1) → m_get ML1 j = some u → m_get F j = some u) : e_lr nl (e_gs G i t) (L.set i x) ((i, mv) :: F) := by
  refine ⟨by rw [List.length_set]; exact hL.1, fun j t' hj => ?_⟩
  by_cases hji : j = i
  · subst hji
    unfold e_gs at hj
    rw [e_find_hd] at hj
    cases hj
    refine ⟨mv, by unfold m_get; rw [if_pos rfl], ?_⟩
    rw [List.getD_eq_getElem?_getD, List.getElem?_set_self (by rw [hL.1]; exact hi)]
    exact hv
  · unfold e_gs at hj
    rw [e_find_tl hji] at hj
    obtain ⟨h1, h2⟩ := e_find_key hj
    obtain ⟨k1, k2, k3⟩ := e_kp_ok h2
    obtain ⟨u, u1, u2⟩ := hL.2 j t' h1
    refine ⟨u, ?_, ?_⟩
    · unfold m_get
      rw [if_neg (Ne.symm hji)]
      refine hF j u hji (fun e => ?_) k3 u1
      rw [e_v_L u2]
      exact decide_eq_false (fun e2 => k2 e (by rw [h1, e2]))
    · rw [List.getD_eq_getElem?_getD, List.getElem?_set_ne (Ne.symm hji), ← List.getD_eq_getElem?_getD]
      exact u2
theorem e_lr_s1 {nl i t : Nat} {x : Int} {mv : MV} (hL : e_lr nl G L ML1) (hv : e_v t x mv) (hi : i < nl) : e_lr nl (e_gs G i t) (L.set i x) (m_store ML1 i mv) := by
  refine e_lr_st hL hv hi (fun j u h1 h2 _ h4 => e_get_fil h4 ?_)
  simp only [Bool.and_eq_true, Bool.not_eq_true', Bool.and_eq_false_iff, beq_eq_false_iff_ne]
  refine ⟨h1, ?_⟩
  by_cases hj : j + 1 = i
  · exact Or.inr (h2 hj)
  · exact Or.inl hj
theorem e_lr_s2 {nl i : Nat} {x : Int} {mv : MV} (hL : e_lr nl G L ML1) (hv : e_v 1 x mv) (hi : i < nl) : e_lr nl (e_gs G i 1) (L.set i x) (m_store2 ML1 i mv) := by
  refine e_lr_st hL hv hi (fun j u h1 h2 h3 h4 => e_get_fil h4 ?_)
  simp only [Bool.and_eq_true, Bool.not_eq_true', Bool.and_eq_false_iff, beq_eq_false_iff_ne]
  refine ⟨h1, h3 rfl, ?_⟩
  by_cases hj : j + 1 = i
  · exact Or.inr (h2 hj)
  · exact Or.inl hj
theorem e_lr_gd {nl i : Nat} (hL : e_lr nl G L ML1) : e_lr nl (e_gd G i) L (m_drop ML1 i) := by
  refine ⟨hL.1, fun j t hj => ?_⟩
  obtain ⟨h1, h2⟩ := e_find_key hj
  obtain ⟨k1, k2, -⟩ := e_kp_ok h2
  obtain ⟨u, u1, u2⟩ := hL.2 j t h1
  refine ⟨u, e_get_fil u1 ?_, u2⟩
  simp only [Bool.and_eq_true, Bool.not_eq_true', Bool.and_eq_false_iff, beq_eq_false_iff_ne]
  refine ⟨k1, ?_⟩
  by_cases hj : j + 1 = i
  · refine Or.inr ?_
    rw [e_v_L u2]
    exact decide_eq_false (fun e2 => k2 hj (by rw [h1, e2]))
  · exact Or.inl hj
theorem e_lr_sub {nl : Nat} {A : List (Nat × Nat)} (hL : e_lr nl G L ML1) (h : e_gsub A G = true) : e_lr nl A L ML1 := by
  refine ⟨hL.1, fun j t hj => ?_⟩
  have h1 := List.all_eq_true.mp h _ (q_find_mem hj)
  dsimp only at h1
  split at h1
  · rename_i t2 ht
    simp only [Bool.or_eq_true, Bool.and_eq_true, decide_eq_true_eq] at h1
    obtain ⟨u, u1, u2⟩ := hL.2 j t2 ht
    exact ⟨u, u1, e_v_sub h1 u2⟩
  · cases h1
/-! stores into the world -/
theorem e_wr_up {M : EM} {w : MWd} {a k : Nat} {x : Int} {mv : MV} (hW : e_wr ro M w) (h8 : 8 ≤ a) (hv : e_v (e_ty a k) x mv) (ht : e_ty a k ≠ 2) : e_wr ro (e_up M a k x) (m_wr w a k mv) := by
  obtain ⟨w1, w2, w3, w4, w5, w6, w7⟩ := hW
  have hlo : ∀ b j, b < 8 → e_up M a k x b j = M b j := fun b j hb => by
    unfold e_up; rw [if_neg (by omega)]
  refine ⟨w1, w2, fun b j hb hn hj => ?_, ?_, ?_, ?_, fun b hb hk => ?_⟩
  · by_cases hba : b = a
    · subst hba
      by_cases hjk : j = k
      · subst hjk
        rw [if_neg ht]
        have e1 : e_up M b j x b j = x := by unfold e_up; simp
        have e2 : mmm (m_wr w b j mv) b j = mv := by show m_up _ _ _ _ _ _ = _; unfold m_up; simp
        rw [e1, e2]; exact hv
      · have e1 : e_up M b k x b j = M b j := by unfold e_up; simp [hjk]
        have e2 : mmm (m_wr w b k mv) b j = mmm w b j := by show m_up _ _ _ _ _ _ = _; unfold m_up; simp [hjk]
        rw [e1, e2]; exact w3 b j hb hn hj
    · have e1 : e_up M a k x b j = M b j := by unfold e_up; simp [hba]
      have e2 : mmm (m_wr w a k mv) b j = mmm w b j := by show m_up _ _ _ _ _ _ = _; unfold m_up; simp [hba]
      rw [e1, e2]; exact w3 b j hb hn hj
  · rw [hlo 5 0 (by decide)]; exact w4
  · rw [hlo 5 0 (by decide)]; exact w5
  · rw [hlo 5 0 (by decide)]; exact w6
  · obtain ⟨n, f, k1, k2, k3, k4⟩ := w7 b hb hk
    refine ⟨n, f, k1, ?_, k3, fun j hj => by rw [hlo b j hb]; exact k4 j hj⟩
    unfold e_sz at k2 ⊢
    rw [hlo 5 1 (by decide)]; exact k2
theorem e_re_ias {M M' : EM} {p : Nat} {t u s : Nat} {x y z : Int} {v1 v2 v3 : MV} {st : List MV} {w : MWd} (hi : e_in mid p = some .iastore) (hW : e_wr ro M w) (ht : t = 2) (hu : e_kt u = 0) (hs : e_kt s = 0) (h1 : e_v t x v1) (h2 : e_v u y v2) (h3 : e_v s z v3) (he : e_st 100 [x, y, z] M = some M') :
    ∃ w', e_wr ro M' w' ∧ e_re ro d mid p ML1 (v3 :: v2 :: v1 :: st) w (p + 1) ML1 st w' := by
  subst ht
  obtain ⟨b, rfl, rfl⟩ := e_v_int hu h2
  obtain ⟨q, rfl, rfl⟩ := e_v_int hs h3
  simp only [e_st] at he
  split at he
  · rename_i hc
    obtain ⟨c0, c1, c2, c3, c4, c5⟩ := hc
    cases he
    have hv3 := e_v2 h1 c1
    subst hv3
    obtain ⟨g1, g2⟩ := e_clamp c4
    have h8 : 8 ≤ x.toNat := by omega
    have hsz : e_sz M x.toNat = (e_sh x.toNat).2 := if_neg (by omega)
    rw [hsz] at c5
    have hty : e_ty x.toNat b.toInt.toNat = 0 := by
      unfold e_ty
      rw [if_neg (by omega), if_pos c3]
    refine ⟨m_wr w x.toNat b.toInt.toNat (.inl q), e_wr_up hW h8 (by rw [hty]; exact ⟨_, rfl, rfl⟩) (by rw [hty]; decide), ?_⟩
    obtain ⟨w1, w2, -⟩ := hW
    refine e_re_h (r := (st, m_wr w x.toNat b.toInt.toNat (.inl q))) hi rfl ?_
    simp only [m_heap]
    rw [if_pos ⟨h8, by rw [w1]; exact c2, by rw [w2 _ h8 c2]; exact c3, g1, by rw [w2 _ h8 c2, g2]; exact c5⟩, g2]
  · cases he
theorem e_re_las {M M' : EM} {p : Nat} {t u : Nat} {x y z : Int} {v1 v2 v3 : MV} {st : List MV} {w : MWd} (hi : e_in mid p = some .lastore) (hW : e_wr ro M w) (ht : t = 2) (hu : e_kt u = 0) (h1 : e_v t x v1) (h2 : e_v u y v2) (h3 : e_v 1 z v3) (he : e_st 101 [x, y, z] M = some M') :
    ∃ w', e_wr ro M' w' ∧ e_re ro d mid p ML1 (v3 :: v2 :: v1 :: st) w (p + 1) ML1 st w' := by
  subst ht
  obtain ⟨b, rfl, rfl⟩ := e_v_int hu h2
  obtain ⟨q, rfl, rfl⟩ := h3
  simp only [e_st] at he
  split at he
  · rename_i hc
    obtain ⟨c0, c1, c2, c3, c4, c5⟩ := hc
    cases he
    have hv3 := e_v2 h1 c1
    subst hv3
    obtain ⟨g1, g2⟩ := e_clamp c4
    have h8 : 8 ≤ x.toNat := by omega
    have hsz : e_sz M x.toNat = (e_sh x.toNat).2 := if_neg (by omega)
    rw [hsz] at c5
    have hty : e_ty x.toNat b.toInt.toNat = 1 := by
      unfold e_ty
      rw [if_neg (by omega), if_neg (by omega), if_pos c3]
    refine ⟨m_wr w x.toNat b.toInt.toNat (.inr (.inl q)), e_wr_up hW h8 (by rw [hty]; exact ⟨_, rfl, rfl⟩) (by rw [hty]; decide), ?_⟩
    obtain ⟨w1, w2, -⟩ := hW
    refine e_re_h (r := (st, m_wr w x.toNat b.toInt.toNat (.inr (.inl q)))) hi rfl ?_
    simp only [m_heap]
    rw [if_pos ⟨h8, by rw [w1]; exact c2, by rw [w2 _ h8 c2]; exact c3, g1, by rw [w2 _ h8 c2, g2]; exact c5⟩, g2]
  · cases he
theorem e_fit_m {ci k t : Nat} {x : Int} {mv : MV} (ht : e_ft2 ci k = t) (h2 : t ≠ 2) (hv : e_v t x mv) : m_fit (q_ty ci k) mv = true := by
  unfold e_ft2 at ht
  unfold m_fit
  split at ht
  · rename_i h; rw [h]; subst ht; obtain ⟨y, rfl, -⟩ := hv; rfl
  · rename_i h; rw [h]; subst ht
    obtain ⟨h0, y, rfl, h1⟩ := hv
    simp only [m_isI, m_int, Bool.true_and, Bool.or_eq_true, beq_iff_eq]
    rcases h0 with rfl | rfl
    · exact Or.inl (e_zero.mpr h1)
    · exact Or.inr (by rw [← Int32.toInt_inj, h1]; rfl)
  · rename_i h; rw [h]; subst ht; obtain ⟨y, rfl, -⟩ := hv; rfl
  · exact absurd ht.symm h2
theorem e_re_put {M M' : EM} {p idx key : Nat} {x z : Int} {v1 v3 : MV} {st : List MV} {w : MWd} (hi : e_in mid p = some (.putfield idx)) (hq : q_f mid idx = some (key / 64, key % 64)) (hpf : q_pf mid idx = true) (hW : e_wr ro M w) (h1 : e_v 2 x v1) (h3 : e_v (e_fty key) z v3) (he : e_pf key [x, z] M = some M') :
    ∃ w', e_wr ro M' w' ∧ e_re ro d mid p ML1 (v3 :: v1 :: st) w (p + 3) ML1 st w' := by
  simp only [e_pf] at he
  split at he
  · rename_i hc
    obtain ⟨⟨c1, c2, c3⟩, c4⟩ := hc
    cases he
    have hv3 := e_v2 h1 (by omega)
    subst hv3
    obtain ⟨f1, f2⟩ := e_q_f hq
    have h8 : 8 ≤ x.toNat := by omega
    have hs := e_sh_ok h8 c2
    rw [if_pos (by omega)] at hs
    have hty : e_ty x.toNat (key % 64) = e_fty key := by
      unfold e_ty
      rw [if_pos (by omega), c3]
      rfl
    refine ⟨m_wr w x.toNat (key % 64) v3, e_wr_up hW h8 (by rw [hty]; exact h3) (by rw [hty]; exact c4), ?_⟩
    obtain ⟨w1, w2, -⟩ := hW
    refine e_re_h (r := (st, m_wr w x.toNat (key % 64) v3)) hi rfl ?_
    simp only [m_heap, hq]
    rw [if_pos ⟨h8, by rw [w1]; exact c2, by rw [w2 _ h8 c2, ← c3, ← hs], hpf, e_fit_m (t := e_fty key) rfl c4 h3⟩]
  · cases he
theorem e_re_cp {M M' : EM} {p idx : Nat} {z : Nat} {t1 t2 t3 t4 t5 : Nat} {x1 x2 x3 x4 x5 : Int} {v1 v2 v3 v4 v5 : MV} {st : List MV} {w : MWd} (hi : e_in mid p = some (.invokestatic idx)) (hq : q_m mid idx = some (z, 9)) (h0 : 0 < d) (hst : m_cats st ≤ 8) (hW : e_wr ro M w) (h1 : e_v 2 x1 v1) (h2 : e_v t2 x2 v2) (h3 : e_v 2 x3 v3) (h4 : e_v t4 x4 v4) (h5 : e_v t5 x5 v5) (k2 : e_kt t2 = 0) (k4 : e_kt t4 = 0) (k5 : e_kt t5 = 0) (he : e_cp [x1, x2, x3, x4, x5] M = some M') :
    ∃ w', e_wr ro M' w' ∧ e_re ro d mid p ML1 (v5 :: v4 :: v3 :: v2 :: v1 :: st) w (p + 3) ML1 st w' := by
  obtain ⟨sp, rfl, rfl⟩ := e_v_int k2 h2
  obtain ⟨dp, rfl, rfl⟩ := e_v_int k4 h4
  obtain ⟨n, rfl, rfl⟩ := e_v_int k5 h5
  simp only [e_cp] at he
  split at he
  · rename_i hc
    obtain ⟨⟨a1, a2, a3⟩, ⟨b1, b2, b3⟩, c1, c2, c3, c4, c5⟩ := hc
    cases he
    have hv1 := e_v2 h1 (by omega)
    have hv3 := e_v2 h3 (by omega)
    subst hv1 hv3
    have h8 : 8 ≤ x3.toNat := by omega
    have h8' : 8 ≤ x1.toNat := by omega
    obtain ⟨g1, g2⟩ := e_clamp c1
    obtain ⟨g3, g4⟩ := e_clamp c2
    obtain ⟨g5, g6⟩ := e_clamp c3
    refine ⟨m_cp w x1.toNat x3.toNat sp.toInt.toNat dp.toInt.toNat n.toInt.toNat, ?_, ?_⟩
    · obtain ⟨w1, w2, w3, w4, w5, w6, w7⟩ := hW
      have hn3 : ∀ b j, b ≠ x3.toNat → e_cpm M x1.toNat sp.toInt.toNat x3.toNat dp.toInt.toNat n.toInt.toNat b j = M b j := fun b j hb => if_neg (fun q => hb q.1)
      have hlo : ∀ b j, b < 8 → e_cpm M x1.toNat sp.toInt.toNat x3.toNat dp.toInt.toNat n.toInt.toNat b j = M b j := fun b j hb => hn3 b j (by omega)
      refine ⟨w1, w2, fun b j hb hn hj => ?_, ?_, ?_, ?_, fun b hb hk => ?_⟩
      · by_cases hba : b = x3.toNat
        · subst hba
          have hty : ∀ j, e_ty x3.toNat j = 0 := fun j => by
            unfold e_ty
            rw [if_neg (by omega), if_pos a3]
          have hty1 : ∀ j, e_ty x1.toNat j = 0 := fun j => by
            unfold e_ty
            rw [if_neg (by omega), if_pos b3]
          rw [hty, if_neg (by decide)]
          have e2 : mmm (m_cp w x1.toNat x3.toNat sp.toInt.toNat dp.toInt.toNat n.toInt.toNat) x3.toNat j = (if dp.toInt.toNat ≤ j ∧ j < dp.toInt.toNat + n.toInt.toNat then .inl (m_int (mmm w x1.toNat (sp.toInt.toNat + (j - dp.toInt.toNat)))) else mmm w x3.toNat j) := by
            unfold m_cp mmm
            dsimp only
            rw [if_pos rfl]
          rw [e2]
          by_cases hin : dp.toInt.toNat ≤ j ∧ j < dp.toInt.toNat + n.toInt.toNat
          · have h9 := w3 x1.toNat (sp.toInt.toNat + (j - dp.toInt.toNat)) h8' b2 (by omega)
            rw [hty1, if_neg (by decide)] at h9
            obtain ⟨q, q1, q2⟩ := h9
            rw [if_pos hin, q1]
            refine ⟨q, rfl, ?_⟩
            rw [q2]
            exact (if_pos ⟨rfl, hin⟩).symm
          · have h9 := w3 x3.toNat j hb hn hj
            rw [hty, if_neg (by decide)] at h9
            rw [if_neg hin, show e_cpm M x1.toNat sp.toInt.toNat x3.toNat dp.toInt.toNat n.toInt.toNat x3.toNat j = M x3.toNat j from if_neg (fun q => hin q.2)]
            exact h9
        · have e2 : mmm (m_cp w x1.toNat x3.toNat sp.toInt.toNat dp.toInt.toNat n.toInt.toNat) b j = mmm w b j := by
            unfold m_cp mmm
            dsimp only
            rw [if_neg hba]
          rw [e2, hn3 b j hba]; exact w3 b j hb hn hj
      · rw [hlo 5 0 (by decide)]; exact w4
      · rw [hlo 5 0 (by decide)]; exact w5
      · rw [hlo 5 0 (by decide)]; exact w6
      · obtain ⟨n9, f, k1, k2, k3, k4⟩ := w7 b hb hk
        refine ⟨n9, f, k1, ?_, k3, fun j hj => by rw [hlo b j hb]; exact k4 j hj⟩
        unfold e_sz at k2 ⊢
        rw [hlo 5 1 (by decide)]; exact k2
    · obtain ⟨w1, w2, -⟩ := hW
      have hc : m_cpy mid (.invokestatic idx) (.inl n :: .inl dp :: .inr (.inr (some x3.toNat)) :: .inl sp :: .inr (.inr (some x1.toNat)) :: st) w = some (st, m_cp w x1.toNat x3.toNat sp.toInt.toNat dp.toInt.toNat n.toInt.toNat) := by
        simp only [m_cpy, hq]
        rw [if_pos ⟨h8, by rw [w1]; exact a2, by rw [w2 _ h8 a2]; exact a3, h8', by rw [w1]; exact b2, by rw [w2 _ h8' b2]; exact b3, g1, g3, g5, by rw [w2 _ h8' b2, g2, g6]; omega, by rw [w2 _ h8 a2, g4, g6]; omega, hst⟩, g2, g4, g6]
      refine e_re_stp (r := (p + 3, ML1, st, m_cp w x1.toNat x3.toNat sp.toInt.toNat dp.toInt.toNat n.toInt.toNat)) hi (m_stp_y rfl rfl (e_no_new (fun _ q => by cases q) (fun _ q => by cases q) (fun _ q => by cases q)) rfl ?_ rfl hc (by omega))
      simp only [m_obj, hq]
  · cases he
end ERUN
end
