section ESND
variable {ro : MRo} {d mid hv : Nat} {K : Nat → List Int → EM → EO} {G : List (Nat × Nat)} {L : List Int} {ML1 : ML}
def e_post (ro : MRo) (d mid : Nat) (ML1 : ML) (z : Option (Nat × Nat)) (R : List Nat × Nat) (r : List Int × EM) (pc : Nat) (st : List MV) (w : MWd) : Prop := match z with
  | none => ∃ vs w', e_vs R.1 r.1 vs ∧ e_wr ro r.2 w' ∧ e_re ro d mid pc ML1 st w R.2 ML1 (vs.reverse ++ st) w'
  | some q => ∃ b w', r.1 = [b] ∧ e_wr ro r.2 w' ∧ e_re ro d mid pc ML1 st w (if b = 0 then q.2 else q.1) ML1 st w'
theorem e_re_gt {p : Nat} {st : List MV} {w : MWd} (h : e_gtb mid p = true) : e_re ro d mid p ML1 st w (e_gt mid p) ML1 st w := by
  unfold e_gt
  unfold e_gtb at h
  split at h
  · rename_i off hi
    have h0 := of_decide_eq_true h
    refine e_re_pr (r := (((p : Int) + off).toNat, ML1, st)) hi ?_
    show m_to p off ML1 st = _
    unfold m_to; rw [if_pos h0]
  · exact e_re_rf
theorem e_jn_ok {p q j : Nat} (h : e_jn mid p q = some j) (st : List MV) (w : MWd) : e_re ro d mid p ML1 st w j ML1 st w ∧ e_re ro d mid q ML1 st w j ML1 st w := by
  unfold e_jn at h
  split at h
  · rename_i h1; cases h; subst h1; exact ⟨e_re_rf, e_re_rf⟩
  split at h
  · rename_i h1; cases h
    have := e_re_gt (ro := ro) (d := d) (ML1 := ML1) (st := st) (w := w) h1.1
    rw [h1.2] at this
    exact ⟨this, e_re_rf⟩
  split at h
  · rename_i h1; cases h
    have := e_re_gt (ro := ro) (d := d) (ML1 := ML1) (st := st) (w := w) h1.1
    rw [h1.2] at this
    exact ⟨e_re_rf, this⟩
  split at h
  · rename_i h1; cases h
    have h2 := e_re_gt (ro := ro) (d := d) (ML1 := ML1) (st := st) (w := w) h1.1
    have h3 := e_re_gt (ro := ro) (d := d) (ML1 := ML1) (st := st) (w := w) h1.2.1
    rw [← h1.2.2] at h3
    exact ⟨h2, h3⟩
  · cases h
theorem e_lub_ok {a b c : List Nat} (h : e_lub a b = some c) : (∀ xs vs, e_vs a xs vs → e_vs c xs vs) ∧ (∀ xs vs, e_vs b xs vs → e_vs c xs vs) := by
  unfold e_lub at h
  split at h
  · rename_i t u
    split at h
    · rename_i h1; cases h; subst h1; exact ⟨fun _ _ h => h, fun _ _ h => h⟩
    · split at h
      · rename_i h1
        cases h
        refine ⟨fun xs vs h => ?_, fun xs vs h => ?_⟩
        · obtain ⟨x, v, rfl, rfl, h2⟩ := e_vs_1 h
          exact ⟨by have := e_v_kt h2; rw [h1.1] at this; exact this, trivial⟩
        · obtain ⟨x, v, rfl, rfl, h2⟩ := e_vs_1 h
          exact ⟨by have := e_v_kt h2; rw [h1.2] at this; exact this, trivial⟩
      · cases h
  · cases h
theorem e_math_re {i : Instr} {p n : Nat} {st st' : List MV} {w : MWd} (hi : e_in mid p = some i) (hm : e_math mid i = n) (hn : n ≠ 0) (h0 : 0 < d) (ho : m_obj mid i st = some st') : e_re ro d mid p ML1 st w (p + 3) ML1 st' w := by
  cases i
  case invokestatic idx => exact e_re_o hi rfl rfl (e_no_new (fun _ q => by cases q) (fun _ q => by cases q) (fun _ q => by cases q)) rfl ho h0
  all_goals exact absurd (hm.symm) hn
theorem e_co_ok (h0 : 0 < d) {k p h : Nat} {ts : List Nat} {R : List Nat × Nat} {xs : List Int} {vs st : List MV} {M : EM} {w : MWd} {z : Int} (hc : e_co mid k ts p h = some R) (hvs : e_vs ts xs vs) (hst : m_cats st = h) (hW : e_wr ro M w) (he : e_op k xs M = some z) :
    ∃ q, e_vs R.1 [z] [q] ∧ e_re ro d mid p ML1 (vs.reverse ++ st) w R.2 ML1 (q :: st) w := by
  unfold e_co at hc
  split at hc
  · cases hc
  rename_i i hi
  split at hc
  · rename_i t
    obtain ⟨x, v, rfl, rfl, h1⟩ := e_vs_1 hvs
    split at hc
    · rename_i c hc1
      split at hc
      · rename_i h2
        cases hc
        obtain ⟨rfl, h3⟩ := h2
        have he2 : e_b1 c.1 x = some z := by
          simp only [e_op] at he
          split at he
          · rename_i h63
            exfalso
            cases i <;> first
              | (cases hc1; exact absurd h63 (by decide))
              | (cases hc1; done)
          · exact he
        obtain ⟨q, hq, hr⟩ := e_re_i1 (ro := ro) (d := d) (L := ML1) (st := st) (w := w) hi hc1 h3 h1 he2
        exact ⟨q, ⟨hq, trivial⟩, hr⟩
      · cases hc
    · split at hc
      · rename_i hal
        split at hc
        · rename_i h2
          cases hc
          obtain ⟨rfl, rfl⟩ := h2
          subst hal
          obtain ⟨q, hq, hr⟩ := e_re_alen (d := d) (L := ML1) (st := st) hi hW h1 he
          exact ⟨q, ⟨hq, trivial⟩, hr⟩
        · cases hc
      · split at hc
        · rename_i h2
          cases hc
          obtain ⟨h3, rfl, h4, h5⟩ := h2
          obtain ⟨a, rfl, rfl⟩ := e_v_int h4 h1
          simp only [e_op, if_neg (show ¬ (36 = 63) by decide), e_b1] at he
          cases he
          refine ⟨.inl (if 0 ≤ a then a else 0 - a), ⟨⟨_, rfl, ?_⟩, trivial⟩, ?_⟩
          · have e : (0 ≤ a) ↔ (0 ≤ a.toInt) := Int32.le_iff_toInt_le
            by_cases hh : 0 ≤ a
            · rw [if_pos hh, if_pos (e.mp hh)]
            · rw [if_neg hh, if_neg (fun q => hh (e.mpr q)), Int32.toInt_sub]; exact e_wb _
          · refine e_math_re hi h3 (by decide) h0 ?_
            cases i
            case invokestatic idx =>
              simp only [e_math] at h3
              split at h3
              · cases h3
              · cases h3
              · rename_i hq
                simp only [List.reverse_singleton, List.singleton_append, m_obj, hq]
                rw [if_pos (by rw [hst]; exact h5)]
              · cases h3
            all_goals cases h3
        · cases hc
  · rename_i t u
    obtain ⟨x, y, v, v2, rfl, rfl, h1, h2⟩ := e_vs_2 hvs
    have hrev : ([v, v2] : List MV).reverse ++ st = v2 :: v :: st := rfl
    rw [hrev]
    split at hc
    · rename_i c hc1
      split at hc
      · rename_i h3
        cases hc
        obtain ⟨rfl, h3, h4⟩ := h3
        have he2 : e_b2 c.1 x y = some z := by
          have hn : c.1 ≠ 60 ∧ c.1 ≠ 61 ∧ c.1 ≠ 62 := by
            cases i <;> first
              | (cases hc1; decide)
              | (cases hc1; done)
          simp only [e_op, if_neg hn.1, if_neg hn.2.1, if_neg hn.2.2] at he
          exact he
        obtain ⟨q, hq, hr⟩ := e_re_i2 (ro := ro) (d := d) (L := ML1) (st := st) (w := w) hi hc1 h3 h4 h1 h2 he2
        exact ⟨q, ⟨hq, trivial⟩, hr⟩
      · cases hc
    · split at hc
      · rename_i hia
        split at hc
        · rename_i h3
          cases hc
          obtain ⟨rfl, rfl, h4⟩ := h3
          subst hia
          obtain ⟨q, hq, hr⟩ := e_re_iald (d := d) (L := ML1) (st := st) hi hW rfl h4 h1 h2 he
          exact ⟨q, ⟨hq, trivial⟩, hr⟩
        · cases hc
      · split at hc
        · rename_i hia
          split at hc
          · rename_i h3
            cases hc
            obtain ⟨rfl, rfl, h4⟩ := h3
            subst hia
            obtain ⟨q, hq, hr⟩ := e_re_lald (d := d) (L := ML1) (st := st) hi hW rfl h4 h1 h2 he
            exact ⟨q, ⟨hq, trivial⟩, hr⟩
          · cases hc
        · split at hc
          · rename_i hia
            split at hc
            · rename_i h3
              cases hc
              obtain ⟨rfl, rfl, h4⟩ := h3
              subst hia
              obtain ⟨q, hq, hr⟩ := e_re_aald (d := d) (L := ML1) (st := st) hi hW rfl h4 h1 h2 he
              exact ⟨q, ⟨hq, trivial⟩, hr⟩
            · cases hc
          · split at hc
            · rename_i h3
              cases hc
              obtain ⟨h3, rfl, h4, h5, h6⟩ := h3
              obtain ⟨a, rfl, rfl⟩ := e_v_int h4 h1
              obtain ⟨b, rfl, rfl⟩ := e_v_int h5 h2
              cases i
              case invokestatic idx =>
                rcases h3 with h3 | h3
                · rw [h3] at he
                  simp only [e_op, if_neg (show ¬ (34 = 60) by decide), if_neg (show ¬ (34 = 61) by decide), if_neg (show ¬ (34 = 62) by decide), e_b2] at he
                  cases he
                  refine ⟨.inl (if a < b then b else a), ⟨⟨_, rfl, ?_⟩, trivial⟩, e_math_re hi h3 (by decide) h0 ?_⟩
                  · have e : (a < b) ↔ (a.toInt < b.toInt) := Int32.lt_iff_toInt_lt
                    by_cases hh : a < b
                    · rw [if_pos hh, if_pos (e.mp hh)]
                    · rw [if_neg hh, if_neg (fun q => hh (e.mpr q))]
                  · simp only [e_math] at h3
                    split at h3
                    · rename_i hq
                      simp only [m_obj, hq]
                      rw [if_pos (by rw [hst]; exact h6)]
                    · cases h3
                    · cases h3
                    · cases h3
                · rw [h3] at he
                  simp only [e_op, if_neg (show ¬ (35 = 60) by decide), if_neg (show ¬ (35 = 61) by decide), if_neg (show ¬ (35 = 62) by decide), e_b2] at he
                  cases he
                  refine ⟨.inl (if b < a then b else a), ⟨⟨_, rfl, ?_⟩, trivial⟩, e_math_re hi h3 (by decide) h0 ?_⟩
                  · have e : (b < a) ↔ (b.toInt < a.toInt) := Int32.lt_iff_toInt_lt
                    by_cases hh : b < a
                    · rw [if_pos hh, if_pos (e.mp hh)]
                    · rw [if_neg hh, if_neg (fun q => hh (e.mpr q))]
                  · simp only [e_math] at h3
                    split at h3
                    · cases h3
                    · rename_i hq
                      simp only [m_obj, hq]
                      rw [if_pos (by rw [hst]; exact h6)]
                    · cases h3
                    · cases h3
              all_goals (rcases h3 with h3 | h3 <;> cases h3)
            · cases hc
  · cases hc
end ESND
