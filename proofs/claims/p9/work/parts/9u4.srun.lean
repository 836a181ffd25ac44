def s_drop (L : SL) (k : Nat) : SL := L.filter (fun q => !(q.1 == k) && !(q.1 + 1 == k && s_isL q.2))
theorem s_drop_val (ρ : Nat → Int32) (L : SL) (k : Nat) : sl_val ρ (s_drop L k) = m_drop (sl_val ρ L) k := by
  simp only [sl_val, s_drop, m_drop, List.filter_map, Function.comp_def, s_isL_val]
def s_ent : Nat → List SV → SL
  | _, [] => []
  | i, v :: vs => (i, v) :: s_ent (if s_isL v = true then i + 2 else i + 1) vs
theorem s_ent_val (ρ : Nat → Int32) : ∀ (i : Nat) (As : List SV), sl_val ρ (s_ent i As) = m_ent i (As.map (s_val ρ))
  | _, [] => rfl
  | i, v :: vs => by
    have h := s_ent_val ρ (if s_isL v = true then i + 2 else i + 1) vs
    show (i, s_val ρ v) :: sl_val ρ (s_ent _ vs) = (i, s_val ρ v) :: m_ent (if m_isL (s_val ρ v) = true then i + 2 else i + 1) _
    rw [h, s_isL_val]
def s_thr (A : SW) : SW := (A.1, A.2.1 + 1, A.2.2.1 + 6, A.2.2.2)
theorem s_w_thr (ρ : Nat → Int32) (A : SW) : s_w ρ (s_thr A) = m_thr (s_w ρ A) := rfl
def s_ret (mid : Nat) (i : Instr) (st : List SV) : Option (Option SV) := match i with
  | .return_ => match st, q_rt mid with
    | [], none => some none
    | _, _ => none
  | .ireturn => match st, q_rt mid with
    | [v], some .int => if s_isI v = true then some (some v) else none
    | [.inl (.inl x)], some .boolean => if x = 0 ∨ x = 1 then some (some (.inl (.inl x))) else none
    | _, _ => none
  | .lreturn => match st, q_rt mid with
    | [v], some .long => if s_isL v = true then some (some v) else none
    | _, _ => none
  | .areturn => match st, q_rt mid with
    | [.inl (.inr (.inr x))], some (.object _) => some (some (.inl (.inr (.inr x))))
    | [.inl (.inr (.inr x))], some (.array _) => some (some (.inl (.inr (.inr x))))
    | _, _ => none
  | _ => none
def s_call (mid : Nat) (i : Instr) (st : List SV) (A : SW) : Option (Nat × List SV × List SV) := match i with
  | .invokestatic idx => match q_m mid idx with
    | some (cm, kd) => if (kd = 1 ∨ kd = 3 ∨ kd = 7) ∧ q_np cm ≤ st.length ∧ s_cats (st.drop (q_np cm)) ≤ 8 ∧ s_cats ((st.take (q_np cm)).reverse) ≤ q_nl cm then some (cm, (st.take (q_np cm)).reverse, st.drop (q_np cm)) else none
    | none => none
  | .invokevirtual idx => match q_m mid idx with
    | some (cm, kd) => match st.drop (q_np cm) with
      | .inl (.inr (.inr (some a))) :: r => if kd = 0 ∧ q_np cm ≤ st.length ∧ s_cats r ≤ 8 ∧ s_cats (.inl (.inr (.inr (some a))) :: (st.take (q_np cm)).reverse) ≤ q_nl cm ∧ 8 ≤ a ∧ a < A.1 ∧ (s_shp A.2.2.2 a).1 < 100 ∧ q_rc cm = some (s_shp A.2.2.2 a).1 then some (cm, .inl (.inr (.inr (some a))) :: (st.take (q_np cm)).reverse, r) else none
      | _ => none
    | none => none
  | .invokespecial idx => match q_m mid idx with
    | some (cm, kd) => match st.drop (q_np cm) with
      | .inl (.inr (.inr (some a))) :: r => if (kd = 2 ∨ kd = 6) ∧ q_np cm ≤ st.length ∧ s_cats r ≤ 8 ∧ s_cats (.inl (.inr (.inr (some a))) :: (st.take (q_np cm)).reverse) ≤ q_nl cm then some (cm, .inl (.inr (.inr (some a))) :: (st.take (q_np cm)).reverse, r) else none
      | _ => none
    | none => none
  | _ => none
def s_hi (E : SE) (k : Nat) (c : Int) : SE := E.set k ((s_iv E k).1, c)
def s_lo (E : SE) (k : Nat) (c : Int) : SE := E.set k (c, (s_iv E k).2)
theorem s_iv_set (E : SE) (k j : Nat) (x : Int × Int) : s_iv (E.set k x) j = x ∧ j = k ∨ s_iv (E.set k x) j = s_iv E j := by
  unfold s_iv
  by_cases h : j = k
  · subst h
    by_cases hl : j < E.length
    · left
      rw [List.getD_eq_getElem?_getD, List.getElem?_set_self hl]
      exact ⟨rfl, rfl⟩
    · right
      rw [List.set_eq_of_length_le (by omega)]
  · right
    rw [List.getD_eq_getElem?_getD, List.getD_eq_getElem?_getD, List.getElem?_set_ne (Ne.symm h)]
theorem s_in_hi {ρ : Nat → Int32} {E : SE} {k : Nat} {c : Int} (h : s_in ρ E) (hc : (ρ k).toInt ≤ c) : s_in ρ (s_hi E k c) := by
  refine ⟨h.1, fun j => ?_⟩
  rcases s_iv_set E k j ((s_iv E k).1, c) with ⟨e, rfl⟩ | e
  · unfold s_hi; rw [e]; exact ⟨(h.2 j).1, hc⟩
  · unfold s_hi; rw [e]; exact h.2 j
theorem s_in_lo {ρ : Nat → Int32} {E : SE} {k : Nat} {c : Int} (h : s_in ρ E) (hc : c ≤ (ρ k).toInt) : s_in ρ (s_lo E k c) := by
  refine ⟨h.1, fun j => ?_⟩
  rcases s_iv_set E k j (c, (s_iv E k).2) with ⟨e, rfl⟩ | e
  · unfold s_lo; rw [e]; exact ⟨hc, (h.2 j).2⟩
  · unfold s_lo; rw [e]; exact h.2 j
def s_all {α β : Type} (f : α → Option (List β)) : List α → Option (List β)
  | [] => some []
  | a :: t => match f a with
    | none => none
    | some x => match s_all f t with
      | none => none
      | some y => some (x ++ y)
theorem s_all_ok {α β : Type} {f : α → Option (List β)} : ∀ {l : List α} {r : List β}, s_all f l = some r → ∀ a ∈ l, ∃ x, f a = some x ∧ ∀ b ∈ x, b ∈ r
  | [], _, _, a, ha => by cases ha
  | a0 :: t, r, h, a, ha => by
    unfold s_all at h
    split at h
    · cases h
    · rename_i x hx
      split at h
      · cases h
      · rename_i y hy
        cases h
        rcases List.mem_cons.mp ha with rfl | ha
        · exact ⟨x, hx, fun b hb => List.mem_append_left _ hb⟩
        · obtain ⟨z, hz, hzz⟩ := s_all_ok hy a ha
          exact ⟨z, hz, fun b hb => List.mem_append_right _ (hzz b hb)⟩
abbrev SQ : Type := SE × SOut × SW
/-- the small machine over symbols: all the ways that a frame may end -/
def s_run : Nat → Nat → Nat → Nat → SL → List SV → SW → SE → Option (List SQ)
  | 0, _, _, _, _, _, _, _ => none
  | n + 1, d, mid, pc, L, st, A, E => match q_th mid pc with
    | some X => if 10 ≤ d ∧ st = [] then some [(E, .inr X, s_thr A)] else none
    | none => match q_i mid pc with
      | none => none
      | some i => match s_step E mid d i pc L st A with
        | some (.inl r) => s_run n d mid r.1 r.2.1 r.2.2.1 r.2.2.2 E
        | some (.inr z) => match s_run n d mid pc L st A (s_hi E z.1 (z.2 - 1)) with
          | none => none
          | some a => match s_run n d mid pc L st A (s_lo E z.1 z.2) with
            | none => none
            | some b => some (a ++ b)
        | none => match s_ret mid i st with
          | some v => some [(E, .inl v, A)]
          | none => match s_call mid i st A with
            | none => none
            | some z => match d with
              | 0 => none
              | d' + 1 => match s_run n d' z.1 0 (s_ent 0 z.2.1) [] A E with
                | none => none
                | some rs => s_all (fun q => match q.2.1 with
                  | .inl v => s_run n (d' + 1) mid (pc + 3) L (v.toList ++ z.2.2) q.2.2 q.1
                  | .inr X => match q_h mid pc X with
                    | some hh => s_run n (d' + 1) mid hh.1 (s_drop L hh.2) [] q.2.2 q.1
                    | none => none) rs
def s_out (ρ : Nat → Int32) : SOut → MOut
  | .inl v => .inl (v.map (s_val ρ))
  | .inr X => .inr X
theorem s_ret_ok {ρ : Nat → Int32} {mid : Nat} {i : Instr} {st : List SV} {v : Option SV} (h : s_ret mid i st = some v) : m_ret mid i (st.map (s_val ρ)) = some (v.map (s_val ρ)) ∧ (i = .return_ ∨ i = .ireturn ∨ i = .lreturn ∨ i = .areturn) := by
  unfold s_ret at h
  split at h
  · refine ⟨?_, Or.inl rfl⟩
    split at h
    · rename_i hrt
      cases h
      simp only [m_ret, List.map_nil, hrt, Option.map_none]
    · cases h
  · refine ⟨?_, Or.inr (Or.inl rfl)⟩
    split at h
    · rename_i v hrt
      split at h
      · rename_i hv
        cases h
        obtain ⟨y, hy⟩ := m_isI_ok ((s_isI_val ρ v).trans hv)
        simp only [m_ret, List.map_cons, List.map_nil, hrt, hy, Option.map_some]
      · cases h
    · rename_i x hrt
      split at h
      · rename_i hv
        cases h
        simp only [m_ret, List.map_cons, List.map_nil, hrt, s_val, Option.map_some]
        rw [if_pos hv]
      · cases h
    · cases h
  · refine ⟨?_, Or.inr (Or.inr (Or.inl rfl))⟩
    split at h
    · rename_i v hrt
      split at h
      · rename_i hv
        cases h
        obtain ⟨y, hy⟩ := m_isL_ok ((s_isL_val ρ v).trans hv)
        simp only [m_ret, List.map_cons, List.map_nil, hrt, hy, Option.map_some]
      · cases h
    · cases h
  · refine ⟨?_, Or.inr (Or.inr (Or.inr rfl))⟩
    split at h
    · rename_i x n hrt
      cases h
      simp only [m_ret, List.map_cons, List.map_nil, hrt, s_val, Option.map_some]
    · rename_i x n hrt
      cases h
      simp only [m_ret, List.map_cons, List.map_nil, hrt, s_val, Option.map_some]
    · cases h
  · cases h
theorem s_call_ok {ρ : Nat → Int32} {mid : Nat} {i : Instr} {st : List SV} {A : SW} {z : Nat × List SV × List SV} (h : s_call mid i st A = some z) :
    m_call mid i (st.map (s_val ρ)) (s_w ρ A) = some (z.1, z.2.1.map (s_val ρ), z.2.2.map (s_val ρ)) ∧ ((∃ idx kd, i = .invokestatic idx ∧ q_m mid idx = some (z.1, kd) ∧ (kd = 1 ∨ kd = 3 ∨ kd = 7)) ∨ (∃ idx, i = .invokevirtual idx) ∨ (∃ idx kd, i = .invokespecial idx ∧ q_m mid idx = some (z.1, kd) ∧ (kd = 2 ∨ kd = 6))) := by
  unfold s_call at h
  split at h
  · split at h
    · rename_i cm kd hq
      split at h
      · rename_i hc
        obtain ⟨h1, h2, h3, h4⟩ := hc
        cases h
        refine ⟨?_, Or.inl ⟨_, kd, rfl, hq, h1⟩⟩
        simp only [m_call, hq]
        rw [if_pos ⟨h1, by rw [List.length_map]; exact h2, by rw [← List.map_drop, s_cats_val]; exact h3, by rw [← List.map_take, ← List.map_reverse, s_cats_val]; exact h4⟩, ← List.map_drop, ← List.map_take, ← List.map_reverse]
      · cases h
    · cases h
  · split at h
    · rename_i cm kd hq
      split at h
      · rename_i a r hdr
        split at h
        · rename_i hc
          obtain ⟨h1, h2, h3, h4, h5, h6, h7, h8⟩ := hc
          cases h
          refine ⟨?_, Or.inr (Or.inl ⟨_, rfl⟩)⟩
          simp only [m_call, hq]
          rw [← List.map_drop, hdr, List.map_cons]
          simp only [s_val]
          rw [if_pos ⟨h1, by rw [List.length_map]; exact h2, by rw [s_cats_val]; exact h3, by
            rw [← List.map_take, ← List.map_reverse]
            have e := s_cats_val ρ (.inl (.inr (.inr (some a))) :: (st.take (q_np cm)).reverse)
            rw [List.map_cons] at e
            simp only [s_val] at e
            rw [e]; exact h4, h5, h6, h7, h8⟩, ← List.map_take, ← List.map_reverse]
          rfl
        · cases h
      · cases h
    · cases h
  · split at h
    · rename_i cm kd hq
      split at h
      · rename_i a r hdr
        split at h
        · rename_i hc
          obtain ⟨h1, h2, h3, h4⟩ := hc
          cases h
          refine ⟨?_, Or.inr (Or.inr ⟨_, kd, rfl, hq, h1⟩)⟩
          simp only [m_call, hq]
          rw [← List.map_drop, hdr, List.map_cons]
          simp only [s_val]
          rw [if_pos ⟨h1, by rw [List.length_map]; exact h2, by rw [s_cats_val]; exact h3, by
            rw [← List.map_take, ← List.map_reverse]
            have e := s_cats_val ρ (.inl (.inr (.inr (some a))) :: (st.take (q_np cm)).reverse)
            rw [List.map_cons] at e
            simp only [s_val] at e
            rw [e]; exact h4⟩, ← List.map_take, ← List.map_reverse]
          rfl
        · cases h
      · cases h
    · cases h
  · cases h
theorem s_run_ok (ro : MRo) : ∀ (n d mid pc : Nat) (L : SL) (st : List SV) (A : SW) (E : SE) (rs : List SQ), s_run n d mid pc L st A E = some rs → ∀ ρ : Nat → Int32, s_in ρ E → s_ro ro ρ →
    ∃ q ∈ rs, s_in ρ q.1 ∧ ∃ k, m_run ro k d mid pc (sl_val ρ L) (st.map (s_val ρ)) (s_w ρ A) = some (s_out ρ q.2.1, s_w ρ q.2.2) := by
  intro n
  induction n with
  | zero => intro d mid pc L st A E rs h; cases h
  | succ n ih =>
    intro d mid pc L st A E rs h ρ hE hro
    unfold s_run at h
    split at h
    · rename_i X hth
      split at h
      · rename_i hc
        obtain ⟨h10, rfl⟩ := hc
        cases h
        refine ⟨_, List.mem_cons_self, hE, 1, ?_⟩
        rw [m_run, hth]
        dsimp only
        rw [if_pos ⟨h10, rfl⟩]
        rfl
      · cases h
    rename_i hth
    split at h
    · cases h
    rename_i i hi
    split at h
    · rename_i r hr
      obtain ⟨q, hq, hqE, k, hk⟩ := ih _ _ _ _ _ _ _ _ h ρ hE hro
      refine ⟨q, hq, hqE, k + 1, ?_⟩
      rw [m_run_stp hth hi (s_step_ok hE hro hr)]
      exact hk
    · rename_i z hz
      split at h
      · cases h
      rename_i a ha
      split at h
      · cases h
      rename_i b hb
      cases h
      by_cases hle : (ρ z.1).toInt ≤ z.2 - 1
      · obtain ⟨q, hq, hqE, k, hk⟩ := ih _ _ _ _ _ _ _ _ ha ρ (s_in_hi hE hle) hro
        exact ⟨q, List.mem_append_left _ hq, hqE, k, hk⟩
      · obtain ⟨q, hq, hqE, k, hk⟩ := ih _ _ _ _ _ _ _ _ hb ρ (s_in_lo hE (by omega)) hro
        exact ⟨q, List.mem_append_right _ hq, hqE, k, hk⟩
    split at h
    · rename_i v hv
      cases h
      obtain ⟨h1, h2⟩ := s_ret_ok (ρ := ρ) hv
      exact ⟨_, List.mem_cons_self, hE, 1, m_run_ret hth hi h1 h2⟩
    split at h
    · cases h
    rename_i z hz
    obtain ⟨hz1, hz2⟩ := s_call_ok (ρ := ρ) hz
    split at h
    · cases h
    split at h
    · cases h
    rename_i rs1 hrs1
    obtain ⟨q1, hq1, hqE1, k1, hk1⟩ := ih _ _ _ _ _ _ _ _ hrs1 ρ hE hro
    rw [s_ent_val] at hk1
    obtain ⟨x, hx, hxr⟩ := s_all_ok h q1 hq1
    split at hx
    · rename_i v hv
      obtain ⟨q, hq, hqE, k, hk⟩ := ih _ _ _ _ _ _ _ _ hx ρ hqE1 hro
      refine ⟨q, hxr q hq, hqE, max k1 k + 1, ?_⟩
      rw [m_run_call hth hi hz1 hz2 (m_run_le hk1 (Nat.le_max_left _ _)), hv]
      show m_run ro (max k1 k) (_ + 1) mid (pc + 3) (sl_val ρ L) ((v.map (s_val ρ)).toList ++ z.2.2.map (s_val ρ)) _ = _
      have e : (v.map (s_val ρ)).toList ++ z.2.2.map (s_val ρ) = (v.toList ++ z.2.2).map (s_val ρ) := by cases v <;> simp
      rw [e]
      exact m_run_le hk (Nat.le_max_right _ _)
    · rename_i X hv
      split at hx
      · rename_i hh hhq
        obtain ⟨q, hq, hqE, k, hk⟩ := ih _ _ _ _ _ _ _ _ hx ρ hqE1 hro
        refine ⟨q, hxr q hq, hqE, max k1 k + 1, ?_⟩
        rw [m_run_call hth hi hz1 hz2 (m_run_le hk1 (Nat.le_max_left _ _)), hv]
        show (match q_h mid pc X with | none => none | some hh => _) = _
        rw [hhq]
        dsimp only
        rw [s_drop_val] at hk
        exact m_run_le hk (Nat.le_max_right _ _)
      · cases hx
