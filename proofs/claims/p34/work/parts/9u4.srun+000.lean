def s_drop (L : SL) (k : Nat) : SL := L.filter (fun q => !(q.1 == k) && !(q.1 + 1 == k && s_isL q.2))
theorem s_drop_val (ρ : Nat → Int32) (L : SL) (k : Nat) : sl_val ρ (s_drop L k) = m_drop (sl_val ρ L) k := by
  simp only [sl_val, s_drop, m_drop, List.filter_map, Function.comp_def, s_isL_val]
def s_ent : Nat → List SV → SL
  | _, [] => []
  | i, v :: vs => (i, v) :: s_ent (if s_isL v = true then i + 2 else i + 1) vs
theorem s_ent_val (ρ : Nat → Int32) : ∀ (i : Nat) (As : List SV), sl_val ρ (s_ent i As) = m_ent i (As.map (s_val ρ))
  | _, [] => rfl
  | i, v :: vs => by
    have h := s_ent_val ρ (if s_isL v = true then i + 2 else i + 1) vs
    show (i, s_val ρ v) :: sl_val ρ (s_ent _ vs) = (i, s_val ρ v) :: m_ent (if m_isL (s_val ρ v) = true then i + 2 else i + 1) _
    rw [h, s_isL_val]
def s_thr (A : SW) : SW := (A.1, A.2.1 + 1, A.2.2.1 + 6, A.2.2.2)
theorem s_w_thr (ρ : Nat → Int32) (A : SW) : s_w ρ (s_thr A) = m_thr (s_w ρ A) := rfl
def s_ret (mid : Nat) (i : Instr) (st : List SV) : Option (Option SV) := match i with
  | .return_ => match st, q_rt mid with
    | [], none => some none
    | _, _ => none
  | .ireturn => match st, q_rt mid with
    | [v], some .int => if s_isI v = true then some (some v) else none
    | [.inl (.inl x)], some .boolean => if x = 0 ∨ x = 1 then some (some (.inl (.inl x))) else none
    | _, _ => none
  | .lreturn => match st, q_rt mid with
    | [v], some .long => if s_isL v = true then some (some v) else none
    | _, _ => none
  | .areturn => match st, q_rt mid with
    | [.inl (.inr (.inr x))], some (.object _) => some (some (.inl (.inr (.inr x))))
    | [.inl (.inr (.inr x))], some (.array _) => some (some (.inl (.inr (.inr x))))
    | _, _ => none
  | _ => none
def s_call (mid : Nat) (i : Instr) (st : List SV) (A : SW) : Option (Nat × List SV × List SV) := match i with
  | .invokestatic idx => match q_m mid idx with
    | some (cm, kd) => if (kd = 1 ∨ kd = 3 ∨ kd = 7) ∧ q_np cm ≤ st.length ∧ s_cats (st.drop (q_np cm)) ≤ 8 ∧ s_cats ((st.take (q_np cm)).reverse) ≤ q_nl cm then some (cm, (st.take (q_np cm)).reverse, st.drop (q_np cm)) else none
    | none => none
  | .invokevirtual idx => match q_m mid idx with
    | some (cm, kd) => match st.drop (q_np cm) with
      | .inl (.inr (.inr (some a))) :: r => if kd = 0 ∧ q_np cm ≤ st.length ∧ s_cats r ≤ 8 ∧ s_cats (.inl (.inr (.inr (some a))) :: (st.take (q_np cm)).reverse) ≤ q_nl cm ∧ 8 ≤ a ∧ a < A.1 ∧ (s_shp A.2.2.2 a).1 < 100 ∧ q_rc cm = some (s_shp A.2.2.2 a).1 then some (cm, .inl (.inr (.inr (some a))) :: (st.take (q_np cm)).reverse, r) else none
      | _ => none
    | none => none
  | .invokespecial idx => match q_m mid idx with
    | some (cm, kd) => match st.drop (q_np cm) with
      | .inl (.inr (.inr (some a))) :: r => if (kd = 2 ∨ kd = 6) ∧ q_np cm ≤ st.length ∧ s_cats r ≤ 8 ∧ s_cats (.inl (.inr (.inr (some a))) :: (st.take (q_np cm)).reverse) ≤ q_nl cm then some (cm, .inl (.inr (.inr (some a))) :: (st.take (q_np cm)).reverse, r) else none
      | _ => none
    | none => none
  | _ => none
def s_hi (E : SE) (k : Nat) (c : Int) : SE := E.set k ((s_iv E k).1, c)
def s_lo (E : SE) (k : Nat) (c : Int) : SE := E.set k (c, (s_iv E k).2)
theorem s_iv_set (E : SE) (k j : Nat) (x : Int × Int) : s_iv (E.set k x) j = x ∧ j = k ∨ s_iv (E.set k x) j = s_iv E j := by
  unfold s_iv
  by_cases h : j = k
  · subst h
    by_cases hl : j < E.length
    · left
      rw [List.getD_eq_getElem?_getD, List.getElem?_set_self hl]
      exact ⟨rfl, rfl⟩
    · right
      rw [List.set_eq_of_length_le (by omega)]
  · right
    rw [List.getD_eq_getElem?_getD, List.getD_eq_getElem?_getD, List.getElem?_set_ne (Ne.symm h)]
theorem s_in_hi {ρ : Nat → Int32} {E : SE} {k : Nat} {c : Int} (h : s_in ρ E) (hc : (ρ k).toInt ≤ c) : s_in ρ (s_hi E k c) := by
  refine ⟨h.1, fun j => ?_⟩
  rcases s_iv_set E k j ((s_iv E k).1, c) with ⟨e, rfl⟩ | e
  · unfold s_hi; rw [e]; exact ⟨(h.2 j).1, hc⟩
  · unfold s_hi; rw [e]; exact h.2 j
theorem s_in_lo {ρ : Nat → Int32} {E : SE} {k : Nat} {c : Int} (h : s_in ρ E) (hc : c ≤ (ρ k).toInt) : s_in ρ (s_lo E k c) := by
  refine ⟨h.1, fun j => ?_⟩
  rcases s_iv_set E k j (c, (s_iv E k).2) with ⟨e, rfl⟩ | e
  · unfold s_lo; rw [e]; exact ⟨hc, (h.2 j).2⟩
  · unfold s_lo; rw [e]; exact h.2 j
def s_all {α β : Type} (f : α → Option (List β)) : List α → Option (List β)
  | [] => some []
  | a :: t => match f a with
    | none => none
    | some x => match s_all f t with
      | none => none
      | some y => some (x ++ y)
theorem s_all_ok {α β : Type} {f : α → Option (List β)} : ∀ {l : List α} {r : List β}, s_all f l = some r → ∀ a ∈ l, ∃ x, f a = some x ∧ ∀ b ∈ x, b ∈ r
  | [], _, _, a, ha => by cases ha
  | a0 :: t, r, h, a, ha => by
    unfold s_all at h
    split at h
    · cases h
    · rename_i x hx
      split at h
      · cases h
      · rename_i y hy
        cases h
        rcases List.mem_cons.mp ha with rfl | ha
        · exact ⟨x, hx, fun b hb => List.mem_append_left _ hb⟩
        · obtain ⟨z, hz, hzz⟩ := s_all_ok hy a ha
          exact ⟨z, hz, fun b hb => List.mem_append_right _ (hzz b hb)⟩
abbrev SQ : Type := SE × SOut × SW
/-- the small machine over symbols: all the ways that a frame may end -/
def s_run : Nat → Nat → Nat → Nat → SL → List SV → SW → SE → Option (List SQ)
  | 0, _, _, _, _, _, _, _ => none
  | n + 1, d, mid, pc, L, st, A, E => match q_th mid pc with
    | some X => if 10 ≤ d ∧ st = [] then some [(E, .inr X, s_thr A)] else none
    | none => match q_i mid pc with
      | none => none
      | some i => match s_step E mid d i pc L st A with
        | some (.inl r) => s_run n d mid r.1 r.2.1 r.2.2.1 r.2.2.2 E
        | some (.inr z) => match s_run n d mid pc L st A (s_hi E z.1 (z.2 - 1)) with
          | none => none
          | some a => match s_run n d mid pc L st A (s_lo E z.1 z.2) with
            | none => none
            | some b => some (a ++ b)
        | none => match s_ret mid i st with
          | some v => some [(E, .inl v, A)]
          | none => match s_call mid i st A with
            | none => none
            | some z => match d with
              | 0 => none
              | d' + 1 => match s_run n d' z.1 0 (s_ent 0 z.2.1) [] A E with
                | none => none
                | some rs => s_all (fun q => match q.2.1 with
                  | .inl v => s_run n (d' + 1) mid (pc + 3) L (v.toList ++ z.2.2) q.2.2 q.1
                  | .inr X => match q_h mid pc X with
                    | some hh => s_run n (d' + 1) mid hh.1 (s_drop L hh.2) [] q.2.2 q.1
                    | none => none) rs
