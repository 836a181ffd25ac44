section SSTEP
variable {ρ : Nat → Int32} {E : SE} {pc nL mid d : Nat} {L : SL} {st : List SV} {A : SW} {r : Nat × SL × List SV × SW} {ro : MRo} {i : Instr}
/-- the state, its symbols read -/
abbrev s_rd (ρ : Nat → Int32) (r : Nat × SL × List SV × SW) : Nat × ML × List MV := (r.1, sl_val ρ r.2.1, r.2.2.1.map (s_val ρ))
theorem s_ld_ok {i : Nat} {t : SV → Bool} {mt : MV → Bool} (ht : ∀ v, mt (s_val ρ v) = t v) (h : s_ld pc L st A i t = some (.inl r)) : m_ld pc (sl_val ρ L) (st.map (s_val ρ)) i mt = some (s_rd ρ r) ∧ r.2.2.2 = A := by
  unfold s_ld at h
  split at h
  · rename_i v hv
    split at h
    · rename_i ht2
      cases h
      refine ⟨?_, rfl⟩
      unfold m_ld
      rw [s_gets_val, hv]
      dsimp only [Option.map_some]
      rw [ht, if_pos ht2]
      rfl
    · cases h
  · cases h
theorem s_st1_ok {i : Nat} {t : SV → Bool} {mt : MV → Bool} (ht : ∀ v, mt (s_val ρ v) = t v) (h : s_st1 pc nL L st A i t = some (.inl r)) : m_st1 pc nL (sl_val ρ L) (st.map (s_val ρ)) i mt = some (s_rd ρ r) ∧ r.2.2.2 = A := by
  unfold s_st1 at h
  split at h
  · rename_i v rr
    split at h
    · rename_i hc
      cases h
      refine ⟨?_, rfl⟩
      show (if mt (s_val ρ v) = true ∧ i < nL then _ else _) = _
      rw [ht, if_pos hc]
      unfold s_rd
      rw [s_store_val]
    · cases h
  · cases h
theorem s_st2_ok {i : Nat} (h : s_st2 pc nL L st A i = some (.inl r)) : m_st2 pc nL (sl_val ρ L) (st.map (s_val ρ)) i = some (s_rd ρ r) ∧ r.2.2.2 = A := by
  unfold s_st2 at h
  split at h
  · rename_i v rr
    split at h
    · rename_i hc
      cases h
      refine ⟨?_, rfl⟩
      show (if m_isL (s_val ρ v) = true ∧ i + 1 < nL then _ else _) = _
      rw [s_isL_val, if_pos hc]
      unfold s_rd
      rw [s_store2_val]
    · cases h
  · cases h
theorem s_ii_ok (hE : s_in ρ E) {f : Int32 → Int32 → Option MV} (h : s_ii E pc L st A f = some (.inl r)) : m_ii pc (sl_val ρ L) (st.map (s_val ρ)) f = some (s_rd ρ r) ∧ r.2.2.2 = A := by
  unfold s_ii at h
  split at h
  · rename_i y x rr
    obtain ⟨a, ha, h⟩ := s_wI_ok h
    obtain ⟨b, hb, h⟩ := s_wI_ok h
    split at h
    · rename_i v hv
      cases h
      refine ⟨?_, rfl⟩
      rw [List.map_cons, List.map_cons, s_exI_ok hE ha, s_exI_ok hE hb]
      show (match f a b with | some v => _ | none => _) = _
      rw [hv]
      rfl
    · cases h
  · cases h
theorem s_ll_ok {f : Int64 → Int64 → Option MV} (h : s_ll pc L st A f = some (.inl r)) : m_ll pc (sl_val ρ L) (st.map (s_val ρ)) f = some (s_rd ρ r) ∧ r.2.2.2 = A := by
  unfold s_ll at h
  split at h
  · rename_i y x rr
    split at h
    · rename_i v hv
      cases h
      refine ⟨?_, rfl⟩
      show (match f x y with | some v => _ | none => _) = _
      rw [hv]
      rfl
    · cases h
  · cases h
theorem s_i1_ok (hE : s_in ρ E) {f : Int32 → MV} (h : s_i1 E pc L st A f = some (.inl r)) : m_i1 pc (sl_val ρ L) (st.map (s_val ρ)) f = some (s_rd ρ r) ∧ r.2.2.2 = A := by
  unfold s_i1 at h
  split at h
  · rename_i x rr
    obtain ⟨a, ha, h⟩ := s_wI_ok h
    cases h
    refine ⟨?_, rfl⟩
    rw [List.map_cons, s_exI_ok hE ha]
    rfl
  · cases h
theorem s_to_ok {off : Int} (h : s_to pc off L st A = some (.inl r)) : m_to pc off (sl_val ρ L) (st.map (s_val ρ)) = some (s_rd ρ r) ∧ r.2.2.2 = A := by
  unfold s_to at h
  split at h
  · rename_i hc
    cases h
    refine ⟨?_, rfl⟩
    unfold m_to
    rw [if_pos hc]
  · cases h
theorem s_numT {m : MV} {p : Int} (h : s_num true m = some p) : ∃ x : Int64, m = .inr (.inl x) ∧ p = x.toInt := by
  rcases m with x | x | x
  · cases h
  · cases h; exact ⟨x, rfl, rfl⟩
  · cases h
theorem s_br_ok (hE : s_in ρ E) {off : Int} {c : Jvm.ClassFile.Cond} {x y : SV} {rr : List SV} (h : s_br E pc off L rr A c x y = some (.inl r)) : ∃ a b : Int32, s_val ρ x = .inl a ∧ s_val ρ y = .inl b ∧ 0 ≤ (pc : Int) + off ∧ r = (if m_cmp c a b = true then ((pc : Int) + off).toNat else pc + 3, L, rr, A) := by
  unfold s_br at h
  split at h
  · rename_i o ho
    split at h
    · rename_i hc
      obtain ⟨a, b, ha, hb, h3⟩ := s_dec_ok hE ho
      cases h
      exact ⟨a, b, ha, hb, hc, by rw [h3]⟩
    · cases h
  · cases h
  · cases h
theorem s_val_ex (ρ : Nat → Int32) (m : MV) : s_val ρ (.inl m) = m := rfl
theorem s_fin (hp : m_pure i pc (q_nl mid) (sl_val ρ L) (st.map (s_val ρ)) = some (s_rd ρ r)) (hA : r.2.2.2 = A) : m_stp ro mid d i pc (sl_val ρ L) (st.map (s_val ρ)) (s_w ρ A) = some (r.1, sl_val ρ r.2.1, r.2.2.1.map (s_val ρ), s_w ρ r.2.2.2) := by
  rw [m_stp_p hp, hA]
theorem s_finh {st' : List SV} {A' : SW} (h0 : m_pure i pc (q_nl mid) (sl_val ρ L) (st.map (s_val ρ)) = none) (h : m_heap ro mid i (st.map (s_val ρ)) (s_w ρ A) = some (st'.map (s_val ρ), s_w ρ A')) : m_stp ro mid d i pc (sl_val ρ L) (st.map (s_val ρ)) (s_w ρ A) = some (pc + m_len i, sl_val ρ L, st'.map (s_val ρ), s_w ρ A') := m_stp_h h0 h
theorem s_finn {st' : List SV} {A' : SW} (h0 : m_pure i pc (q_nl mid) (sl_val ρ L) (st.map (s_val ρ)) = none) (h1 : m_heap ro mid i (st.map (s_val ρ)) (s_w ρ A) = none) (h : m_new mid i (st.map (s_val ρ)) (s_w ρ A) = some (st'.map (s_val ρ), s_w ρ A')) : m_stp ro mid d i pc (sl_val ρ L) (st.map (s_val ρ)) (s_w ρ A) = some (pc + m_len i, sl_val ρ L, st'.map (s_val ρ), s_w ρ A') := m_stp_n h0 h1 h
theorem s_fino {st' : List SV} (h0 : m_pure i pc (q_nl mid) (sl_val ρ L) (st.map (s_val ρ)) = none) (h1 : m_heap ro mid i (st.map (s_val ρ)) (s_w ρ A) = none) (h2 : m_new mid i (st.map (s_val ρ)) (s_w ρ A) = none) (h3 : m_ret mid i (st.map (s_val ρ)) = none) (h : m_obj mid i (st.map (s_val ρ)) = some (st'.map (s_val ρ))) (hd : d ≠ 0) : m_stp ro mid d i pc (sl_val ρ L) (st.map (s_val ρ)) (s_w ρ A) = some (pc + 3, sl_val ρ L, st'.map (s_val ρ), s_w ρ A) := m_stp_o h0 h1 h2 h3 h hd
theorem s_finc {v : SV} (h0 : m_pure i pc (q_nl mid) (sl_val ρ L) (st.map (s_val ρ)) = none) (h1 : m_heap ro mid i (st.map (s_val ρ)) (s_w ρ A) = none) (h2 : m_new mid i (st.map (s_val ρ)) (s_w ρ A) = none) (h3 : m_ret mid i (st.map (s_val ρ)) = none) (h4 : m_obj mid i (st.map (s_val ρ)) = none) (h : m_con mid i = some (s_val ρ v)) : m_stp ro mid d i pc (sl_val ρ L) (st.map (s_val ρ)) (s_w ρ A) = some (pc + m_len i, sl_val ρ L, (v :: st).map (s_val ρ), s_w ρ A) := m_stp_c h0 h1 h2 h3 h4 h
theorem s_finy {st' : List SV} {A' : SW} (h0 : m_pure i pc (q_nl mid) (sl_val ρ L) (st.map (s_val ρ)) = none) (h1 : m_heap ro mid i (st.map (s_val ρ)) (s_w ρ A) = none) (h2 : m_new mid i (st.map (s_val ρ)) (s_w ρ A) = none) (h3 : m_ret mid i (st.map (s_val ρ)) = none) (h4 : m_obj mid i (st.map (s_val ρ)) = none) (h5 : m_con mid i = none) (h : m_cpy mid i (st.map (s_val ρ)) (s_w ρ A) = some (st'.map (s_val ρ), s_w ρ A')) (hd : d ≠ 0) : m_stp ro mid d i pc (sl_val ρ L) (st.map (s_val ρ)) (s_w ρ A) = some (pc + 3, sl_val ρ L, st'.map (s_val ρ), s_w ρ A') := m_stp_y h0 h1 h2 h3 h4 h5 h hd
end SSTEP
