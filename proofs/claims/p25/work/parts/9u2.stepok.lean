section
section SSTEP
variable {ρ : Nat → Int32} {E : SE} {pc nL mid d : Nat} {L : SL} {st : List SV} {A : SW} {r : Nat × SL × List SV × SW} {ro : MRo} {i : Instr}
/-- the state, its symbols read -/
abbrev s_rd (ρ : Nat → Int32) (r : Nat × SL × List SV × SW) : Nat × ML × List MV := (r.1, sl_val ρ r.2.1, r.2.2.1.map (s_val ρ))
theorem s_ld_ok {i : Nat} {t : SV → Bool} {mt : MV → Bool} (ht : ∀ v, mt (s_val ρ v) = t v) (h : s_ld pc L st A i t = some (.inl r)) : m_ld pc (sl_val ρ L) (st.map (s_val ρ)) i mt = some (s_rd ρ r) ∧ r.2.2.2 = A := by
  unfold s_ld at h
  split at h
  · rename_i v hv
    split at h
    · rename_i ht2
      cases h
      refine ⟨?_, rfl⟩
      unfold m_ld
      rw [s_gets_val, hv]
      dsimp only [Option.map_some]
      rw [ht, if_pos ht2]
      rfl
    · cases h
  · cases h
theorem s_st1_ok {i : Nat} {t : SV → Bool} {mt : MV → Bool} (ht : ∀ v, mt (s_val ρ v) = t v) (h : s_st1 pc nL L st A i t = some (.inl r)) : m_st1 pc nL (sl_val ρ L) (st.map (s_val ρ)) i mt = some (s_rd ρ r) ∧ r.2.2.2 = A := by
  unfold s_st1 at h
  split at h
  · rename_i v rr
    split at h
    · rename_i hc
      cases h
      refine ⟨?_, rfl⟩
      show (if mt (s_val ρ v) = true ∧ i < nL then _ else _) = _
      rw [ht, if_pos hc]
      unfold s_rd
      rw [s_store_val]
    · cases h
  · cases h
theorem s_st2_ok {i : Nat} (h : s_st2 pc nL L st A i = some (.inl r)) : m_st2 pc nL (sl_val ρ L) (st.map (s_val ρ)) i = some (s_rd ρ r) ∧ r.2.2.2 = A := by
  unfold s_st2 at h
  split at h
  · rename_i v rr
    split at h
    · rename_i hc
      cases h
      refine ⟨?_, rfl⟩
      show (if m_isL (s_val ρ v) = true ∧ i + 1 < nL then _ else _) = _
      rw [s_isL_val, if_pos hc]
      unfold s_rd
      rw [s_store2_val]
    · cases h
  · cases h
theorem s_ii_ok (hE : s_in ρ E) {f : Int32 → Int32 → Option MV} (h : s_ii E pc L st A f = some (.inl r)) : m_ii pc (sl_val ρ L) (st.map (s_val ρ)) f = some (s_rd ρ r) ∧ r.2.2.2 = A := by
  unfold s_ii at h
  split at h
  · rename_i y x rr
    obtain ⟨a, ha, h⟩ := s_wI_ok h
    obtain ⟨b, hb, h⟩ := s_wI_ok h
    split at h
    · rename_i v hv
      cases h
      refine ⟨?_, rfl⟩
      rw [List.map_cons, List.map_cons, s_exI_ok hE ha, s_exI_ok hE hb]
      show (match f a b with | some v => _ | none => _) = _
      rw [hv]
      rfl
    · cases h
  · cases h
theorem s_ll_ok {f : Int64 → Int64 → Option MV} (h : s_ll pc L st A f = some (.inl r)) : m_ll pc (sl_val ρ L) (st.map (s_val ρ)) f = some (s_rd ρ r) ∧ r.2.2.2 = A := by
  unfold s_ll at h
  split at h
  · rename_i y x rr
    split at h
    · rename_i v hv
      cases h
      refine ⟨?_, rfl⟩
      show (match f x y with | some v => _ | none => _) = _
      rw [hv]
      rfl
    · cases h
  · cases h
theorem s_i1_ok (hE : s_in ρ E) {f : Int32 → MV} (h : s_i1 E pc L st A f = some (.inl r)) : m_i1 pc (sl_val ρ L) (st.map (s_val ρ)) f = some (s_rd ρ r) ∧ r.2.2.2 = A := by
  unfold s_i1 at h
  split at h
  · rename_i x rr
    obtain ⟨a, ha, h⟩ := s_wI_ok h
    cases h
    refine ⟨?_, rfl⟩
    rw [List.map_cons, s_exI_ok hE ha]
    rfl
  · cases h
theorem s_to_ok {off : Int} (h : s_to pc off L st A = some (.inl r)) : m_to pc off (sl_val ρ L) (st.map (s_val ρ)) = some (s_rd ρ r) ∧ r.2.2.2 = A := by
  unfold s_to at h
  split at h
  · rename_i hc
    cases h
    refine ⟨?_, rfl⟩
    unfold m_to
    rw [if_pos hc]
  · cases h
theorem s_numT {m : MV} {p : Int} (h : s_num true m = some p) : ∃ x : Int64, m = .inr (.inl x) ∧ p = x.toInt := by
  rcases m with x | x | x
  · cases h
  · cases h; exact ⟨x, rfl, rfl⟩
  · cases h
theorem s_br_ok (hE : s_in ρ E) {off : Int} {c : Jvm.ClassFile.Cond} {x y : SV} {rr : List SV} (h : s_br E pc off L rr A c x y = some (.inl r)) : ∃ a b : Int32, s_val ρ x = .inl a ∧ s_val ρ y = .inl b ∧ 0 ≤ (pc : Int) + off ∧ r = (if m_cmp c a b = true then ((pc : Int) + off).toNat else pc + 3, L, rr, A) := by
  unfold s_br at h
  split at h
  · rename_i o ho
    split at h
    · rename_i hc
      obtain ⟨a, b, ha, hb, h3⟩ := s_dec_ok hE ho
      cases h
      exact ⟨a, b, ha, hb, hc, by rw [h3]⟩
    · cases h
  · cases h
  · cases h
theorem s_val_ex (ρ : Nat → Int32) (m : MV) : s_val ρ (.inl m) = m := rfl
theorem s_fin (hp : m_pure i pc (q_nl mid) (sl_val ρ L) (st.map (s_val ρ)) = some (s_rd ρ r)) (hA : r.2.2.2 = A) : m_stp ro mid d i pc (sl_val ρ L) (st.map (s_val ρ)) (s_w ρ A) = some (r.1, sl_val ρ r.2.1, r.2.2.1.map (s_val ρ), s_w ρ r.2.2.2) := by
  rw [m_stp_p hp, hA]
theorem s_finh {st' : List SV} {A' : SW} (h0 : m_pure i pc (q_nl mid) (sl_val ρ L) (st.map (s_val ρ)) = none) (h : m_heap ro mid i (st.map (s_val ρ)) (s_w ρ A) = some (st'.map (s_val ρ), s_w ρ A')) : m_stp ro mid d i pc (sl_val ρ L) (st.map (s_val ρ)) (s_w ρ A) = some (pc + m_len i, sl_val ρ L, st'.map (s_val ρ), s_w ρ A') := m_stp_h h0 h
theorem s_finn {st' : List SV} {A' : SW} (h0 : m_pure i pc (q_nl mid) (sl_val ρ L) (st.map (s_val ρ)) = none) (h1 : m_heap ro mid i (st.map (s_val ρ)) (s_w ρ A) = none) (h : m_new mid i (st.map (s_val ρ)) (s_w ρ A) = some (st'.map (s_val ρ), s_w ρ A')) : m_stp ro mid d i pc (sl_val ρ L) (st.map (s_val ρ)) (s_w ρ A) = some (pc + m_len i, sl_val ρ L, st'.map (s_val ρ), s_w ρ A') := m_stp_n h0 h1 h
theorem s_fino {st' : List SV} (h0 : m_pure i pc (q_nl mid) (sl_val ρ L) (st.map (s_val ρ)) = none) (h1 : m_heap ro mid i (st.map (s_val ρ)) (s_w ρ A) = none) (h2 : m_new mid i (st.map (s_val ρ)) (s_w ρ A) = none) (h3 : m_ret mid i (st.map (s_val ρ)) = none) (h : m_obj mid i (st.map (s_val ρ)) = some (st'.map (s_val ρ))) (hd : d ≠ 0) : m_stp ro mid d i pc (sl_val ρ L) (st.map (s_val ρ)) (s_w ρ A) = some (pc + 3, sl_val ρ L, st'.map (s_val ρ), s_w ρ A) := m_stp_o h0 h1 h2 h3 h hd
theorem s_finc {v : SV} (h0 : m_pure i pc (q_nl mid) (sl_val ρ L) (st.map (s_val ρ)) = none) (h1 : m_heap ro mid i (st.map (s_val ρ)) (s_w ρ A) = none) (h2 : m_new mid i (st.map (s_val ρ)) (s_w ρ A) = none) (h3 : m_ret mid i (st.map (s_val ρ)) = none) (h4 : m_obj mid i (st.map (s_val ρ)) = none) (h : m_con mid i = some (s_val ρ v)) : m_stp ro mid d i pc (sl_val ρ L) (st.map (s_val ρ)) (s_w ρ A) = some (pc + m_len i, sl_val ρ L, (v :: st).map (s_val ρ), s_w ρ A) := m_stp_c h0 h1 h2 h3 h4 h
theorem s_finy {st' : List SV} {A' : SW} (h0 : m_pure i pc (q_nl mid) (sl_val ρ L) (st.map (s_val ρ)) = none) (h1 : m_heap ro mid i (st.map (s_val ρ)) (s_w ρ A) = none) (h2 : m_new mid i (st.map (s_val ρ)) (s_w ρ A) = none) (h3 : m_ret mid i (st.map (s_val ρ)) = none) (h4 : m_obj mid i (st.map (s_val ρ)) = none) (h5 : m_con mid i = none) (h : m_cpy mid i (st.map (s_val ρ)) (s_w ρ A) = some (st'.map (s_val ρ), s_w ρ A')) (hd : d ≠ 0) : m_stp ro mid d i pc (sl_val ρ L) (st.map (s_val ρ)) (s_w ρ A) = some (pc + 3, sl_val ρ L, st'.map (s_val ρ), s_w ρ A') := m_stp_y h0 h1 h2 h3 h4 h5 h hd
theorem s_shp_c {C : SM} {a : Nat} {c : SC} (hc : s_cell C a = some c) : s_shp C a = c.1 := by unfold s_shp; rw [hc]
theorem s_mem_c {C : SM} {a j : Nat} {c : SC} (hc : s_cell C a = some c) : s_mem C a j = s_get c j := by unfold s_mem; rw [hc]
theorem s_find_run {α : Type} (j : Nat) (t : List (Nat × α)) : ∀ (n dp : Nat) (g : Nat → α), q_find ((List.range n).map (fun i => (dp + i, g i)) ++ t) j = if dp ≤ j ∧ j < dp + n then some (g (j - dp)) else q_find t j
  | 0, dp, g => by rw [if_neg (by omega)]; rfl
  | n + 1, dp, g => by
    have ih := s_find_run j t n (dp + 1) (fun i => g (i + 1))
    rw [List.range_succ_eq_map, List.map_cons, List.map_map, List.cons_append]
    have e : ((fun i => (dp + i, g i)) ∘ Nat.succ) = (fun i => (dp + 1 + i, g (i + 1))) := by
      funext i
      show (dp + (i + 1), g (i + 1)) = _
      rw [show dp + (i + 1) = dp + 1 + i by omega]
    rw [e, q_find_cons]
    by_cases h : j = dp
    · rw [if_pos (by omega), if_pos (by omega)]
      rw [show j - dp = 0 by omega]
    · rw [if_neg (by omega), ih]
      by_cases h2 : dp + 1 ≤ j ∧ j < dp + 1 + n
      · rw [if_pos h2, if_pos (by omega)]
        rw [show j - (dp + 1) + 1 = j - dp by omega]
      · rw [if_neg h2, if_neg (by omega)]
theorem s_w_cp {a0 a sp dp n : Nat} {c : SC} (hc : s_cell A.2.2.2 a = some c) : s_w ρ (s_cp A a0 a sp dp n c) = m_cp (s_w ρ A) a0 a sp dp n := by
  unfold s_cp s_w m_cp
  dsimp only
  congr 4
  · funext k
    unfold s_shp
    rw [s_cell_setc]
    by_cases h : k = a
    · subst h; rw [if_pos rfl, hc]
    · rw [if_neg h]
  · funext k j
    have e2 : s_mem (s_setc A.2.2.2 a (c.1, (List.range n).map (fun j => (dp + j, s_intV (s_mem A.2.2.2 a0 (sp + j)))) ++ c.2)) k j = if k = a then (if dp ≤ j ∧ j < dp + n then s_intV (s_mem A.2.2.2 a0 (sp + (j - dp))) else s_mem A.2.2.2 a j) else s_mem A.2.2.2 k j := by
      show (match s_cell (s_setc A.2.2.2 a (c.1, (List.range n).map (fun j => (dp + j, s_intV (s_mem A.2.2.2 a0 (sp + j)))) ++ c.2)) k with | some c => s_get c j | none => .inl (.inl 0)) = _
      rw [s_cell_setc]
      by_cases h : k = a
      · rw [if_pos h, if_pos h, s_mem_c hc]
        show (match q_find ((List.range n).map (fun j => (dp + j, s_intV (s_mem A.2.2.2 a0 (sp + j)))) ++ c.2) j with | some v => v | none => .inl (s_dflt c.1.1 j)) = _
        rw [s_find_run j c.2 n dp (fun j => s_intV (s_mem A.2.2.2 a0 (sp + j)))]
        by_cases h2 : dp ≤ j ∧ j < dp + n
        · rw [if_pos h2, if_pos h2]
        · rw [if_neg h2, if_neg h2]; rfl
      · rw [if_neg h, if_neg h]; rfl
    rw [e2]
    by_cases h : k = a
    · rw [if_pos h, if_pos h]
      by_cases h2 : dp ≤ j ∧ j < dp + n
      · rw [if_pos h2, if_pos h2, s_intV_val]
      · rw [if_neg h2, if_neg h2]
    · rw [if_neg h, if_neg h]
theorem s_dflt_o {ci : Nat} (h : ci < 100) : (fun j => m_def (q_ty ci j)) = s_dflt ci := by
  funext j; unfold s_dflt; rw [if_pos h]
theorem s_w_mk2 {k : Nat × Nat} {f : Nat → MV} (h : f = s_dflt k.1) : m_mk (s_w ρ A) k f = s_w ρ (s_mk A k) := by rw [s_w_mk, h]
abbrev s_ro (_ : MRo) (_ : Nat → Int32) : Prop := True
set_option maxHeartbeats 8000000 in
theorem s_step_ok (hE : s_in ρ E) (hro : s_ro ro ρ) (h : s_step E mid d i pc L st A = some (.inl r)) : m_stp ro mid d i pc (sl_val ρ L) (st.map (s_val ρ)) (s_w ρ A) = some (r.1, sl_val ρ r.2.1, r.2.2.1.map (s_val ρ), s_w ρ r.2.2.2) := by
  cases i
  case iconst n => cases h; exact s_fin rfl rfl
  case bipush n => cases h; exact s_fin rfl rfl
  case sipush n => cases h; exact s_fin rfl rfl
  case lconst n => cases h; exact s_fin rfl rfl
  case aconst_null => cases h; exact s_fin rfl rfl
  case iload i => have h2 := s_ld_ok (s_isI_val ρ) h; exact s_fin h2.1 h2.2
  case iload_n i => have h2 := s_ld_ok (s_isI_val ρ) h; exact s_fin h2.1 h2.2
  case lload i => have h2 := s_ld_ok (s_isL_val ρ) h; exact s_fin h2.1 h2.2
  case lload_n i => have h2 := s_ld_ok (s_isL_val ρ) h; exact s_fin h2.1 h2.2
  case aload i => have h2 := s_ld_ok (s_isR_val ρ) h; exact s_fin h2.1 h2.2
  case aload_n i => have h2 := s_ld_ok (s_isR_val ρ) h; exact s_fin h2.1 h2.2
  case istore i => have h2 := s_st1_ok (s_isI_val ρ) h; exact s_fin h2.1 h2.2
  case istore_n i => have h2 := s_st1_ok (s_isI_val ρ) h; exact s_fin h2.1 h2.2
  case lstore i => have h2 := s_st2_ok (ρ := ρ) h; exact s_fin h2.1 h2.2
  case lstore_n i => have h2 := s_st2_ok (ρ := ρ) h; exact s_fin h2.1 h2.2
  case astore i => have h2 := s_st1_ok (s_isR_val ρ) h; exact s_fin h2.1 h2.2
  case astore_n i => have h2 := s_st1_ok (s_isR_val ρ) h; exact s_fin h2.1 h2.2
  case iinc i n =>
    simp only [s_step] at h
    split at h
    · rename_i v hv
      replace h := s_wI_ok h; obtain ⟨x, hx, h⟩ := h
      split at h
      · rename_i hi
        cases h
        refine s_fin ?_ rfl
        simp only [m_pure, s_gets_val, hv, Option.map_some, s_exI_ok hE hx]
        rw [if_pos hi]
        show _ = some (pc + 3, sl_val ρ (s_store L i (.inl (.inl (x + Int32.ofInt n)))), _)
        rw [s_store_val]
        rfl
      · cases h
    · cases h
  case iadd => simp only [s_step] at h; have h2 := s_ii_ok hE h; exact s_fin h2.1 h2.2
  case isub => simp only [s_step] at h; have h2 := s_ii_ok hE h; exact s_fin h2.1 h2.2
  case imul => simp only [s_step] at h; have h2 := s_ii_ok hE h; exact s_fin h2.1 h2.2
  case idiv =>
    simp only [s_step] at h
    split at h
    · rename_i rr hrr
      unfold s_div at hrr
      split at hrr
      · rename_i b r2
        split at hrr
        · rename_i hb
          subst hb
          cases hrr
          cases h
          refine s_fin ?_ rfl
          show some (pc + 1, _, Sum.inl (ρ 2 / 10000) :: _) = some (pc + 1, _, Sum.inl (ρ 8) :: _)
          rw [hE.1.2.1]
        split at hrr
        · rename_i hb
          subst hb
          cases hrr
          cases h
          refine s_fin ?_ rfl
          show some (pc + 1, _, Sum.inl (ρ 2 / 100) :: _) = some (pc + 1, _, Sum.inl (ρ 9) :: _)
          rw [hE.1.2.2.1]
        · cases hrr
      · cases hrr
    · have h2 := s_ii_ok hE h; exact s_fin h2.1 h2.2
  case irem =>
    simp only [s_step] at h
    split at h
    · rename_i rr hrr
      unfold s_rem at hrr
      split at hrr
      · rename_i b r2
        split at hrr
        · rename_i hb
          subst hb
          cases hrr
          cases h
          refine s_fin ?_ rfl
          show some (pc + 1, _, Sum.inl (ρ 2 - ρ 2 / 100 * 100) :: _) = some (pc + 1, _, Sum.inl (ρ 10) :: _)
          rw [hE.1.2.2.2]
        · cases hrr
      · cases hrr
    · have h2 := s_ii_ok hE h; exact s_fin h2.1 h2.2
  case iand =>
    simp only [s_step] at h
    split at h
    · rename_i rr hrr
      unfold s_and63 at hrr
      split at hrr
      · rename_i b r2
        split at hrr
        · rename_i hb
          subst hb
          cases hrr
          cases h
          refine s_fin ?_ rfl
          show some (pc + 1, _, Sum.inl (ρ 0 &&& 63) :: _) = some (pc + 1, _, Sum.inl (ρ 7) :: _)
          rw [hE.1.1]
        · cases hrr
      · cases hrr
    · have h2 := s_ii_ok hE h; exact s_fin h2.1 h2.2
  case ior => simp only [s_step] at h; have h2 := s_ii_ok hE h; exact s_fin h2.1 h2.2
  case ixor => simp only [s_step] at h; have h2 := s_ii_ok hE h; exact s_fin h2.1 h2.2
  case ishl => simp only [s_step] at h; have h2 := s_ii_ok hE h; exact s_fin h2.1 h2.2
  case ishr => simp only [s_step] at h; have h2 := s_ii_ok hE h; exact s_fin h2.1 h2.2
  case ineg => simp only [s_step] at h; have h2 := s_i1_ok hE h; exact s_fin h2.1 h2.2
  case i2l =>
    simp only [s_step] at h
    split at h
    · cases h; exact s_fin rfl rfl
    · cases h; exact s_fin rfl rfl
    · cases h
  case i2b => simp only [s_step] at h; have h2 := s_i1_ok hE h; exact s_fin h2.1 h2.2
  case i2s => simp only [s_step] at h; have h2 := s_i1_ok hE h; exact s_fin h2.1 h2.2
  case l2i =>
    simp only [s_step] at h
    split at h
    · cases h; exact s_fin rfl rfl
    · cases h
  case ladd => simp only [s_step] at h; have h2 := s_ll_ok (ρ := ρ) h; exact s_fin h2.1 h2.2
  case lsub => simp only [s_step] at h; have h2 := s_ll_ok (ρ := ρ) h; exact s_fin h2.1 h2.2
  case lmul => simp only [s_step] at h; have h2 := s_ll_ok (ρ := ρ) h; exact s_fin h2.1 h2.2
  case ldiv => simp only [s_step] at h; have h2 := s_ll_ok (ρ := ρ) h; exact s_fin h2.1 h2.2
  case lcmp =>
    simp only [s_step] at h
    split at h
    · rename_i y x rr
      split at h
      · rename_i o ho
        cases h
        obtain ⟨p, q, h1, h2, h3⟩ := s_ord_ok hE ho
        obtain ⟨a, ha, rfl⟩ := s_numT h1
        obtain ⟨b, hb, rfl⟩ := s_numT h2
        refine s_fin ?_ rfl
        simp only [m_pure, List.map_cons, ha, hb, m_ll]
        rw [s_lcmp_ok, ← h3]
        rfl
      · cases h
      · cases h
    · cases h
  case dup =>
    simp only [s_step] at h
    split at h
    · rename_i v rr
      split at h
      · cases h
      · rename_i hv
        cases h
        refine s_fin ?_ rfl
        show (if m_isL (s_val ρ v) = true then _ else _) = _
        rw [s_isL_val, if_neg hv]
        rfl
    · cases h
  case dup2 =>
    simp only [s_step] at h
    split at h
    · rename_i v u rr
      split at h
      · cases h
      · rename_i hv
        cases h
        refine s_fin ?_ rfl
        show (if m_isL (s_val ρ v) = true ∨ m_isL (s_val ρ u) = true then _ else _) = _
        rw [s_isL_val, s_isL_val, if_neg hv]
        rfl
    · cases h
  case goto off => have h2 := s_to_ok (ρ := ρ) h; exact s_fin h2.1 h2.2
  case ifCond c off =>
    simp only [s_step] at h
    split at h
    · rename_i x rr
      obtain ⟨a, b, ha, hb, ho, rfl⟩ := s_br_ok hE h
      refine s_fin ?_ rfl
      cases hb
      rw [List.map_cons, ha]
      show (if 0 ≤ (pc : Int) + off then some (if m_cmp c a 0 = true then _ else _, _, _) else none) = _
      rw [if_pos ho]
    · cases h
  case if_icmp c off =>
    simp only [s_step] at h
    split at h
    · rename_i y x rr
      obtain ⟨a, b, ha, hb, ho, rfl⟩ := s_br_ok hE h
      refine s_fin ?_ rfl
      rw [List.map_cons, List.map_cons, ha, hb]
      show (if 0 ≤ (pc : Int) + off then some (if m_cmp c a b = true then _ else _, _, _) else none) = _
      rw [if_pos ho]
    · cases h
  case ifnull off =>
    simp only [s_step] at h
    split at h
    · have h2 := s_to_ok (ρ := ρ) h; exact s_fin h2.1 h2.2
    · cases h; exact s_fin rfl rfl
    · cases h
  case ifnonnull off =>
    simp only [s_step] at h
    split at h
    · cases h; exact s_fin rfl rfl
    · have h2 := s_to_ok (ρ := ρ) h; exact s_fin h2.1 h2.2
    · cases h
  case tableswitch dflt lo hi offs =>
    simp only [s_step] at h
    split at h
    · rename_i v rr
      split at h
      · rename_i hrng
        obtain ⟨x, hx, hc⟩ := s_rng_ok hE hrng
        have h2 := s_to_ok (ρ := ρ) h
        refine s_fin ?_ h2.2
        rw [List.map_cons, hx]
        show (if x.toInt < lo ∨ hi < x.toInt then _ else _) = _
        rw [if_pos hc]
        exact h2.1
      · replace h := s_wI_ok h; obtain ⟨x, hx, h⟩ := h
        split at h
        · rename_i hc
          have h2 := s_to_ok (ρ := ρ) h
          refine s_fin ?_ h2.2
          rw [List.map_cons, s_exI_ok hE hx]
          show (if x.toInt < lo ∨ hi < x.toInt then _ else _) = _
          rw [if_pos hc]
          exact h2.1
        · rename_i hc
          split at h
          · rename_i off hoff
            have h2 := s_to_ok (ρ := ρ) h
            refine s_fin ?_ h2.2
            rw [List.map_cons, s_exI_ok hE hx]
            show (if x.toInt < lo ∨ hi < x.toInt then _ else (match offs[(x.toInt - lo).toNat]? with | some off => _ | none => _)) = _
            rw [if_neg hc, hoff]
            exact h2.1
          · cases h
      · cases h
    · cases h
  case getfield idx =>
    simp only [s_step] at h
    split at h
    · rename_i ci k a rr hf
      split at h
      · rename_i c hc
        split at h
        · rename_i hcc
          obtain ⟨h8, hlt, hsh⟩ := hcc
          cases h
          dsimp only; refine s_finh rfl ?_
          simp only [m_heap, hf, List.map_cons, s_val_ex]
          rw [if_pos ⟨h8, hlt, (s_shp_c hc).trans hsh⟩]
          show some (s_val ρ (s_mem A.2.2.2 a k) :: _, _) = _
          rw [s_mem_c hc]
        · cases h
      · cases h
    · cases h
  case putfield idx =>
    simp only [s_step] at h
    split at h
    · rename_i ci k v a rr hf
      split at h
      · rename_i c hc
        split at h
        · rename_i hcc
          obtain ⟨h8, hlt, hsh, hpf, hfit⟩ := hcc
          cases h
          dsimp only; refine s_finh rfl ?_
          simp only [m_heap, hf, List.map_cons, s_val_ex]
          rw [if_pos ⟨h8, hlt, (s_shp_c hc).trans hsh, hpf, s_fit_val hfit⟩, s_w_wr hc]
        · cases h
      · cases h
    · cases h
  case iaload =>
    simp only [s_step] at h
    split at h
    · rename_i j a rr
      replace h := s_wI_ok h; obtain ⟨x, hx, h⟩ := h
      split at h
      · cases h
      · rename_i ha0
        split at h
        · rename_i c hc
          split at h
          · rename_i hcc
            obtain ⟨h8, hlt, hki, hj0, hjl⟩ := hcc
            cases h
            dsimp only; refine s_finh rfl ?_
            simp only [m_heap, List.map_cons, s_val_ex, s_exI_ok hE hx]
            rw [if_neg (by omega)]
            have e1 : msh (s_w ρ A) a = c.1 := s_shp_c hc
            rw [if_pos ⟨hlt, by rw [e1]; exact hki, hj0, by rw [e1]; exact hjl⟩, s_intV_val]
            show some (Sum.inl (m_int (s_val ρ (s_mem A.2.2.2 a _))) :: _, _) = _
            rw [s_mem_c hc]
          · cases h
        · cases h
    · cases h
  case iastore =>
    simp only [s_step] at h
    split at h
    · rename_i v j a rr
      replace h := s_wI_ok h; obtain ⟨x, hx, h⟩ := h
      split at h
      · rename_i c hc
        split at h
        · rename_i hcc
          obtain ⟨h8, hlt, hki, hj0, hjl, hv⟩ := hcc
          cases h
          obtain ⟨y, hy⟩ := m_isI_ok ((s_isI_val ρ v).trans hv)
          dsimp only; refine s_finh rfl ?_
          have e1 : msh (s_w ρ A) a = c.1 := s_shp_c hc
          simp only [m_heap, List.map_cons, s_val_ex, s_exI_ok hE hx, hy]
          rw [if_pos ⟨h8, hlt, by rw [e1]; exact hki, hj0, by rw [e1]; exact hjl⟩, s_w_wr hc, hy]
        · cases h
      · cases h
    · cases h
  case laload =>
    simp only [s_step] at h
    split at h
    · rename_i j a rr
      replace h := s_wI_ok h; obtain ⟨x, hx, h⟩ := h
      split at h
      · rename_i c hc
        split at h
        · rename_i hcc
          obtain ⟨h8, hlt, hki, hj0, hjl⟩ := hcc
          cases h
          dsimp only; refine s_finh rfl ?_
          have e1 : msh (s_w ρ A) a = c.1 := s_shp_c hc
          simp only [m_heap, List.map_cons, s_val_ex, s_exI_ok hE hx]
          rw [if_pos ⟨h8, hlt, by rw [e1]; exact hki, hj0, by rw [e1]; exact hjl⟩, s_lngV_val]
          show some (Sum.inr (Sum.inl (m_lng (s_val ρ (s_mem A.2.2.2 a _)))) :: _, _) = _
          rw [s_mem_c hc]
        · cases h
      · cases h
    · cases h
  case lastore =>
    simp only [s_step] at h
    split at h
    · rename_i v j a rr
      replace h := s_wI_ok h; obtain ⟨x, hx, h⟩ := h
      split at h
      · rename_i c hc
        split at h
        · rename_i hcc
          obtain ⟨h8, hlt, hki, hj0, hjl, hv⟩ := hcc
          cases h
          obtain ⟨y, hy⟩ := m_isL_ok ((s_isL_val ρ v).trans hv)
          dsimp only; refine s_finh rfl ?_
          have e1 : msh (s_w ρ A) a = c.1 := s_shp_c hc
          simp only [m_heap, List.map_cons, s_val_ex, s_exI_ok hE hx, hy]
          rw [if_pos ⟨h8, hlt, by rw [e1]; exact hki, hj0, by rw [e1]; exact hjl⟩, s_w_wr hc, hy]
        · cases h
      · cases h
    · cases h
  case aaload =>
    simp only [s_step] at h
    split at h
    · rename_i j a rr
      replace h := s_wI_ok h; obtain ⟨x, hx, h⟩ := h
      split at h
      · rename_i c hc
        split at h
        · rename_i hcc
          obtain ⟨h8, hlt, hki, hra, hj0, hjl⟩ := hcc
          cases h
          dsimp only; refine s_finh rfl ?_
          have e1 : msh (s_w ρ A) a = c.1 := s_shp_c hc
          simp only [m_heap, List.map_cons, s_val_ex, s_exI_ok hE hx]
          rw [if_pos ⟨h8, hlt, by rw [e1]; exact hki, by rw [e1]; exact hra, hj0, by rw [e1]; exact hjl⟩, s_refV_val]
          show some (Sum.inr (Sum.inr (m_ref (s_val ρ (s_mem A.2.2.2 a _)))) :: _, _) = _
          rw [s_mem_c hc]
        · cases h
      · cases h
    · cases h
  case aastore =>
    simp only [s_step] at h
    split at h
    · rename_i b j a rr
      replace h := s_wI_ok h; obtain ⟨x, hx, h⟩ := h
      split at h
      · rename_i c hc
        split at h
        · rename_i hcc
          obtain ⟨h8, hlt, hki, hra, hj0, hjl, hb8, hbl, hbk, hb1⟩ := hcc
          cases h
          dsimp only; refine s_finh rfl ?_
          have e1 : msh (s_w ρ A) a = c.1 := s_shp_c hc
          simp only [m_heap, List.map_cons, s_val_ex, s_exI_ok hE hx]
          rw [if_pos ⟨h8, hlt, by rw [e1]; exact hki, by rw [e1]; exact hra, hj0, by rw [e1]; exact hjl, hb8, hbl, by rw [e1]; exact hbk, hb1⟩, s_w_wr hc]
          rfl
        · cases h
      · cases h
    · cases h
  case arraylength =>
    simp only [s_step] at h
    split at h
    · rename_i a rr
      split at h
      · cases h
      · rename_i ha0
        split at h
        · rename_i c hc
          split at h
          · rename_i hcc
            obtain ⟨h8, hlt, hki, hkk⟩ := hcc
            cases h
            dsimp only; refine s_finh rfl ?_
            have e1 : msh (s_w ρ A) a = c.1 := s_shp_c hc
            simp only [m_heap, List.map_cons, s_val_ex]
            rw [if_neg (by omega), if_pos ⟨hlt, by rw [e1]; exact hki, by rw [e1]; exact hkk⟩, e1]
          · cases h
        · cases h
    · cases h
  case new idx =>
    simp only [s_step] at h
    split at h
    · rename_i ci hq
      split at h
      · rename_i hcc
        cases h
        dsimp only; refine s_finn rfl rfl ?_
        unfold m_new
        rw [if_pos (show mcx (s_w ρ A) + 8 = mnx (s_w ρ A) from hcc.1)]
        dsimp only
        rw [hq]
        dsimp only
        rw [s_w_mk2 (k := (ci, q_nf ci)) (s_dflt_o hcc.2)]
        rfl
      · cases h
    · cases h
  case newarray t =>
    simp only [s_step] at h
    split at h
    · rename_i n rr
      split at h
      · rename_i hcc
        split at h
        · cases h
          dsimp only; refine s_finn rfl rfl ?_
          unfold m_new
          rw [if_pos (show mcx (s_w ρ A) + 8 = mnx (s_w ρ A) from hcc.1)]
          simp only [List.map_cons, s_val_ex]
          rw [if_pos hcc.2]
          rw [s_w_mk2 (k := (100, n.toNatClampNeg)) (by funext j; rfl)]
          rfl
        · cases h
          dsimp only; refine s_finn rfl rfl ?_
          unfold m_new
          rw [if_pos (show mcx (s_w ρ A) + 8 = mnx (s_w ρ A) from hcc.1)]
          simp only [List.map_cons, s_val_ex]
          rw [if_pos hcc.2]
          rw [s_w_mk2 (k := (101, n.toNatClampNeg)) (by funext j; rfl)]
          rfl
        · cases h
      · cases h
    · cases h
  case anewarray idx =>
    simp only [s_step] at h
    split at h
    · rename_i n rr
      split at h
      · rename_i hcc
        split at h
        · rename_i ci hq
          cases h
          dsimp only; refine s_finn rfl rfl ?_
          unfold m_new
          rw [if_pos (show mcx (s_w ρ A) + 8 = mnx (s_w ρ A) from hcc.1)]
          simp only [List.map_cons, s_val_ex, hq]
          rw [if_pos hcc.2]
          rw [s_w_mk2 (k := (102 + ci, n.toNatClampNeg)) (by funext j; unfold s_dflt; dsimp only; rw [if_neg (by omega), if_neg (by omega), if_neg (by omega)])]
          rfl
        · cases h
      · cases h
    · cases h
  case ldc idx =>
    simp only [s_step] at h
    split at h
    · rename_i x hq
      cases h
      dsimp only; exact s_finc rfl rfl (m_new_none (fun _ q => by cases q) (fun _ q => by cases q) (fun _ q => by cases q)) rfl rfl (by simp only [m_con, hq, s_val_ex])
    · cases h
  case ldc_w idx =>
    simp only [s_step] at h
    split at h
    · rename_i x hq
      cases h
      dsimp only; exact s_finc rfl rfl (m_new_none (fun _ q => by cases q) (fun _ q => by cases q) (fun _ q => by cases q)) rfl rfl (by simp only [m_con, hq, s_val_ex])
    · cases h
  case ldc2_w idx =>
    simp only [s_step] at h
    split at h
    · rename_i x hq
      cases h
      dsimp only; exact s_finc rfl rfl (m_new_none (fun _ q => by cases q) (fun _ q => by cases q) (fun _ q => by cases q)) rfl rfl (by simp only [m_con, hq, s_val_ex])
    · cases h
  case invokespecial idx =>
    simp only [s_step] at h
    split at h
    · rename_i cm a rr hq
      split at h
      · rename_i hcc
        cases h
        dsimp only; refine s_fino rfl rfl (m_new_none (fun _ q => by cases q) (fun _ q => by cases q) (fun _ q => by cases q)) rfl ?_ hcc.2
        simp only [m_obj, hq, List.map_cons, s_val_ex]
        rw [s_cats_val, if_pos hcc.1]
      · cases h
    · cases h
  case invokestatic idx =>
    simp only [s_step] at h
    split at h
    · rename_i cm y x rr hq
      split at h
      · rename_i hcc
        cases h
        dsimp only; refine s_fino rfl rfl (m_new_none (fun _ q => by cases q) (fun _ q => by cases q) (fun _ q => by cases q)) rfl ?_ hcc.2
        simp only [m_obj, hq, List.map_cons, s_val_ex]
        rw [s_cats_val, if_pos hcc.1]
      · cases h
    · rename_i cm y x rr hq
      split at h
      · rename_i hcc
        cases h
        dsimp only; refine s_fino rfl rfl (m_new_none (fun _ q => by cases q) (fun _ q => by cases q) (fun _ q => by cases q)) rfl ?_ hcc.2
        simp only [m_obj, hq, List.map_cons, s_val_ex]
        rw [s_cats_val, if_pos hcc.1]
      · cases h
    · rename_i cm x rr hq
      split at h
      · rename_i hcc
        cases h
        dsimp only; refine s_fino rfl rfl (m_new_none (fun _ q => by cases q) (fun _ q => by cases q) (fun _ q => by cases q)) rfl ?_ hcc.2
        simp only [m_obj, hq, List.map_cons, s_val_ex]
        rw [s_cats_val, if_pos hcc.1]
      · cases h
    · rename_i cm n dp a sp a0 rr hq
      split at h
      · rename_i c hc
        split at h
        · rename_i hcc
          obtain ⟨h8, hlt, hki, h80, hlt0, hki0, hs0, hd0, hn0, hb1, hb2, hcat, hdd⟩ := hcc
          cases h
          dsimp only; refine s_finy rfl rfl (m_new_none (fun _ q => by cases q) (fun _ q => by cases q) (fun _ q => by cases q)) rfl ?_ rfl ?_ hdd
          · simp only [m_obj, hq]
          · have e1 : msh (s_w ρ A) a = c.1 := s_shp_c hc
            simp only [m_cpy, hq, List.map_cons, s_val_ex]
            rw [if_pos ⟨h8, hlt, by rw [e1]; exact hki, h80, hlt0, hki0, hs0, hd0, hn0, hb1, by rw [e1]; exact hb2, by rw [s_cats_val]; exact hcat⟩, s_w_cp hc]
        · cases h
      · cases h
    · cases h
  all_goals (exact absurd h (by simp [s_step]))
end SSTEP
end
section
def s_drop (L : SL) (k : Nat) : SL := L.filter (fun q => !(q.1 == k) && !(q.1 + 1 == k && s_isL q.2))
theorem s_drop_val (ρ : Nat → Int32) (L : SL) (k : Nat) : sl_val ρ (s_drop L k) = m_drop (sl_val ρ L) k := by
  simp only [sl_val, s_drop, m_drop, List.filter_map, Function.comp_def, s_isL_val]
def s_ent : Nat → List SV → SL
  | _, [] => []
  | i, v :: vs => (i, v) :: s_ent (if s_isL v = true then i + 2 else i + 1) vs
theorem s_ent_val (ρ : Nat → Int32) : ∀ (i : Nat) (As : List SV), sl_val ρ (s_ent i As) = m_ent i (As.map (s_val ρ))
  | _, [] => rfl
  | i, v :: vs => by
    have h := s_ent_val ρ (if s_isL v = true then i + 2 else i + 1) vs
    show (i, s_val ρ v) :: sl_val ρ (s_ent _ vs) = (i, s_val ρ v) :: m_ent (if m_isL (s_val ρ v) = true then i + 2 else i + 1) _
    rw [h, s_isL_val]
def s_thr (A : SW) : SW := (A.1, A.2.1 + 1, A.2.2.1 + 6, A.2.2.2)
theorem s_w_thr (ρ : Nat → Int32) (A : SW) : s_w ρ (s_thr A) = m_thr (s_w ρ A) := rfl
def s_ret (mid : Nat) (i : Instr) (st : List SV) : Option (Option SV) := match i with
  | .return_ => match st, q_rt mid with
    | [], none => some none
    | _, _ => none
  | .ireturn => match st, q_rt mid with
    | [v], some .int => if s_isI v = true then some (some v) else none
    | [.inl (.inl x)], some .boolean => if x = 0 ∨ x = 1 then some (some (.inl (.inl x))) else none
    | _, _ => none
  | .lreturn => match st, q_rt mid with
    | [v], some .long => if s_isL v = true then some (some v) else none
    | _, _ => none
  | .areturn => match st, q_rt mid with
    | [.inl (.inr (.inr x))], some (.object _) => some (some (.inl (.inr (.inr x))))
    | [.inl (.inr (.inr x))], some (.array _) => some (some (.inl (.inr (.inr x))))
    | _, _ => none
  | _ => none
def s_call (mid : Nat) (i : Instr) (st : List SV) (A : SW) : Option (Nat × List SV × List SV) := match i with
  | .invokestatic idx => match q_m mid idx with
    | some (cm, kd) => if (kd = 1 ∨ kd = 3 ∨ kd = 7) ∧ q_np cm ≤ st.length ∧ s_cats (st.drop (q_np cm)) ≤ 8 ∧ s_cats ((st.take (q_np cm)).reverse) ≤ q_nl cm then some (cm, (st.take (q_np cm)).reverse, st.drop (q_np cm)) else none
    | none => none
  | .invokevirtual idx => match q_m mid idx with
    | some (cm, kd) => match st.drop (q_np cm) with
      | .inl (.inr (.inr (some a))) :: r => if kd = 0 ∧ q_np cm ≤ st.length ∧ s_cats r ≤ 8 ∧ s_cats (.inl (.inr (.inr (some a))) :: (st.take (q_np cm)).reverse) ≤ q_nl cm ∧ 8 ≤ a ∧ a < A.1 ∧ (s_shp A.2.2.2 a).1 < 100 ∧ q_rc cm = some (s_shp A.2.2.2 a).1 then some (cm, .inl (.inr (.inr (some a))) :: (st.take (q_np cm)).reverse, r) else none
      | _ => none
    | none => none
  | .invokespecial idx => match q_m mid idx with
    | some (cm, kd) => match st.drop (q_np cm) with
      | .inl (.inr (.inr (some a))) :: r => if (kd = 2 ∨ kd = 6) ∧ q_np cm ≤ st.length ∧ s_cats r ≤ 8 ∧ s_cats (.inl (.inr (.inr (some a))) :: (st.take (q_np cm)).reverse) ≤ q_nl cm then some (cm, .inl (.inr (.inr (some a))) :: (st.take (q_np cm)).reverse, r) else none
      | _ => none
    | none => none
  | _ => none
def s_hi (E : SE) (k : Nat) (c : Int) : SE := E.set k ((s_iv E k).1, c)
def s_lo (E : SE) (k : Nat) (c : Int) : SE := E.set k (c, (s_iv E k).2)
theorem s_iv_set (E : SE) (k j : Nat) (x : Int × Int) : s_iv (E.set k x) j = x ∧ j = k ∨ s_iv (E.set k x) j = s_iv E j := by
  unfold s_iv
  by_cases h : j = k
  · subst h
    by_cases hl : j < E.length
    · left
      rw [List.getD_eq_getElem?_getD, List.getElem?_set_self hl]
      exact ⟨rfl, rfl⟩
    · right
      rw [List.set_eq_of_length_le (by omega)]
  · right
    rw [List.getD_eq_getElem?_getD, List.getD_eq_getElem?_getD, List.getElem?_set_ne (Ne.symm h)]
theorem s_in_hi {ρ : Nat → Int32} {E : SE} {k : Nat} {c : Int} (h : s_in ρ E) (hc : (ρ k).toInt ≤ c) : s_in ρ (s_hi E k c) := by
  refine ⟨h.1, fun j => ?_⟩
  rcases s_iv_set E k j ((s_iv E k).1, c) with ⟨e, rfl⟩ | e
  · unfold s_hi; rw [e]; exact ⟨(h.2 j).1, hc⟩
  · unfold s_hi; rw [e]; exact h.2 j
theorem s_in_lo {ρ : Nat → Int32} {E : SE} {k : Nat} {c : Int} (h : s_in ρ E) (hc : c ≤ (ρ k).toInt) : s_in ρ (s_lo E k c) := by
  refine ⟨h.1, fun j => ?_⟩
  rcases s_iv_set E k j (c, (s_iv E k).2) with ⟨e, rfl⟩ | e
  · unfold s_lo; rw [e]; exact ⟨hc, (h.2 j).2⟩
  · unfold s_lo; rw [e]; exact h.2 j
def s_all {α β : Type} (f : α → Option (List β)) : List α → Option (List β)
  | [] => some []
  | a :: t => match f a with
    | none => none
    | some x => match s_all f t with
      | none => none
      | some y => some (x ++ y)
theorem s_all_ok {α β : Type} {f : α → Option (List β)} : ∀ {l : List α} {r : List β}, s_all f l = some r → ∀ a ∈ l, ∃ x, f a = some x ∧ ∀ b ∈ x, b ∈ r
  | [], _, _, a, ha => by cases ha
  | a0 :: t, r, h, a, ha => by
    unfold s_all at h
    split at h
    · cases h
    · rename_i x hx
      split at h
      · cases h
      · rename_i y hy
        cases h
        rcases List.mem_cons.mp ha with rfl | ha
        · exact ⟨x, hx, fun b hb => List.mem_append_left _ hb⟩
        · obtain ⟨z, hz, hzz⟩ := s_all_ok hy a ha
          exact ⟨z, hz, fun b hb => List.mem_append_right _ (hzz b hb)⟩
abbrev SQ : Type := SE × SOut × SW
/-- the small machine over symbols: all the ways that a frame may end -/
def s_run : Nat → Nat → Nat → Nat → SL → List SV → SW → SE → Option (List SQ)
  | 0, _, _, _, _, _, _, _ => none
  | n + 1, d, mid, pc, L, st, A, E => match q_th mid pc with
    | some X => if 10 ≤ d ∧ st = [] then some [(E, .inr X, s_thr A)] else none
    | none => match q_i mid pc with
      | none => none
      | some i => match s_step E mid d i pc L st A with
        | some (.inl r) => s_run n d mid r.1 r.2.1 r.2.2.1 r.2.2.2 E
        | some (.inr z) => match s_run n d mid pc L st A (s_hi E z.1 (z.2 - 1)) with
          | none => none
          | some a => match s_run n d mid pc L st A (s_lo E z.1 z.2) with
            | none => none
            | some b => some (a ++ b)
        | none => match s_ret mid i st with
          | some v => some [(E, .inl v, A)]
          | none => match s_call mid i st A with
            | none => none
            | some z => match d with
              | 0 => none
              | d' + 1 => match s_run n d' z.1 0 (s_ent 0 z.2.1) [] A E with
                | none => none
                | some rs => s_all (fun q => match q.2.1 with
                  | .inl v => s_run n (d' + 1) mid (pc + 3) L (v.toList ++ z.2.2) q.2.2 q.1
                  | .inr X => match q_h mid pc X with
                    | some hh => s_run n (d' + 1) mid hh.1 (s_drop L hh.2) [] q.2.2 q.1
                    | none => none) rs
def s_out (ρ : Nat → Int32) : SOut → MOut
  | .inl v => .inl (v.map (s_val ρ))
  | .inr X => .inr X
theorem s_ret_ok {ρ : Nat → Int32} {mid : Nat} {i : Instr} {st : List SV} {v : Option SV} (h : s_ret mid i st = some v) : m_ret mid i (st.map (s_val ρ)) = some (v.map (s_val ρ)) ∧ (i = .return_ ∨ i = .ireturn ∨ i = .lreturn ∨ i = .areturn) := by
  unfold s_ret at h
  split at h
  · refine ⟨?_, Or.inl rfl⟩
    split at h
    · rename_i hrt
      cases h
      simp only [m_ret, List.map_nil, hrt, Option.map_none]
    · cases h
  · refine ⟨?_, Or.inr (Or.inl rfl)⟩
    split at h
    · rename_i v hrt
      split at h
      · rename_i hv
        cases h
        obtain ⟨y, hy⟩ := m_isI_ok ((s_isI_val ρ v).trans hv)
        simp only [m_ret, List.map_cons, List.map_nil, hrt, hy, Option.map_some]
      · cases h
    · rename_i x hrt
      split at h
      · rename_i hv
        cases h
        simp only [m_ret, List.map_cons, List.map_nil, hrt, s_val, Option.map_some]
        rw [if_pos hv]
      · cases h
    · cases h
  · refine ⟨?_, Or.inr (Or.inr (Or.inl rfl))⟩
    split at h
    · rename_i v hrt
      split at h
      · rename_i hv
        cases h
        obtain ⟨y, hy⟩ := m_isL_ok ((s_isL_val ρ v).trans hv)
        simp only [m_ret, List.map_cons, List.map_nil, hrt, hy, Option.map_some]
      · cases h
    · cases h
  · refine ⟨?_, Or.inr (Or.inr (Or.inr rfl))⟩
    split at h
    · rename_i x n hrt
      cases h
      simp only [m_ret, List.map_cons, List.map_nil, hrt, s_val, Option.map_some]
    · rename_i x n hrt
      cases h
      simp only [m_ret, List.map_cons, List.map_nil, hrt, s_val, Option.map_some]
    · cases h
  · cases h
theorem s_call_ok {ρ : Nat → Int32} {mid : Nat} {i : Instr} {st : List SV} {A : SW} {z : Nat × List SV × List SV} (h : s_call mid i st A = some z) :
    m_call mid i (st.map (s_val ρ)) (s_w ρ A) = some (z.1, z.2.1.map (s_val ρ), z.2.2.map (s_val ρ)) ∧ ((∃ idx kd, i = .invokestatic idx ∧ q_m mid idx = some (z.1, kd) ∧ (kd = 1 ∨ kd = 3 ∨ kd = 7)) ∨ (∃ idx, i = .invokevirtual idx) ∨ (∃ idx kd, i = .invokespecial idx ∧ q_m mid idx = some (z.1, kd) ∧ (kd = 2 ∨ kd = 6))) := by
  unfold s_call at h
  split at h
  · split at h
    · rename_i cm kd hq
      split at h
      · rename_i hc
        obtain ⟨h1, h2, h3, h4⟩ := hc
        cases h
        refine ⟨?_, Or.inl ⟨_, kd, rfl, hq, h1⟩⟩
        simp only [m_call, hq]
        rw [if_pos ⟨h1, by rw [List.length_map]; exact h2, by rw [← List.map_drop, s_cats_val]; exact h3, by rw [← List.map_take, ← List.map_reverse, s_cats_val]; exact h4⟩, ← List.map_drop, ← List.map_take, ← List.map_reverse]
      · cases h
    · cases h
  · split at h
    · rename_i cm kd hq
      split at h
      · rename_i a r hdr
        split at h
        · rename_i hc
          obtain ⟨h1, h2, h3, h4, h5, h6, h7, h8⟩ := hc
          cases h
          refine ⟨?_, Or.inr (Or.inl ⟨_, rfl⟩)⟩
          simp only [m_call, hq]
          rw [← List.map_drop, hdr, List.map_cons]
          simp only [s_val]
          rw [if_pos ⟨h1, by rw [List.length_map]; exact h2, by rw [s_cats_val]; exact h3, by
            rw [← List.map_take, ← List.map_reverse]
            have e := s_cats_val ρ (.inl (.inr (.inr (some a))) :: (st.take (q_np cm)).reverse)
            rw [List.map_cons] at e
            simp only [s_val] at e
            rw [e]; exact h4, h5, h6, h7, h8⟩, ← List.map_take, ← List.map_reverse]
          rfl
        · cases h
      · cases h
    · cases h
  · split at h
    · rename_i cm kd hq
      split at h
      · rename_i a r hdr
        split at h
        · rename_i hc
          obtain ⟨h1, h2, h3, h4⟩ := hc
          cases h
          refine ⟨?_, Or.inr (Or.inr ⟨_, kd, rfl, hq, h1⟩)⟩
          simp only [m_call, hq]
          rw [← List.map_drop, hdr, List.map_cons]
          simp only [s_val]
          rw [if_pos ⟨h1, by rw [List.length_map]; exact h2, by rw [s_cats_val]; exact h3, by
            rw [← List.map_take, ← List.map_reverse]
            have e := s_cats_val ρ (.inl (.inr (.inr (some a))) :: (st.take (q_np cm)).reverse)
            rw [List.map_cons] at e
            simp only [s_val] at e
            rw [e]; exact h4⟩, ← List.map_take, ← List.map_reverse]
          rfl
        · cases h
      · cases h
    · cases h
  · cases h
theorem s_run_ok (ro : MRo) : ∀ (n d mid pc : Nat) (L : SL) (st : List SV) (A : SW) (E : SE) (rs : List SQ), s_run n d mid pc L st A E = some rs → ∀ ρ : Nat → Int32, s_in ρ E → s_ro ro ρ →
    ∃ q ∈ rs, s_in ρ q.1 ∧ ∃ k, m_run ro k d mid pc (sl_val ρ L) (st.map (s_val ρ)) (s_w ρ A) = some (s_out ρ q.2.1, s_w ρ q.2.2) := by
  intro n
  induction n with
  | zero => intro d mid pc L st A E rs h; cases h
  | succ n ih =>
    intro d mid pc L st A E rs h ρ hE hro
    unfold s_run at h
    split at h
    · rename_i X hth
      split at h
      · rename_i hc
        obtain ⟨h10, rfl⟩ := hc
        cases h
        refine ⟨_, List.mem_cons_self, hE, 1, ?_⟩
        rw [m_run, hth]
        dsimp only
        rw [if_pos ⟨h10, rfl⟩]
        rfl
      · cases h
    rename_i hth
    split at h
    · cases h
    rename_i i hi
    split at h
    · rename_i r hr
      obtain ⟨q, hq, hqE, k, hk⟩ := ih _ _ _ _ _ _ _ _ h ρ hE hro
      refine ⟨q, hq, hqE, k + 1, ?_⟩
      rw [m_run_stp hth hi (s_step_ok hE hro hr)]
      exact hk
    · rename_i z hz
      split at h
      · cases h
      rename_i a ha
      split at h
      · cases h
      rename_i b hb
      cases h
      by_cases hle : (ρ z.1).toInt ≤ z.2 - 1
      · obtain ⟨q, hq, hqE, k, hk⟩ := ih _ _ _ _ _ _ _ _ ha ρ (s_in_hi hE hle) hro
        exact ⟨q, List.mem_append_left _ hq, hqE, k, hk⟩
      · obtain ⟨q, hq, hqE, k, hk⟩ := ih _ _ _ _ _ _ _ _ hb ρ (s_in_lo hE (by omega)) hro
        exact ⟨q, List.mem_append_right _ hq, hqE, k, hk⟩
    split at h
    · rename_i v hv
      cases h
      obtain ⟨h1, h2⟩ := s_ret_ok (ρ := ρ) hv
      exact ⟨_, List.mem_cons_self, hE, 1, m_run_ret hth hi h1 h2⟩
    split at h
    · cases h
    rename_i z hz
    obtain ⟨hz1, hz2⟩ := s_call_ok (ρ := ρ) hz
    split at h
    · cases h
    split at h
    · cases h
    rename_i rs1 hrs1
    obtain ⟨q1, hq1, hqE1, k1, hk1⟩ := ih _ _ _ _ _ _ _ _ hrs1 ρ hE hro
    rw [s_ent_val] at hk1
    obtain ⟨x, hx, hxr⟩ := s_all_ok h q1 hq1
    split at hx
    · rename_i v hv
      obtain ⟨q, hq, hqE, k, hk⟩ := ih _ _ _ _ _ _ _ _ hx ρ hqE1 hro
      refine ⟨q, hxr q hq, hqE, max k1 k + 1, ?_⟩
      rw [m_run_call hth hi hz1 hz2 (m_run_le hk1 (Nat.le_max_left _ _)), hv]
      show m_run ro (max k1 k) (_ + 1) mid (pc + 3) (sl_val ρ L) ((v.map (s_val ρ)).toList ++ z.2.2.map (s_val ρ)) _ = _
      have e : (v.map (s_val ρ)).toList ++ z.2.2.map (s_val ρ) = (v.toList ++ z.2.2).map (s_val ρ) := by cases v <;> simp
      rw [e]
      exact m_run_le hk (Nat.le_max_right _ _)
    · rename_i X hv
      split at hx
      · rename_i hh hhq
        obtain ⟨q, hq, hqE, k, hk⟩ := ih _ _ _ _ _ _ _ _ hx ρ hqE1 hro
        refine ⟨q, hxr q hq, hqE, max k1 k + 1, ?_⟩
        rw [m_run_call hth hi hz1 hz2 (m_run_le hk1 (Nat.le_max_left _ _)), hv]
        show (match q_h mid pc X with | none => none | some hh => _) = _
        rw [hhq]
        dsimp only
        rw [s_drop_val] at hk
        exact m_run_le hk (Nat.le_max_right _ _)
      · cases hx
end
