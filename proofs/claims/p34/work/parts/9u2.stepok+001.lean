section SSTEP
variable {ρ : Nat → Int32} {E : SE} {pc nL mid d : Nat} {L : SL} {st : List SV} {A : SW} {r : Nat × SL × List SV × SW} {ro : MRo} {i : Instr}
theorem s_shp_c {C : SM} {a : Nat} {c : SC} (hc : s_cell C a = some c) : s_shp C a = c.1 := by unfold s_shp; rw [hc]
theorem s_mem_c {C : SM} {a j : Nat} {c : SC} (hc : s_cell C a = some c) : s_mem C a j = s_get c j := by unfold s_mem; rw [hc]
theorem s_find_run {α : Type} (j : Nat) (t : List (Nat × α)) : ∀ (n dp : Nat) (g : Nat → α), q_find ((List.range n).map (fun i => (dp + i, g i)) ++ t) j = if dp ≤ j ∧ j < dp + n then some (g (j - dp)) else q_find t j
  | 0, dp, g => by rw [if_neg (by omega)]; rfl
  | n + 1, dp, g => by
    have ih := s_find_run j t n (dp + 1) (fun i => g (i + 1))
    rw [List.range_succ_eq_map, List.map_cons, List.map_map, List.cons_append]
    have e : ((fun i => (dp + i, g i)) ∘ Nat.succ) = (fun i => (dp + 1 + i, g (i + 1))) := by
      funext i
      show (dp + (i + 1), g (i + 1)) = _
      rw [show dp + (i + 1) = dp + 1 + i by omega]
    rw [e, q_find_cons]
    by_cases h : j = dp
    · rw [if_pos (by omega), if_pos (by omega)]
      rw [show j - dp = 0 by omega]
    · rw [if_neg (by omega), ih]
      by_cases h2 : dp + 1 ≤ j ∧ j < dp + 1 + n
      · rw [if_pos h2, if_pos (by omega)]
        rw [show j - (dp + 1) + 1 = j - dp by omega]
      · rw [if_neg h2, if_neg (by omega)]
theorem s_w_cp {a0 a sp dp n : Nat} {c : SC} (hc : s_cell A.2.2.2 a = some c) : s_w ρ (s_cp A a0 a sp dp n c) = m_cp (s_w ρ A) a0 a sp dp n := by
  unfold s_cp s_w m_cp
  dsimp only
  congr 4
  · funext k
    unfold s_shp
    rw [s_cell_setc]
    by_cases h : k = a
    · subst h; rw [if_pos rfl, hc]
    · rw [if_neg h]
  · funext k j
    have e2 : s_mem (s_setc A.2.2.2 a (c.1, (List.range n).map (fun j => (dp + j, s_intV (s_mem A.2.2.2 a0 (sp + j)))) ++ c.2)) k j = if k = a then (if dp ≤ j ∧ j < dp + n then s_intV (s_mem A.2.2.2 a0 (sp + (j - dp))) else s_mem A.2.2.2 a j) else s_mem A.2.2.2 k j := by
      show (match s_cell (s_setc A.2.2.2 a (c.1, (List.range n).map (fun j => (dp + j, s_intV (s_mem A.2.2.2 a0 (sp + j)))) ++ c.2)) k with | some c => s_get c j | none => .inl (.inl 0)) = _
      rw [s_cell_setc]
      by_cases h : k = a
      · rw [if_pos h, if_pos h, s_mem_c hc]
        show (match q_find ((List.range n).map (fun j => (dp + j, s_intV (s_mem A.2.2.2 a0 (sp + j)))) ++ c.2) j with | some v => v | none => .inl (s_dflt c.1.1 j)) = _
        rw [s_find_run j c.2 n dp (fun j => s_intV (s_mem A.2.2.2 a0 (sp + j)))]
        by_cases h2 : dp ≤ j ∧ j < dp + n
        · rw [if_pos h2, if_pos h2]
        · rw [if_neg h2, if_neg h2]; rfl
      · rw [if_neg h, if_neg h]; rfl
    rw [e2]
    by_cases h : k = a
    · rw [if_pos h, if_pos h]
      by_cases h2 : dp ≤ j ∧ j < dp + n
      · rw [if_pos h2, if_pos h2, s_intV_val]
      · rw [if_neg h2, if_neg h2]
    · rw [if_neg h, if_neg h]
theorem s_dflt_o {ci : Nat} (h : ci < 100) : (fun j => m_def (q_ty ci j)) = s_dflt ci := by
  funext j; unfold s_dflt; rw [if_pos h]
theorem s_w_mk2 {k : Nat × Nat} {f : Nat → MV} (h : f = s_dflt k.1) : m_mk (s_w ρ A) k f = s_w ρ (s_mk A k) := by rw [s_w_mk, h]
abbrev s_ro (_ : MRo) (_ : Nat → Int32) : Prop := True
set_option maxHeartbeats 8000000 in
theorem s_step_ok (hE : s_in ρ E) (hro : s_ro ro ρ) (h : s_step E mid d i pc L st A = some (.inl r)) : m_stp ro mid d i pc (sl_val ρ L) (st.map (s_val ρ)) (s_w ρ A) = some (r.1, sl_val ρ r.2.1, r.2.2.1.map (s_val ρ), s_w ρ r.2.2.2) := by
  cases i
  case iconst n => cases h; exact s_fin rfl rfl
  case bipush n => cases h; exact s_fin rfl rfl
  case sipush n => cases h; exact s_fin rfl rfl
  case lconst n => cases h; exact s_fin rfl rfl
  case aconst_null => cases h; exact s_fin rfl rfl
  case iload i => have h2 := s_ld_ok (s_isI_val ρ) h; exact s_fin h2.1 h2.2
  case iload_n i => have h2 := s_ld_ok (s_isI_val ρ) h; exact s_fin h2.1 h2.2
  case lload i => have h2 := s_ld_ok (s_isL_val ρ) h; exact s_fin h2.1 h2.2
  case lload_n i => have h2 := s_ld_ok (s_isL_val ρ) h; exact s_fin h2.1 h2.2
  case aload i => have h2 := s_ld_ok (s_isR_val ρ) h; exact s_fin h2.1 h2.2
  case aload_n i => have h2 := s_ld_ok (s_isR_val ρ) h; exact s_fin h2.1 h2.2
  case istore i => have h2 := s_st1_ok (s_isI_val ρ) h; exact s_fin h2.1 h2.2
  case istore_n i => have h2 := s_st1_ok (s_isI_val ρ) h; exact s_fin h2.1 h2.2
  case lstore i => have h2 := s_st2_ok (ρ := ρ) h; exact s_fin h2.1 h2.2
  case lstore_n i => have h2 := s_st2_ok (ρ := ρ) h; exact s_fin h2.1 h2.2
  case astore i => have h2 := s_st1_ok (s_isR_val ρ) h; exact s_fin h2.1 h2.2
  case astore_n i => have h2 := s_st1_ok (s_isR_val ρ) h; exact s_fin h2.1 h2.2
  case iinc i n =>
    simp only [s_step] at h
    split at h
    · rename_i v hv
      replace h := s_wI_ok h; obtain ⟨x, hx, h⟩ := h
      split at h
      · rename_i hi
        cases h
        refine s_fin ?_ rfl
        simp only [m_pure, s_gets_val, hv, Option.map_some, s_exI_ok hE hx]
        rw [if_pos hi]
        show _ = some (pc + 3, sl_val ρ (s_store L i (.inl (.inl (x + Int32.ofInt n)))), _)
        rw [s_store_val]
        rfl
      · cases h
    · cases h
  case iadd => simp only [s_step] at h; have h2 := s_ii_ok hE h; exact s_fin h2.1 h2.2
  case isub => simp only [s_step] at h; have h2 := s_ii_ok hE h; exact s_fin h2.1 h2.2
  case imul => simp only [s_step] at h; have h2 := s_ii_ok hE h; exact s_fin h2.1 h2.2
  case idiv =>
    simp only [s_step] at h
    split at h
    · rename_i rr hrr
      unfold s_div at hrr
      split at hrr
      · rename_i b r2
        split at hrr
        · rename_i hb
          subst hb
          cases hrr
          cases h
          refine s_fin ?_ rfl
          show some (pc + 1, _, Sum.inl (ρ 2 / 10000) :: _) = some (pc + 1, _, Sum.inl (ρ 8) :: _)
          rw [hE.1.2.1]
        split at hrr
        · rename_i hb
          subst hb
          cases hrr
          cases h
          refine s_fin ?_ rfl
          show some (pc + 1, _, Sum.inl (ρ 2 / 100) :: _) = some (pc + 1, _, Sum.inl (ρ 9) :: _)
          rw [hE.1.2.2.1]
        · cases hrr
      · cases hrr
    · have h2 := s_ii_ok hE h; exact s_fin h2.1 h2.2
  case irem =>
    simp only [s_step] at h
    split at h
    · rename_i rr hrr
      unfold s_rem at hrr
      split at hrr
      · rename_i b r2
        split at hrr
        · rename_i hb
          subst hb
          cases hrr
          cases h
          refine s_fin ?_ rfl
          show some (pc + 1, _, Sum.inl (ρ 2 - ρ 2 / 100 * 100) :: _) = some (pc + 1, _, Sum.inl (ρ 10) :: _)
          rw [hE.1.2.2.2]
        · cases hrr
      · cases hrr
    · have h2 := s_ii_ok hE h; exact s_fin h2.1 h2.2
  case iand =>
    simp only [s_step] at h
    split at h
    · rename_i rr hrr
      unfold s_and63 at hrr
      split at hrr
      · rename_i b r2
        split at hrr
        · rename_i hb
          subst hb
          cases hrr
          cases h
          refine s_fin ?_ rfl
          show some (pc + 1, _, Sum.inl (ρ 0 &&& 63) :: _) = some (pc + 1, _, Sum.inl (ρ 7) :: _)
          rw [hE.1.1]
        · cases hrr
      · cases hrr
    · have h2 := s_ii_ok hE h; exact s_fin h2.1 h2.2
  case ior => simp only [s_step] at h; have h2 := s_ii_ok hE h; exact s_fin h2.1 h2.2
  case ixor => simp only [s_step] at h; have h2 := s_ii_ok hE h; exact s_fin h2.1 h2.2
  case ishl => simp only [s_step] at h; have h2 := s_ii_ok hE h; exact s_fin h2.1 h2.2
  case ishr => simp only [s_step] at h; have h2 := s_ii_ok hE h; exact s_fin h2.1 h2.2
  case ineg => simp only [s_step] at h; have h2 := s_i1_ok hE h; exact s_fin h2.1 h2.2
  case i2l =>
    simp only [s_step] at h
    split at h
    · cases h; exact s_fin rfl rfl
    · cases h; exact s_fin rfl rfl
    · cases h
  case i2b => simp only [s_step] at h; have h2 := s_i1_ok hE h; exact s_fin h2.1 h2.2
  case i2s => simp only [s_step] at h; have h2 := s_i1_ok hE h; exact s_fin h2.1 h2.2
  case l2i =>
    simp only [s_step] at h
    split at h
    · cases h; exact s_fin rfl rfl
    · cases h
  case ladd => simp only [s_step] at h; have h2 := s_ll_ok (ρ := ρ) h; exact s_fin h2.1 h2.2
  case lsub => simp only [s_step] at h; have h2 := s_ll_ok (ρ := ρ) h; exact s_fin h2.1 h2.2
  case lmul => simp only [s_step] at h; have h2 := s_ll_ok (ρ := ρ) h; exact s_fin h2.1 h2.2
  case ldiv => simp only [s_step] at h; have h2 := s_ll_ok (ρ := ρ) h; exact s_fin h2.1 h2.2
  case lcmp =>
    simp only [s_step] at h
    split at h
    · rename_i y x rr
      split at h
      · rename_i o ho
        cases h
        obtain ⟨p, q, h1, h2, h3⟩ := s_ord_ok hE ho
        obtain ⟨a, ha, rfl⟩ := s_numT h1
        obtain ⟨b, hb, rfl⟩ := s_numT h2
        refine s_fin ?_ rfl
        simp only [m_pure, List.map_cons, ha, hb, m_ll]
        rw [s_lcmp_ok, ← h3]
        rfl
      · cases h
      · cases h
    · cases h
  case dup =>
    simp only [s_step] at h
    split at h
    · rename_i v rr
      split at h
      · cases h
      · rename_i hv
        cases h
        refine s_fin ?_ rfl
        show (if m_isL (s_val ρ v) = true then _ else _) = _
        rw [s_isL_val, if_neg hv]
        rfl
    · cases h
  case dup2 =>
    simp only [s_step] at h
    split at h
    · rename_i v u rr
      split at h
      · cases h
      · rename_i hv
        cases h
        refine s_fin ?_ rfl
        show (if m_isL (s_val ρ v) = true ∨ m_isL (s_val ρ u) = true then _ else _) = _
        rw [s_isL_val, s_isL_val, if_neg hv]
        rfl
    · cases h
  case goto off => have h2 := s_to_ok (ρ := ρ) h; exact s_fin h2.1 h2.2
  case ifCond c off =>
    simp only [s_step] at h
    split at h
    · rename_i x rr
      obtain ⟨a, b, ha, hb, ho, rfl⟩ := s_br_ok hE h
      refine s_fin ?_ rfl
      cases hb
      rw [List.map_cons, ha]
      show (if 0 ≤ (pc : Int) + off then some (if m_cmp c a 0 = true then _ else _, _, _) else none) = _
      rw [if_pos ho]
    · cases h
  case if_icmp c off =>
    simp only [s_step] at h
    split at h
    · rename_i y x rr
      obtain ⟨a, b, ha, hb, ho, rfl⟩ := s_br_ok hE h
      refine s_fin ?_ rfl
      rw [List.map_cons, List.map_cons, ha, hb]
      show (if 0 ≤ (pc : Int) + off then some (if m_cmp c a b = true then _ else _, _, _) else none) = _
      rw [if_pos ho]
    · cases h
  case ifnull off =>
    simp only [s_step] at h
    split at h
    · have h2 := s_to_ok (ρ := ρ) h; exact s_fin h2.1 h2.2
    · cases h; exact s_fin rfl rfl
    · cases h
  case ifnonnull off =>
    simp only [s_step] at h
    split at h
    · cases h; exact s_fin rfl rfl
    · have h2 := s_to_ok (ρ := ρ) h; exact s_fin h2.1 h2.2
    · cases h
  case tableswitch dflt lo hi offs =>
    simp only [s_step] at h
    split at h
    · rename_i v rr
      split at h
      · rename_i hrng
        obtain ⟨x, hx, hc⟩ := s_rng_ok hE hrng
        have h2 := s_to_ok (ρ := ρ) h
        refine s_fin ?_ h2.2
        rw [List.map_cons, hx]
        show (if x.toInt < lo ∨ hi < x.toInt then _ else _) = _
        rw [if_pos hc]
        exact h2.1
      · replace h := s_wI_ok h; obtain ⟨x, hx, h⟩ := h
        split at h
        · rename_i hc
          have h2 := s_to_ok (ρ := ρ) h
          refine s_fin ?_ h2.2
          rw [List.map_cons, s_exI_ok hE hx]
          show (if x.toInt < lo ∨ hi < x.toInt then _ else _) = _
          rw [if_pos hc]
          exact h2.1
        · rename_i hc
          split at h
          · rename_i off hoff
            have h2 := s_to_ok (ρ := ρ) h
            refine s_fin ?_ h2.2
            rw [List.map_cons, s_exI_ok hE hx]
            show (if x.toInt < lo ∨ hi < x.toInt then _ else (match offs[(x.toInt - lo).toNat]? with | some off => _ | none => _)) = _
            rw [if_neg hc, hoff]
            exact h2.1
          · cases h
      · cases h
    · cases h
  case getfield idx =>
    simp only [s_step] at h
    split at h
    · rename_i ci k a rr hf
      split at h
      · rename_i c hc
        split at h
        · rename_i hcc
          obtain ⟨h8, hlt, hsh⟩ := hcc
          cases h
          dsimp only; refine s_finh rfl ?_
          simp only [m_heap, hf, List.map_cons, s_val_ex]
          rw [if_pos ⟨h8, hlt, (s_shp_c hc).trans hsh⟩]
          show some (s_val ρ (s_mem A.2.2.2 a k) :: _, _) = _
          rw [s_mem_c hc]
        · cases h
      · cases h
    · cases h
  case putfield idx =>
    simp only [s_step] at h
    split at h
    · rename_i ci k v a rr hf
      split at h
      · rename_i c hc
        split at h
        · rename_i hcc
          obtain ⟨h8, hlt, hsh, hpf, hfit⟩ := hcc
          cases h
          dsimp only; refine s_finh rfl ?_
          simp only [m_heap, hf, List.map_cons, s_val_ex]
          rw [if_pos ⟨h8, hlt, (s_shp_c hc).trans hsh, hpf, s_fit_val hfit⟩, s_w_wr hc]
        · cases h
      · cases h
    · cases h
  case iaload =>
    simp only [s_step] at h
    split at h
    · rename_i j a rr
      replace h := s_wI_ok h; obtain ⟨x, hx, h⟩ := h
      split at h
      · cases h
      · rename_i ha0
        split at h
        · rename_i c hc
          split at h
          · rename_i hcc
            obtain ⟨h8, hlt, hki, hj0, hjl⟩ := hcc
            cases h
            dsimp only; refine s_finh rfl ?_
            simp only [m_heap, List.map_cons, s_val_ex, s_exI_ok hE hx]
            rw [if_neg (by omega)]
            have e1 : msh (s_w ρ A) a = c.1 := s_shp_c hc
            rw [if_pos ⟨hlt, by rw [e1]; exact hki, hj0, by rw [e1]; exact hjl⟩, s_intV_val]
            show some (Sum.inl (m_int (s_val ρ (s_mem A.2.2.2 a _))) :: _, _) = _
            rw [s_mem_c hc]
          · cases h
        · cases h
    · cases h
  case iastore =>
    simp only [s_step] at h
    split at h
    · rename_i v j a rr
      replace h := s_wI_ok h; obtain ⟨x, hx, h⟩ := h
      split at h
      · rename_i c hc
        split at h
        · rename_i hcc
          obtain ⟨h8, hlt, hki, hj0, hjl, hv⟩ := hcc
          cases h
          obtain ⟨y, hy⟩ := m_isI_ok ((s_isI_val ρ v).trans hv)
          dsimp only; refine s_finh rfl ?_
          have e1 : msh (s_w ρ A) a = c.1 := s_shp_c hc
          simp only [m_heap, List.map_cons, s_val_ex, s_exI_ok hE hx, hy]
          rw [if_pos ⟨h8, hlt, by rw [e1]; exact hki, hj0, by rw [e1]; exact hjl⟩, s_w_wr hc, hy]
        · cases h
      · cases h
    · cases h
  case laload =>
    simp only [s_step] at h
    split at h
    · rename_i j a rr
      replace h := s_wI_ok h; obtain ⟨x, hx, h⟩ := h
      split at h
      · rename_i c hc
        split at h
        · rename_i hcc
          obtain ⟨h8, hlt, hki, hj0, hjl⟩ := hcc
          cases h
          dsimp only; refine s_finh rfl ?_
          have e1 : msh (s_w ρ A) a = c.1 := s_shp_c hc
          simp only [m_heap, List.map_cons, s_val_ex, s_exI_ok hE hx]
          rw [if_pos ⟨h8, hlt, by rw [e1]; exact hki, hj0, by rw [e1]; exact hjl⟩, s_lngV_val]
          show some (Sum.inr (Sum.inl (m_lng (s_val ρ (s_mem A.2.2.2 a _)))) :: _, _) = _
          rw [s_mem_c hc]
        · cases h
      · cases h
    · cases h
  case lastore =>
    simp only [s_step] at h
    split at h
    · rename_i v j a rr
      replace h := s_wI_ok h; obtain ⟨x, hx, h⟩ := h
      split at h
      · rename_i c hc
        split at h
        · rename_i hcc
          obtain ⟨h8, hlt, hki, hj0, hjl, hv⟩ := hcc
          cases h
          obtain ⟨y, hy⟩ := m_isL_ok ((s_isL_val ρ v).trans hv)
          dsimp only; refine s_finh rfl ?_
          have e1 : msh (s_w ρ A) a = c.1 := s_shp_c hc
          simp only [m_heap, List.map_cons, s_val_ex, s_exI_ok hE hx, hy]
          rw [if_pos ⟨h8, hlt, by rw [e1]; exact hki, hj0, by rw [e1]; exact hjl⟩, s_w_wr hc, hy]
        · cases h
      · cases h
    · cases h
  case aaload =>
    simp only [s_step] at h
    split at h
    · rename_i j a rr
      replace h := s_wI_ok h; obtain ⟨x, hx, h⟩ := h
      split at h
      · rename_i c hc
        split at h
        · rename_i hcc
          obtain ⟨h8, hlt, hki, hra, hj0, hjl⟩ := hcc
          cases h
          dsimp only; refine s_finh rfl ?_
          have e1 : msh (s_w ρ A) a = c.1 := s_shp_c hc
          simp only [m_heap, List.map_cons, s_val_ex, s_exI_ok hE hx]
          rw [if_pos ⟨h8, hlt, by rw [e1]; exact hki, by rw [e1]; exact hra, hj0, by rw [e1]; exact hjl⟩, s_refV_val]
          show some (Sum.inr (Sum.inr (m_ref (s_val ρ (s_mem A.2.2.2 a _)))) :: _, _) = _
          rw [s_mem_c hc]
        · cases h
      · cases h
    · cases h
  case aastore =>
    simp only [s_step] at h
    split at h
    · rename_i b j a rr
      replace h := s_wI_ok h; obtain ⟨x, hx, h⟩ := h
      split at h
      · rename_i c hc
        split at h
        · rename_i hcc
          obtain ⟨h8, hlt, hki, hra, hj0, hjl, hb8, hbl, hbk, hb1⟩ := hcc
          cases h
          dsimp only; refine s_finh rfl ?_
          have e1 : msh (s_w ρ A) a = c.1 := s_shp_c hc
          simp only [m_heap, List.map_cons, s_val_ex, s_exI_ok hE hx]
          rw [if_pos ⟨h8, hlt, by rw [e1]; exact hki, by rw [e1]; exact hra, hj0, by rw [e1]; exact hjl, hb8, hbl, by rw [e1]; exact hbk, hb1⟩, s_w_wr hc]
          rfl
        · cases h
      · cases h
    · cases h
  case arraylength =>
    simp only [s_step] at h
    split at h
    · rename_i a rr
      split at h
      · cases h
      · rename_i ha0
        split at h
        · rename_i c hc
          split at h
          · rename_i hcc
            obtain ⟨h8, hlt, hki, hkk⟩ := hcc
            cases h
            dsimp only; refine s_finh rfl ?_
            have e1 : msh (s_w ρ A) a = c.1 := s_shp_c hc
            simp only [m_heap, List.map_cons, s_val_ex]
            rw [if_neg (by omega), if_pos ⟨hlt, by rw [e1]; exact hki, by rw [e1]; exact hkk⟩, e1]
          · cases h
        · cases h
    · cases h
  case new idx =>
    simp only [s_step] at h
    split at h
    · rename_i ci hq
      split at h
      · rename_i hcc
        cases h
        dsimp only; refine s_finn rfl rfl ?_
        unfold m_new
        rw [if_pos (show mcx (s_w ρ A) + 8 = mnx (s_w ρ A) from hcc.1)]
        dsimp only
        rw [hq]
        dsimp only
        rw [s_w_mk2 (k := (ci, q_nf ci)) (s_dflt_o hcc.2)]
        rfl
      · cases h
    · cases h
  case newarray t =>
    simp only [s_step] at h
    split at h
    · rename_i n rr
      split at h
      · rename_i hcc
        split at h
        · cases h
          dsimp only; refine s_finn rfl rfl ?_
          unfold m_new
          rw [if_pos (show mcx (s_w ρ A) + 8 = mnx (s_w ρ A) from hcc.1)]
          simp only [List.map_cons, s_val_ex]
          rw [if_pos hcc.2]
          rw [s_w_mk2 (k := (100, n.toNatClampNeg)) (by funext j; rfl)]
          rfl
        · cases h
          dsimp only; refine s_finn rfl rfl ?_
          unfold m_new
          rw [if_pos (show mcx (s_w ρ A) + 8 = mnx (s_w ρ A) from hcc.1)]
          simp only [List.map_cons, s_val_ex]
          rw [if_pos hcc.2]
          rw [s_w_mk2 (k := (101, n.toNatClampNeg)) (by funext j; rfl)]
          rfl
        · cases h
      · cases h
    · cases h
  case anewarray idx =>
    simp only [s_step] at h
    split at h
    · rename_i n rr
      split at h
      · rename_i hcc
        split at h
        · rename_i ci hq
          cases h
          dsimp only; refine s_finn rfl rfl ?_
          unfold m_new
          rw [if_pos (show mcx (s_w ρ A) + 8 = mnx (s_w ρ A) from hcc.1)]
          simp only [List.map_cons, s_val_ex, hq]
          rw [if_pos hcc.2]
          rw [s_w_mk2 (k := (102 + ci, n.toNatClampNeg)) (by funext j; unfold s_dflt; dsimp only; rw [if_neg (by omega), if_neg (by omega), if_neg (by omega)])]
          rfl
        · cases h
      · cases h
    · cases h
  case ldc idx =>
    simp only [s_step] at h
    split at h
    · rename_i x hq
      cases h
      dsimp only; exact s_finc rfl rfl (m_new_none (fun _ q => by cases q) (fun _ q => by cases q) (fun _ q => by cases q)) rfl rfl (by simp only [m_con, hq, s_val_ex])
    · cases h
  case ldc_w idx =>
    simp only [s_step] at h
    split at h
    · rename_i x hq
      cases h
      dsimp only; exact s_finc rfl rfl (m_new_none (fun _ q => by cases q) (fun _ q => by cases q) (fun _ q => by cases q)) rfl rfl (by simp only [m_con, hq, s_val_ex])
    · cases h
  case ldc2_w idx =>
    simp only [s_step] at h
    split at h
    · rename_i x hq
      cases h
      dsimp only; exact s_finc rfl rfl (m_new_none (fun _ q => by cases q) (fun _ q => by cases q) (fun _ q => by cases q)) rfl rfl (by simp only [m_con, hq, s_val_ex])
    · cases h
  case invokespecial idx =>
    simp only [s_step] at h
    split at h
    · rename_i cm a rr hq
      split at h
      · rename_i hcc
        cases h
        dsimp only; refine s_fino rfl rfl (m_new_none (fun _ q => by cases q) (fun _ q => by cases q) (fun _ q => by cases q)) rfl ?_ hcc.2
        simp only [m_obj, hq, List.map_cons, s_val_ex]
        rw [s_cats_val, if_pos hcc.1]
      · cases h
    · cases h
  case invokestatic idx =>
    simp only [s_step] at h
    split at h
    · rename_i cm y x rr hq
      split at h
      · rename_i hcc
        cases h
        dsimp only; refine s_fino rfl rfl (m_new_none (fun _ q => by cases q) (fun _ q => by cases q) (fun _ q => by cases q)) rfl ?_ hcc.2
        simp only [m_obj, hq, List.map_cons, s_val_ex]
        rw [s_cats_val, if_pos hcc.1]
      · cases h
    · rename_i cm y x rr hq
      split at h
      · rename_i hcc
        cases h
        dsimp only; refine s_fino rfl rfl (m_new_none (fun _ q => by cases q) (fun _ q => by cases q) (fun _ q => by cases q)) rfl ?_ hcc.2
        simp only [m_obj, hq, List.map_cons, s_val_ex]
        rw [s_cats_val, if_pos hcc.1]
      · cases h
    · rename_i cm x rr hq
      split at h
      · rename_i hcc
        cases h
        dsimp only; refine s_fino rfl rfl (m_new_none (fun _ q => by cases q) (fun _ q => by cases q) (fun _ q => by cases q)) rfl ?_ hcc.2
        simp only [m_obj, hq, List.map_cons, s_val_ex]
        rw [s_cats_val, if_pos hcc.1]
      · cases h
    · rename_i cm n dp a sp a0 rr hq
      split at h
      · rename_i c hc
        split at h
        · rename_i hcc
          obtain ⟨h8, hlt, hki, h80, hlt0, hki0, hs0, hd0, hn0, hb1, hb2, hcat, hdd⟩ := hcc
          cases h
          dsimp only; refine s_finy rfl rfl (m_new_none (fun _ q => by cases q) (fun _ q => by cases q) (fun _ q => by cases q)) rfl ?_ rfl ?_ hdd
          · simp only [m_obj, hq]
          · have e1 : msh (s_w ρ A) a = c.1 := s_shp_c hc
            simp only [m_cpy, hq, List.map_cons, s_val_ex]
            rw [if_pos ⟨h8, hlt, by rw [e1]; exact hki, h80, hlt0, hki0, hs0, hd0, hn0, hb1, by rw [e1]; exact hb2, by rw [s_cats_val]; exact hcat⟩, s_w_cp hc]
        · cases h
      · cases h
    · cases h
  all_goals (exact absurd h (by simp [s_step]))
end SSTEP
