section MPURE
variable {p : Program} {l : Launch} {e : Env} {R : Room} {s : State} {m : MethodId} {args : Array Value} {below : List Frame} {meth : Method} {c : Code} {H : Heap} {locs : List Loc} {cells slots : Nat} {Q : State → Prop} {cc : ByteArray} {ad : Nat → Nat} {pc nL : Nat} {L : ML} {st : List MV} {r : Nat × ML × List MV} {ls : Array Slot}
theorem m_br1_W (hx : p.tables.exec = Jvm.exec) (hb : c.code = cc) {cd : Jvm.ClassFile.Cond} {off : Int} (h : m_br1 pc off L st (fun x => m_cmp cd x 0) = some r) (hd : decode cc pc = .ok (.ifCond cd off, 3))
    (k : W p l e R s m args below meth c H locs cells slots Q (F0 m r.1 ls (r.2.2.map (m_val ad)))) : W p l e R s m args below meth c H locs cells slots Q (F0 m pc ls (st.map (m_val ad))) := by
  obtain ⟨x, rest, tgt, rfl, ht, rfl⟩ := m_br1_ok h
  by_cases h1 : m_cmp cd x 0 = true
  · rw [if_pos h1] at k
    cases cd
    case eq => exact lv_if_eq (tgt := tgt) hx hb hd ht (fun _ => k) (fun h2 => absurd h1 (by simpa [m_cmp] using h2))
    case ne => exact lv_if_ne (tgt := tgt) hx hb hd ht (fun _ => k) (fun h2 => absurd h1 (by simpa [m_cmp] using h2))
    case lt => exact lv_if_lt (tgt := tgt) hx hb hd ht (fun _ => k) (fun h2 => absurd h1 (by simpa [m_cmp] using h2))
    case ge => exact lv_if_ge (tgt := tgt) hx hb hd ht (fun _ => k) (fun h2 => absurd h1 (by simpa [m_cmp] using h2))
    case gt => exact lv_if_gt (tgt := tgt) hx hb hd ht (fun _ => k) (fun h2 => absurd h1 (by simpa [m_cmp] using h2))
    case le => exact lv_if_le (tgt := tgt) hx hb hd ht (fun _ => k) (fun h2 => absurd h1 (by simpa [m_cmp] using h2))
  · rw [if_neg h1] at k
    cases cd
    case eq => exact lv_if_eq (tgt := tgt) hx hb hd ht (fun h2 => absurd (by simpa [m_cmp] using h2) h1) (fun _ => k)
    case ne => exact lv_if_ne (tgt := tgt) hx hb hd ht (fun h2 => absurd (by simpa [m_cmp] using h2) h1) (fun _ => k)
    case lt => exact lv_if_lt (tgt := tgt) hx hb hd ht (fun h2 => absurd (by simpa [m_cmp] using h2) h1) (fun _ => k)
    case ge => exact lv_if_ge (tgt := tgt) hx hb hd ht (fun h2 => absurd (by simpa [m_cmp] using h2) h1) (fun _ => k)
    case gt => exact lv_if_gt (tgt := tgt) hx hb hd ht (fun h2 => absurd (by simpa [m_cmp] using h2) h1) (fun _ => k)
    case le => exact lv_if_le (tgt := tgt) hx hb hd ht (fun h2 => absurd (by simpa [m_cmp] using h2) h1) (fun _ => k)
theorem m_br2_W (hx : p.tables.exec = Jvm.exec) (hb : c.code = cc) {cd : Jvm.ClassFile.Cond} {off : Int} (h : m_br2 pc off L st (m_cmp cd) = some r) (hd : decode cc pc = .ok (.if_icmp cd off, 3))
    (k : W p l e R s m args below meth c H locs cells slots Q (F0 m r.1 ls (r.2.2.map (m_val ad)))) : W p l e R s m args below meth c H locs cells slots Q (F0 m pc ls (st.map (m_val ad))) := by
  obtain ⟨x, y, rest, tgt, rfl, ht, rfl⟩ := m_br2_ok h
  by_cases h1 : m_cmp cd x y = true
  · rw [if_pos h1] at k
    cases cd
    case eq => exact lv_icmp_eq (tgt := tgt) hx hb hd ht (fun _ => k) (fun h2 => absurd h1 (by simpa [m_cmp] using h2))
    case ne => exact lv_icmp_ne (tgt := tgt) hx hb hd ht (fun _ => k) (fun h2 => absurd h1 (by simpa [m_cmp] using h2))
    case lt => exact lv_icmp_lt (tgt := tgt) hx hb hd ht (fun _ => k) (fun h2 => absurd h1 (by simpa [m_cmp] using h2))
    case ge => exact lv_icmp_ge (tgt := tgt) hx hb hd ht (fun _ => k) (fun h2 => absurd h1 (by simpa [m_cmp] using h2))
    case gt => exact lv_icmp_gt (tgt := tgt) hx hb hd ht (fun _ => k) (fun h2 => absurd h1 (by simpa [m_cmp] using h2))
    case le => exact lv_icmp_le (tgt := tgt) hx hb hd ht (fun _ => k) (fun h2 => absurd h1 (by simpa [m_cmp] using h2))
  · rw [if_neg h1] at k
    cases cd
    case eq => exact lv_icmp_eq (tgt := tgt) hx hb hd ht (fun h2 => absurd (by simpa [m_cmp] using h2) h1) (fun _ => k)
    case ne => exact lv_icmp_ne (tgt := tgt) hx hb hd ht (fun h2 => absurd (by simpa [m_cmp] using h2) h1) (fun _ => k)
    case lt => exact lv_icmp_lt (tgt := tgt) hx hb hd ht (fun h2 => absurd (by simpa [m_cmp] using h2) h1) (fun _ => k)
    case ge => exact lv_icmp_ge (tgt := tgt) hx hb hd ht (fun h2 => absurd (by simpa [m_cmp] using h2) h1) (fun _ => k)
    case gt => exact lv_icmp_gt (tgt := tgt) hx hb hd ht (fun h2 => absurd (by simpa [m_cmp] using h2) h1) (fun _ => k)
    case le => exact lv_icmp_le (tgt := tgt) hx hb hd ht (fun h2 => absurd (by simpa [m_cmp] using h2) h1) (fun _ => k)
set_option maxHeartbeats 4000000 in
theorem m_pure_W (hx : p.tables.exec = Jvm.exec) (hb : c.code = cc) {i : Instr} {len : Nat} (h : m_pure i pc nL L st = some r) (hd : decode cc pc = .ok (i, len)) (hn : m_len i = len ∨ m_len i = 0) (hl : lv_has ls nL (ml_val ad L))
    (k : ∀ ls' : Array Slot, lv_has ls' nL (ml_val ad r.2.1) → W p l e R s m args below meth c H locs cells slots Q (F0 m r.1 ls' (r.2.2.map (m_val ad)))) : W p l e R s m args below meth c H locs cells slots Q (F0 m pc ls (st.map (m_val ad))) := by
  have hd1 : m_len i ≠ 0 → decode cc pc = .ok (i, m_len i) := fun h0 => by rw [hn.resolve_right h0]; exact hd
  cases i
  case iconst n =>
    cases h
    exact lv_iconst hx hb (hd1 (by simp [m_len])) rfl (k ls hl)
  case bipush n =>
    cases h
    exact lv_bipush hx hb (hd1 (by simp [m_len])) rfl (k ls hl)
  case sipush n =>
    cases h
    exact lv_sipush hx hb (hd1 (by simp [m_len])) rfl (k ls hl)
  case lconst n =>
    cases h
    exact lv_lconst hx hb (hd1 (by simp [m_len])) rfl (k ls hl)
  case aconst_null =>
    cases h
    exact lv_null hx hb (hd1 (by simp [m_len])) (k ls hl)
  case iload i =>
    obtain ⟨v, h1, h2, rfl⟩ := m_ld_ok h
    obtain ⟨x, rfl⟩ := m_isI_ok h2
    exact lv_iload hx hb (hd1 (by simp [m_len])) (m_get_at h1 hl) (k ls hl)
  case iload_n i =>
    obtain ⟨v, h1, h2, rfl⟩ := m_ld_ok h
    obtain ⟨x, rfl⟩ := m_isI_ok h2
    exact lv_iload_n hx hb (hd1 (by simp [m_len])) rfl (m_get_at h1 hl) (k ls hl)
  case lload i =>
    obtain ⟨v, h1, h2, rfl⟩ := m_ld_ok h
    obtain ⟨x, rfl⟩ := m_isL_ok h2
    exact lv_lload hx hb (hd1 (by simp [m_len])) (m_get_at h1 hl) (k ls hl)
  case lload_n i =>
    obtain ⟨v, h1, h2, rfl⟩ := m_ld_ok h
    obtain ⟨x, rfl⟩ := m_isL_ok h2
    exact lv_lload_n hx hb (hd1 (by simp [m_len])) rfl (m_get_at h1 hl) (k ls hl)
  case aload i =>
    obtain ⟨v, h1, h2, rfl⟩ := m_ld_ok h
    rcases m_isR_ok h2 with rfl | ⟨x, rfl⟩
    · exact lv_aloadN hx hb (hd1 (by simp [m_len])) (m_get_at h1 hl) (k ls hl)
    · exact lv_aload hx hb (hd1 (by simp [m_len])) (m_get_at h1 hl) (k ls hl)
  case aload_n i =>
    obtain ⟨v, h1, h2, rfl⟩ := m_ld_ok h
    rcases m_isR_ok h2 with rfl | ⟨x, rfl⟩
    · exact lv_aload_nN hx hb (hd1 (by simp [m_len])) rfl (m_get_at h1 hl) (k ls hl)
    · exact lv_aload_n hx hb (hd1 (by simp [m_len])) rfl (m_get_at h1 hl) (k ls hl)
  case istore i =>
    obtain ⟨v, rest, rfl, h2, h3, rfl⟩ := m_st1_ok h
    obtain ⟨x, rfl⟩ := m_isI_ok h2
    exact lv_istore hx hb (hd1 (by simp [m_len])) hl h3 (m_store_val ad L i (.inl x)) k
  case lstore i =>
    obtain ⟨v, rest, rfl, h2, h3, rfl⟩ := m_st2_ok h
    obtain ⟨x, rfl⟩ := m_isL_ok h2
    exact lv_lstore hx hb (hd1 (by simp [m_len])) hl h3 (m_store2_val ad L i (.inr (.inl x))) k
  case astore i =>
    obtain ⟨v, rest, rfl, h2, h3, rfl⟩ := m_st1_ok h
    rcases m_isR_ok h2 with rfl | ⟨x, rfl⟩
    · exact lv_astoreN hx hb (hd1 (by simp [m_len])) hl h3 (m_store_val ad L i (.inr (.inr none))) k
    · exact lv_astore hx hb (hd1 (by simp [m_len])) hl h3 (m_store_val ad L i (.inr (.inr (some x)))) k
  case istore_n i =>
    obtain ⟨v, rest, rfl, h2, h3, rfl⟩ := m_st1_ok h
    obtain ⟨x, rfl⟩ := m_isI_ok h2
    exact lv_istore_n hx hb (hd1 (by simp [m_len])) rfl hl h3 (m_store_val ad L (↑i) (.inl x)) k
  case lstore_n i =>
    obtain ⟨v, rest, rfl, h2, h3, rfl⟩ := m_st2_ok h
    obtain ⟨x, rfl⟩ := m_isL_ok h2
    exact lv_lstore_n hx hb (hd1 (by simp [m_len])) rfl hl h3 (m_store2_val ad L (↑i) (.inr (.inl x))) k
  case astore_n i =>
    obtain ⟨v, rest, rfl, h2, h3, rfl⟩ := m_st1_ok h
    rcases m_isR_ok h2 with rfl | ⟨x, rfl⟩
    · exact lv_astore_nN hx hb (hd1 (by simp [m_len])) rfl hl h3 (m_store_val ad L (↑i) (.inr (.inr none))) k
    · exact lv_astore_n hx hb (hd1 (by simp [m_len])) rfl hl h3 (m_store_val ad L (↑i) (.inr (.inr (some x)))) k
  case iinc i n =>
    simp only [m_pure] at h
    split at h
    · rename_i x h1
      split at h
      · rename_i h3
        cases h
        obtain ⟨q, hq⟩ := List.getElem?_of_mem (List.mem_map.mpr ⟨_, m_get_mem h1, rfl⟩ : (i, m_val ad (.inl x)) ∈ ml_val ad L)
        exact lv_iinc hx hb (hd1 (by simp [m_len])) hl hq rfl h3 (m_store_val ad L i (.inl (x + Int32.ofInt n))) k
      · cases h
    · cases h
  case iadd =>
    simp only [m_pure] at h
    obtain ⟨x, y, v, rest, rfl, hf, rfl⟩ := m_ii_ok h
    cases hf
    exact lv_iadd hx hb (hd1 (by simp [m_len])) (k ls hl)
  case isub =>
    simp only [m_pure] at h
    obtain ⟨x, y, v, rest, rfl, hf, rfl⟩ := m_ii_ok h
    cases hf
    exact lv_isub hx hb (hd1 (by simp [m_len])) (k ls hl)
  case imul =>
    simp only [m_pure] at h
    obtain ⟨x, y, v, rest, rfl, hf, rfl⟩ := m_ii_ok h
    cases hf
    exact lv_imul hx hb (hd1 (by simp [m_len])) (k ls hl)
  case iand =>
    simp only [m_pure] at h
    obtain ⟨x, y, v, rest, rfl, hf, rfl⟩ := m_ii_ok h
    cases hf
    exact lv_iand hx hb (hd1 (by simp [m_len])) (k ls hl)
  case ior =>
    simp only [m_pure] at h
    obtain ⟨x, y, v, rest, rfl, hf, rfl⟩ := m_ii_ok h
    cases hf
    exact lv_ior hx hb (hd1 (by simp [m_len])) (k ls hl)
  case ixor =>
    simp only [m_pure] at h
    obtain ⟨x, y, v, rest, rfl, hf, rfl⟩ := m_ii_ok h
    cases hf
    exact lv_ixor hx hb (hd1 (by simp [m_len])) (k ls hl)
  case ishl =>
    simp only [m_pure] at h
    obtain ⟨x, y, v, rest, rfl, hf, rfl⟩ := m_ii_ok h
    cases hf
    exact lv_ishl hx hb (hd1 (by simp [m_len])) (k ls hl)
  case ishr =>
    simp only [m_pure] at h
    obtain ⟨x, y, v, rest, rfl, hf, rfl⟩ := m_ii_ok h
    cases hf
    exact lv_ishr hx hb (hd1 (by simp [m_len])) (k ls hl)
  case iushr =>
    simp only [m_pure] at h
    obtain ⟨x, y, v, rest, rfl, hf, rfl⟩ := m_ii_ok h
    cases hf
    exact lv_iushr hx hb (hd1 (by simp [m_len])) rfl (k ls hl)
  case idiv =>
    simp only [m_pure] at h
    obtain ⟨x, y, v, rest, rfl, hf, rfl⟩ := m_ii_ok h
    by_cases h0 : y = 0
    · simp [h0] at hf
    · simp only [h0, if_false] at hf
      cases hf
      exact lv_idiv hx hb (hd1 (by simp [m_len])) h0 (k ls hl)
  case irem =>
    simp only [m_pure] at h
    obtain ⟨x, y, v, rest, rfl, hf, rfl⟩ := m_ii_ok h
    by_cases h0 : y = 0
    · simp [h0] at hf
    · simp only [h0, if_false] at hf
      cases hf
      exact lv_irem hx hb (hd1 (by simp [m_len])) h0 (k ls hl)
  case ladd =>
    simp only [m_pure] at h
    obtain ⟨x, y, v, rest, rfl, hf, rfl⟩ := m_ll_ok h
    cases hf
    exact lv_ladd hx hb (hd1 (by simp [m_len])) (k ls hl)
  case lsub =>
    simp only [m_pure] at h
    obtain ⟨x, y, v, rest, rfl, hf, rfl⟩ := m_ll_ok h
    cases hf
    exact lv_lsub hx hb (hd1 (by simp [m_len])) (k ls hl)
  case lmul =>
    simp only [m_pure] at h
    obtain ⟨x, y, v, rest, rfl, hf, rfl⟩ := m_ll_ok h
    cases hf
    exact lv_lmul hx hb (hd1 (by simp [m_len])) (k ls hl)
  case ldiv =>
    simp only [m_pure] at h
    obtain ⟨x, y, v, rest, rfl, hf, rfl⟩ := m_ll_ok h
    by_cases h0 : y = 0
    · simp [h0] at hf
    · simp only [h0, if_false] at hf
      cases hf
      exact lv_ldiv hx hb (hd1 (by simp [m_len])) h0 (k ls hl)
  case lcmp =>
    simp only [m_pure] at h
    obtain ⟨x, y, v, rest, rfl, hf, rfl⟩ := m_ll_ok h
    cases hf
    exact W.lcmp hx hb (hd1 (by simp [m_len])) (k ls hl)
  case ineg =>
    simp only [m_pure] at h
    obtain ⟨x, rest, rfl, rfl⟩ := m_i1_ok h
    exact lv_ineg hx hb (hd1 (by simp [m_len])) (k ls hl)
  case i2l =>
    simp only [m_pure] at h
    obtain ⟨x, rest, rfl, rfl⟩ := m_i1_ok h
    exact lv_i2l hx hb (hd1 (by simp [m_len])) rfl (k ls hl)
  case i2b =>
    simp only [m_pure] at h
    obtain ⟨x, rest, rfl, rfl⟩ := m_i1_ok h
    exact lv_i2b hx hb (hd1 (by simp [m_len])) rfl (k ls hl)
  case i2s =>
    simp only [m_pure] at h
    obtain ⟨x, rest, rfl, rfl⟩ := m_i1_ok h
    exact lv_i2s hx hb (hd1 (by simp [m_len])) rfl (k ls hl)
  case l2i =>
    simp only [m_pure] at h
    obtain ⟨x, rest, rfl, rfl⟩ := m_l1_ok h
    exact lv_l2i hx hb (hd1 (by simp [m_len])) rfl (k ls hl)
  case pop =>
    simp only [m_pure] at h
    split at h
    · split at h
      · cases h
      · rename_i h2
        cases h
        exact lv_pop hx hb (hd1 (by simp [m_len])) (m_notL h2) (k ls hl)
    · cases h
  case dup =>
    simp only [m_pure] at h
    split at h
    · split at h
      · cases h
      · rename_i h2
        cases h
        exact lv_dup hx hb (hd1 (by simp [m_len])) (m_notL h2) (k ls hl)
    · cases h
  case dup2 =>
    simp only [m_pure] at h
    split at h
    · split at h
      · cases h
      · rename_i h2
        cases h
        exact lv_dup2_11 hx hb (hd1 (by simp [m_len])) (m_notL (fun q => h2 (Or.inl q))) (m_notL (fun q => h2 (Or.inr q))) (k ls hl)
    · cases h
  case goto off =>
    obtain ⟨tgt, ht, rfl⟩ := m_to_ok h
    exact lv_goto hx hb (hd1 (by simp [m_len])) ht (k ls hl)
  case ifCond cd off =>
    have h9 := m_br1_ok h
    exact m_br1_W hx hb h (hd1 (by simp [m_len])) (k ls (by obtain ⟨x, rest, tgt, -, -, rfl⟩ := h9; exact hl))
  case if_icmp cd off =>
    have h9 := m_br2_ok h
    exact m_br2_W hx hb h (hd1 (by simp [m_len])) (k ls (by obtain ⟨x, y, rest, tgt, -, -, rfl⟩ := h9; exact hl))
  case ifnull off =>
    simp only [m_pure] at h
    split at h
    · obtain ⟨tgt, ht, rfl⟩ := m_to_ok h
      exact lv_ifnullN hx hb (hd1 (by simp [m_len])) ht (k ls hl)
    · cases h
      exact lv_ifnull hx hb (hd1 (by simp [m_len])) (k ls hl)
    · cases h
  case ifnonnull off =>
    simp only [m_pure] at h
    split at h
    · cases h
      exact lv_ifnonnullN hx hb (hd1 (by simp [m_len])) (k ls hl)
    · obtain ⟨tgt, ht, rfl⟩ := m_to_ok h
      exact lv_ifnonnull hx hb (hd1 (by simp [m_len])) ht (k ls hl)
    · cases h
  case tableswitch dflt lo hi offs =>
    simp only [m_pure] at h
    split at h
    · split at h
      · rename_i h2
        obtain ⟨tgt, ht, rfl⟩ := m_to_ok h
        exact lv_tableOut hx hb hd h2 ht (k ls hl)
      · rename_i h2
        split at h
        · rename_i h3
          obtain ⟨tgt, ht, rfl⟩ := m_to_ok h
          exact lv_tableIn hx hb hd (fun q => h2 (Or.inl q)) (fun q => h2 (Or.inr q)) h3 ht (k ls hl)
        · cases h
    · cases h
  all_goals (exact absurd h (by simp [m_pure]))
end MPURE
