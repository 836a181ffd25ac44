section MMAKE
variable {p : Program} {l : Launch} {e : Env} {R : Room} {s : State} {m : MethodId} {args : Array Value} {below : List Frame} {meth : Method} {c : Code} {H : Heap} {locs : List Loc} {cells slots : Nat} {Q : State → Prop} {cc : ByteArray} {pc : Nat} {ls : Array Slot}
variable {base : Nat} {roa : Nat → Nat} {ro : MRo} {tA : Nat → ClassId} {D : va_G} {tys : List (ClassId × FieldType)}
/-- the heap is no longer than what was made allows -/
theorem m_le {g : JFrame} (k : H.size ≤ s.heap.size + cells → W p l e R s m args below meth c H locs cells slots Q g) : W p l e R s m args below meth c H locs cells slots Q g := fun T hT X => k (by rw [← hT]; exact X.heapSize) T hT X
theorem m_ge {w : MWd} (hP : va_P D vwCl (m_ws base roa tA w) H) (hb : base ≤ H.size) : base + (mnx w - 8) ≤ H.size := by
  by_cases h : mnx w ≤ 8
  · omega
  · have h1 := hP _ _ (m_ws_at (base := base) (roa := roa) (tA := tA) (w := w) (a := mnx w - 1) (by omega) (by omega))
    have h2 := h1.lt
    rw [m_ad_hi (by omega)] at h2
    have h3 : base + (mnx w - 1 - 8) < H.size := h2
    omega
theorem m_ws_mk {w : MWd} {k : Nat × Nat} {f : Nat → MV} (h8 : 8 ≤ mnx w) : m_ws base roa tA (m_mk w k f) = m_ws base roa tA w ++ [(base + (mnx w - 8), m_cell (m_ad base roa) tA k f)] := by
  have e1 : mnx (m_mk w k f) - 8 = (mnx w - 8) + 1 := by show w.1 + 1 - 8 = w.1 - 8 + 1; have : 8 ≤ w.1 := h8; omega
  unfold m_ws
  rw [e1, List.range_succ, List.map_append]
  congr 1
  · apply List.map_congr_left
    intro x hx
    have hx2 : x < mnx w - 8 := List.mem_range.mp hx
    have n1 : ¬ x + 8 = w.1 := by have : x < w.1 - 8 := hx2; omega
    show (base + x, m_cell _ tA (if x + 8 = w.1 then k else msh w (x + 8)) (if x + 8 = w.1 then f else mmm w (x + 8))) = _
    rw [if_neg n1, if_neg n1]
  · have n1 : mnx w - 8 + 8 = w.1 := by have : 8 ≤ w.1 := h8; show w.1 - 8 + 8 = w.1; omega
    show [(base + (mnx w - 8), m_cell _ tA (if mnx w - 8 + 8 = w.1 then k else _) (if mnx w - 8 + 8 = w.1 then f else _))] = _
    rw [if_pos n1, if_pos n1]
theorem m_grow {w : MWd} {k : Nat × Nat} {f : Nat → MV} {H1 : Heap} (h8 : 8 ≤ mnx w) (hP : va_P D vwCl (m_ws base roa tA w) H) (o1 : ∀ q, q < H.size → H1[q]? = H[q]?) (hn : va_at D vwCl (base + (mnx w - 8), m_cell (m_ad base roa) tA k f) H1) : va_P D vwCl (m_ws base roa tA (m_mk w k f)) H1 := by
  rw [m_ws_mk h8]
  refine (hP.kept (fun q x hx => o1 x.1 ((hP q x hx).lt))).app (fun q x hx => ?_)
  have hz : q < 1 := (List.getElem?_eq_some_iff.mp hx).1
  rw [show q = 0 by omega] at hx
  cases hx
  exact hn
theorem m_S_grow {A : Nat → Prop} {H0 H1 : Heap} (hS : va_S A H0 H locs) (z : H1.size = H.size + 1) (o1 : ∀ q, q < H.size → H1[q]? = H[q]?) : va_S A H0 H1 locs :=
  ⟨Nat.le_trans hS.1 (by omega), fun x h1 h2 => (o1 x (Nat.lt_of_lt_of_le h1 hS.1)).trans (hS.2.1 x h1 h2), hS.2.2⟩
theorem m_def_val (ad : Nat → Nat) {d : String} {ty : FieldType} (h : parseFieldDescriptor d = some ty) (hf : q_tyok ty = true) : defaultValue ty = m_val ad (m_def ty) := by
  cases ty <;> first | rfl | (exact absurd hf (by simp [q_tyok]))
set_option maxHeartbeats 4000000 in
theorem m_new_W (hx : p.tables.exec = Jvm.exec) (hb : c.code = cc) {mid : Nat} (hown : s.vm.findClass (q_y mid).cls = some m.cls) (hts : ∀ w ∈ q_W, w.before args s = true)
    (hK : va_K D vwCl tys s) (hA : m_tys tA tys) (hAO : ∀ (ci : Nat) (C : String) (T : u_T) (N : Nat), q_ra ci = true → vwCl[ci]? = some (C, T, N) → va_AO C s)
    {i : Instr} {len : Nat} {st st' : List MV} {w w' : MWd} (h : m_new mid i st w = some (st', w')) (hd : decode cc pc = .ok (i, len)) (hn : m_len i = len ∨ m_len i = 0)
    (hP : va_P D vwCl (m_ws base roa tA w) H) (hS : va_S (fun q => base ≤ q) s.heap H locs) (h8 : 8 ≤ mnx w) (hbs : base ≤ s.heap.size) (hfr : mcx w + 8 = mnx w → s.heap.size + cells ≤ base + mcx w)
    (hcells : cells + (mcx w' - mcx w) ≤ R.cells) (hslots : slots + (msl w' - msl w) ≤ R.slots)
    (k : ∀ H1 : Heap, va_P D vwCl (m_ws base roa tA w') H1 → va_S (fun q => base ≤ q) s.heap H1 locs → W p l e R s m args below meth c H1 locs (cells + (mcx w' - mcx w)) (slots + (msl w' - msl w)) Q (F0 m (pc + len) ls (st'.map (m_val (m_ad base roa))))) :
    W p l e R s m args below meth c H locs cells slots Q (F0 m pc ls (st.map (m_val (m_ad base roa)))) := by
  have hd1 : m_len i ≠ 0 → decode cc pc = .ok (i, m_len i) ∧ len = m_len i := fun h0 => by rw [hn.resolve_right h0]; exact ⟨hd, rfl⟩
  refine m_le fun hle => ?_
  unfold m_new at h
  split at h
  rotate_left
  · cases h
  rename_i hfresh
  have hsz : H.size = base + (mnx w - 8) := by
    have h1 := m_ge hP (Nat.le_trans hbs hS.1)
    have h2 := hfr hfresh
    omega
  have had : m_ad base roa (mnx w) = H.size := by rw [m_ad_hi h8, hsz]
  have ec : ∀ (kk : Nat × Nat) (f : Nat → MV), mcx (m_mk w kk f) - mcx w = 1 := fun kk f => by show w.2.1 + 1 - w.2.1 = 1; omega
  have es : ∀ (kk : Nat × Nat) (f : Nat → MV), msl (m_mk w kk f) - msl w = kk.2 := fun kk f => by show w.2.2.1 + kk.2 - w.2.2.1 = kk.2; omega
  cases i
  case new idx =>
    obtain ⟨hd2, rfl⟩ := hd1 (by simp [m_len])
    dsimp only at h
    split at h
    · rename_i ci hq
      cases h
      obtain ⟨C, T, N, hcl, hl1, hl2, hl3⟩ := q_c_ok hq
      obtain ⟨h100, hN, hws, hty, hnm, hdf⟩ := q_cl_ok hcl
      have hKn := hK.1 ci _ hcl
      rw [ec] at hcells; rw [es] at hslots; rw [ec, es] at k
      subst hN
      refine W.newcK hx hb hown (hts _ hl1) (hts _ hl2) (hts _ hl3) rfl hd2 (by omega) (by omega) hKn.2.1 rfl fun H1 kC hkC e1 z1 o1 => ?_
      have hk := k H1 (m_grow h8 hP o1 (by
        rw [m_fld_cell h100]
        refine ⟨_, hcl, (u_born (q_ty ci) hts hws hKn hkC (by rw [← hsz]; exact e1) hty).to (fun j hj => ?_)⟩
        show _ = vp_V _ j
        unfold vp_V
        rw [List.getD_eq_getElem?_getD, m_fld_at hj]
        exact m_def_val (m_ad base roa) (hty j hj) (hdf j hj))) (m_S_grow hS z1 o1)
      rw [List.map_cons] at hk
      show W _ _ _ _ _ _ _ _ _ _ _ _ _ _ _ (F0 m (pc + 3) ls (.ref H.size :: _))
      rw [← had]
      exact hk
    · cases h
  case newarray t =>
    obtain ⟨hd2, rfl⟩ := hd1 (by simp [m_len])
    dsimp only at h
    split at h
    · rename_i n r
      split at h
      · rename_i hc
        obtain ⟨hc1, hc2⟩ := hc
        split at h
        · cases h
          rw [ec] at hcells; rw [es] at hslots; rw [ec, es] at k
          refine va_newaK hx hb (atype := .int) (hts _ q_ai_ok.1) rfl hd2 rfl hc1 rfl (by show n.toNatClampNeg * 4 ≤ _; omega) (by omega) hslots rfl fun H1 cA e1 z1 o1 hAr hNm => ?_
          have hcA : cA = tA 100 := Option.some.inj (hNm.symm.trans (hK.2 0 _ hA.1).2)
          subst hcA
          have hk := k H1 (m_grow h8 hP o1 (by
            rw [m_cell_i rfl]
            show H1[base + (mnx w - 8)]? = some (vp_cell _ _)
            rw [← hsz, vp_cell_i]
            exact e1)) (m_S_grow hS z1 o1)
          rw [List.map_cons] at hk
          show W _ _ _ _ _ _ _ _ _ _ _ _ _ _ _ (F0 m (pc + 2) ls (.ref H.size :: _))
          rw [← had]
          exact hk
        · cases h
          rw [ec] at hcells; rw [es] at hslots; rw [ec, es] at k
          refine va_newaK hx hb (atype := .long) (hts _ q_ai_ok.2) rfl hd2 rfl hc1 rfl (by show n.toNatClampNeg * 8 ≤ _; omega) (by omega) hslots rfl fun H1 cA e1 z1 o1 hAr hNm => ?_
          have hcA : cA = tA 101 := Option.some.inj (hNm.symm.trans (hK.2 1 _ hA.2.1).2)
          subst hcA
          have hk := k H1 (m_grow h8 hP o1 (by
            rw [m_cell_l rfl]
            show H1[base + (mnx w - 8)]? = some (vp_cell _ _)
            rw [← hsz, vp_cell_l]
            exact e1)) (m_S_grow hS z1 o1)
          rw [List.map_cons] at hk
          show W _ _ _ _ _ _ _ _ _ _ _ _ _ _ _ (F0 m (pc + 2) ls (.ref H.size :: _))
          rw [← had]
          exact hk
        · cases h
      · cases h
    · cases h
  case anewarray idx =>
    obtain ⟨hd2, rfl⟩ := hd1 (by simp [m_len])
    dsimp only at h
    split at h
    · rename_i n r
      split at h
      · rename_i hc
        obtain ⟨hc1, hc2⟩ := hc
        split at h
        · rename_i ci hq
          cases h
          obtain ⟨hra, C, T, N, hcl, hl1⟩ := q_ca_ok hq
          rw [ec] at hcells; rw [es] at hslots; rw [ec, es] at k
          refine W.anew hx hb hown (hts _ hl1) (va_AO.use (hAO ci C T N hra hcl)) rfl hd2 rfl hc1 (by omega) (by omega) hslots fun cA kA comp f1 f2 f3 f4 => ?_
          obtain ⟨t0, C', T', N', hcl', ht0⟩ := hA.2.2 _ hra
          rw [hcl] at hcl'
          cases hcl'
          obtain ⟨-, kA', comp', g1, g2, g3, g4⟩ := hK.2 t0 _ ht0
          have hcA : cA = tA (102 + ci) := Option.some.inj (f1.symm.trans g4)
          generalize hH1 : H.push ({ cls := cA, slots := Array.replicate n.toNatClampNeg .null, vm := .none } : Cell) = H1
          have z1 : H1.size = H.size + 1 := by rw [← hH1, Array.size_push]
          have e1 : H1[H.size]? = some (arrV cA n.toNatClampNeg (fun _ => .null)) := by rw [← hH1, Array.getElem?_push_size, ← arrV_new]
          have o1 : ∀ q : Nat, q < H.size → H1[q]? = H[q]? := fun q hq => by rw [← hH1, Array.getElem?_push, if_neg (Nat.ne_of_lt hq)]
          subst hcA
          have hk := k H1 (m_grow h8 hP o1 (by
            rw [m_cell_q (by show 102 ≤ 102 + ci; omega)]
            show H1[base + (mnx w - 8)]? = some (vp_cell _ _)
            rw [← hsz, vp_cell_q]
            show _ = some (arrV (tA (102 + (102 + ci - 102))) _ _)
            rw [show 102 + (102 + ci - 102) = 102 + ci by omega]
            exact e1)) (m_S_grow hS z1 o1)
          rw [List.map_cons] at hk
          show W _ _ _ _ _ _ _ _ _ _ _ _ _ _ _ (F0 m (pc + 3) ls (.ref H.size :: _))
          rw [← had]
          exact hk
        · cases h
      · cases h
    · cases h
  all_goals (exact absurd h (by simp))
end MMAKE
