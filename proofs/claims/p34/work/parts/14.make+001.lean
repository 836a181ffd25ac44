section MMAKE
variable {p : Program} {l : Launch} {e : Env} {R : Room} {s : State} {m : MethodId} {args : Array Value} {below : List Frame} {meth : Method} {c : Code} {H : Heap} {locs : List Loc} {cells slots : Nat} {Q : State → Prop} {cc : ByteArray} {pc : Nat} {ls : Array Slot}
variable {base : Nat} {roa : Nat → Nat} {ro : MRo} {tA : Nat → ClassId} {D : va_G} {tys : List (ClassId × FieldType)}
theorem m_ws_cp {w : MWd} {a0 a sp dp n : Nat} {cl : va_E} (h8 : 8 ≤ a) (hn : a < mnx w) (hc : cl = m_cell (m_ad base roa) tA (msh w a) (mmm (m_cp w a0 a sp dp n) a)) : (m_ws base roa tA w).set (a - 8) (m_ad base roa a, cl) = m_ws base roa tA (m_cp w a0 a sp dp n) := by
  subst hc
  apply List.ext_getElem?
  intro k
  by_cases hk : k = a - 8
  · subst hk
    rw [List.getElem?_set_self (by unfold m_ws; simp; omega)]
    exact (m_ws_at (w := m_cp w a0 a sp dp n) h8 hn).symm
  · rw [List.getElem?_set_ne (Ne.symm hk)]
    by_cases hk2 : k < mnx w - 8
    · have e1 : mmm (m_cp w a0 a sp dp n) (k + 8) = mmm w (k + 8) := if_neg (by omega)
      unfold m_ws
      rw [List.getElem?_map, List.getElem?_map, List.getElem?_range hk2, List.getElem?_range (show k < mnx (m_cp w a0 a sp dp n) - 8 from hk2)]
      simp only [Option.map_some, e1]
      rfl
    · rw [List.getElem?_eq_none (by unfold m_ws; simp; omega), List.getElem?_eq_none (by unfold m_ws; have e9 : mnx (m_cp w a0 a sp dp n) = mnx w := rfl; simp; omega)]
theorem m_cpy_W (hx : p.tables.exec = Jvm.exec) (hb : c.code = cc) (hml : c.maxLocals = ls.size) {mid : Nat} (hown : s.vm.findClass (q_y mid).cls = some m.cls) (hts : ∀ w ∈ q_W, w.before args s = true)
    (hK : va_K D vwCl tys s) (hA : m_tys tA tys) {i : Instr} {len : Nat} {st : List MV} {w : MWd} {r : List MV × MWd} (h : m_cpy mid i st w = some r) (hd : decode cc pc = .ok (i, len)) (hn : m_len i = len ∨ m_len i = 0)
    (hP : va_P D vwCl (m_ws base roa tA w) H) (hS : va_S (fun q => base ≤ q) s.heap H locs) (hfr : 1 ≤ R.frames) (hlo : 64 ≤ R.locals)
    (k : ∀ (H1 : Heap) (locs1 : List Loc), va_P D vwCl (m_ws base roa tA r.2) H1 → va_S (fun q => base ≤ q) s.heap H1 locs1 → W p l e R s m args below meth c H1 locs1 cells slots Q (F0 m (pc + 3) ls (r.1.map (m_val (m_ad base roa))))) :
    W p l e R s m args below meth c H locs cells slots Q (F0 m pc ls (st.map (m_val (m_ad base roa)))) := by
  have hd1 : m_len i ≠ 0 → decode cc pc = .ok (i, m_len i) := fun h0 => by rw [hn.resolve_right h0]; exact hd
  unfold m_cpy at h
  split at h
  · split at h
    · rename_i idx cm n dp a sp a0 rr hq
      split at h
      · rename_i hc
        obtain ⟨h8, hlt, hki, h80, hlt0, hki0, hs0, hd0, hn0, hb1, hb2, hcat⟩ := hc
        cases h
        obtain ⟨g1, g2, g3, g4⟩ := q_m9 hq
        have he := m_ws_at (base := base) (roa := roa) (tA := tA) h8 hlt
        rw [m_cell_i hki] at he
        have he0 := m_ws_at (base := base) (roa := roa) (tA := tA) h80 hlt0
        rw [m_cell_i hki0] at he0
        have hlr : ((rr.map (m_val (m_ad base roa))).map fun v => v.category).sum + (nativeFrameWords "java/lang/System" "arraycopy" 5 + 11) ≤ R.locals := by
          rw [m_cats_val, show nativeFrameWords "java/lang/System" "arraycopy" 5 = 7 by decide +kernel]; omega
        refine va_copyi hx hb hml hown (hts _ g1) (hts _ g2) (hts _ g3) (hts _ g4) hK hP m_ws_D hS (a0 - 8) (a - 8) 0 0 he0 he hA.1 hA.1 rfl hs0 hd0 hn0 hb1 hb2 (fun _ _ => rfl) hfr hlr (hd1 (by simp [m_len])) (fun H1 locs1 hP1 hD1 hS1 => ?_)
        rw [m_ws_cp (a0 := a0) (sp := sp.toNatClampNeg) (dp := dp.toNatClampNeg) (n := n.toNatClampNeg) h8 hlt (by
          rw [m_cell_i hki]
          congr 4
          funext q
          show va_cpy _ _ _ _ _ q = m_int (mmm (m_cp _ _ _ _ _ _) a q)
          unfold va_cpy mmm m_cp
          dsimp only
          rw [if_pos rfl]
          by_cases hq2 : dp.toNatClampNeg ≤ q ∧ q < dp.toNatClampNeg + n.toNatClampNeg
          · rw [if_pos hq2, if_pos hq2]; rfl
          · rw [if_neg hq2, if_neg hq2])] at hP1
        exact k H1 locs1 hP1 hS1
      · cases h
    · cases h
  · cases h
theorem m_ret_W {Qc : Array Value → State → Outcome → State → Prop} {free : Addr → Prop} {ad : Nat → Nat} (hx : p.tables.exec = Jvm.exec) (hb : c.code = cc) {mid : Nat} (hr : meth.sig.returnType = q_rt mid) (hlocks : meth.locks = false) {i : Instr} {len : Nat} {st : List MV} {v : Option MV} (h : m_ret mid i st = some v) (hd : decode cc pc = .ok (i, len)) (hn : m_len i = len ∨ m_len i = 0)
    (hq : ∀ t : State, t.heap = H → s.WarmedH t.vm → Qc args s (.returned (v.map (m_val ad))) t) (hf : ∀ q ∈ locs, free q.base) : W p l e R s m args below meth c H locs cells slots (MQ below Qc args s cells slots free) (F0 m pc ls (st.map (m_val ad))) := by
  have hd1 : m_len i ≠ 0 → decode cc pc = .ok (i, m_len i) := fun h0 => by rw [hn.resolve_right h0]; exact hd
  unfold m_ret at h
  split at h
  · split at h
    · rename_i hrt
      cases h
      exact W.vret hx hb (hr.trans hrt) hq hf (hd1 (by simp [m_len]))
    · cases h
  · split at h
    · rename_i x hrt
      cases h
      exact W.iret hx hb (hr.trans hrt) hq hf (hd1 (by simp [m_len]))
    · rename_i x hrt
      split at h
      · rename_i h01
        cases h
        exact W.zret hx hb (hr.trans hrt) (by rcases h01 with rfl | rfl <;> rfl) hq hf (hd1 (by simp [m_len]))
      · cases h
    · cases h
  · split at h
    · rename_i x hrt
      cases h
      exact W.lret hx hb (hr.trans hrt) hq hf (hd1 (by simp [m_len]))
    · cases h
  · split at h
    · rename_i x n hrt
      cases h
      refine W.aret hx hb (hr.trans hrt) (Or.inl ⟨_, rfl⟩) ?_ hq hf (hd1 (by simp [m_len]))
      rcases x with _ | x
      · exact Or.inl rfl
      · exact Or.inr ⟨_, rfl⟩
    · rename_i x n hrt
      cases h
      refine W.aret hx hb (hr.trans hrt) (Or.inr ⟨_, rfl⟩) ?_ hq hf (hd1 (by simp [m_len]))
      rcases x with _ | x
      · exact Or.inl rfl
      · exact Or.inr ⟨_, rfl⟩
    · cases h
  · cases h
end MMAKE
