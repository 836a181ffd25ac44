section MMAIN
variable {l : Launch} {base : Nat} {roa : Nat → Nat} {ro : MRo} {tA : Nat → ClassId} {D : va_G} {tys : List (ClassId × FieldType)} {XF : State → Heap → Prop}
variable {p : Program} {e : Env} {R : Room} {s : State} {m : MethodId} {args : Array Value} {below : List Frame} {meth : Method} {c : Code} {H : Heap} {locs : List Loc} {cells slots : Nat} {Q : State → Prop} {pc : Nat} {ls : Array Slot} {mc ms : Nat}
theorem m_pre (hX : m_X3 base XF) {w : MWd} {As : List MV} (hG : m_G base roa ro tA D tys XF s s.heap) (hP : va_P D vwCl (m_ws base roa tA w) H) (hS : va_S (fun q => base ≤ q) s.heap H locs) (hle : mcx w + 8 = mnx w → H.size ≤ base + mcx w) :
    FrameBlind (m_Pc base roa ro tA D tys XF w As) ∧ ∀ U : State, U.heap = H → s.WarmedH U.vm → m_Pc base roa ro tA D tys XF w As (As.map (m_val (m_ad base roa))).toArray U := by
  refine ⟨m_Pc_blind hX, fun U hU hW => ⟨rfl, ?_, ?_, ?_⟩⟩
  · rw [hU]; exact hP
  · rw [hU]
    have hb := hG.2.2.2.2.2.2
    exact m_G_warm base roa ro tA D tys XF hX hW (m_G_kept base roa ro tA D tys XF hX (fun a ha => hS.2.1 a (Nat.lt_of_lt_of_le ha hb) (Nat.not_le.mpr ha)) hS.1 hG)
  · rw [hU]; exact hle
theorem m_obj_W (hx : p.tables.exec = Jvm.exec) {mid : Nat} (hb : c.code = q_b mid) (hml : c.maxLocals = q_nl mid) (hsz : ls.size = q_nl mid) (hown : s.vm.findClass (q_y mid).cls = some m.cls) (hts : ∀ w ∈ q_W, w.before args s = true) {ad : Nat → Nat}
    {i : Instr} {len : Nat} {st st' : List MV} (h : m_obj mid i st = some st') (hd : decode (q_b mid) pc = .ok (i, len)) (hn : m_len i = len ∨ m_len i = 0) (hfr : 1 ≤ R.frames) (hlo : 64 ≤ R.locals) (hc : cells ≤ R.cells) (hs : slots ≤ R.slots)
    (k : W p l e R s m args below meth c H locs cells slots Q (F0 m (pc + 3) ls (st'.map (m_val ad)))) : W p l e R s m args below meth c H locs cells slots Q (F0 m pc ls (st.map (m_val ad))) := by
  have hd1 : m_len i ≠ 0 → decode (q_b mid) pc = .ok (i, m_len i) := fun h0 => by rw [hn.resolve_right h0]; exact hd
  unfold m_obj at h
  split at h
  · split at h
    · rename_i idx cm a r hq
      split at h
      · rename_i hcat
        cases h
        obtain ⟨g1, g2, g3⟩ := q_m5 hq
        refine W.objInit hx hb hown (hts _ g1) (hts _ g2) (hts _ g3) rfl (hsz.trans hml.symm) rfl (hd1 (by simp [m_len])) hfr ?_ k
        show 2 * 0 + ((st'.map (m_val ad)).map fun v => v.category).sum + 12 ≤ R.locals
        rw [m_cats_val]
        omega
      · cases h
    · cases h
  · split at h
    · rename_i idx cm y x r hq
      split at h
      · rename_i hcat
        cases h
        obtain ⟨g1, g2, g3, g4⟩ := q_m10 hq
        exact va_mmax hx hb (hml.trans hsz.symm) hown (hts _ g1) (hts _ g2) (hts _ g3) (hts _ g4) hfr (by rw [m_cats_val]; omega) hc hs (hd1 (by simp [m_len])) k
      · cases h
    · rename_i idx cm y x r hq
      split at h
      · rename_i hcat
        cases h
        obtain ⟨g1, g2, g3, g4⟩ := q_m11 hq
        exact va_mmin hx hb (hml.trans hsz.symm) hown (hts _ g1) (hts _ g2) (hts _ g3) (hts _ g4) hfr (by rw [m_cats_val]; omega) hc hs (hd1 (by simp [m_len])) k
      · cases h
    · rename_i idx cm x r hq
      split at h
      · rename_i hcat
        cases h
        obtain ⟨g1, g2, g3, g4⟩ := q_m12 hq
        exact va_mabs hx hb (hml.trans hsz.symm) hown (hts _ g1) (hts _ g2) (hts _ g3) (hts _ g4) hfr (by rw [m_cats_val]; omega) hc hs (hd1 (by simp [m_len])) k
      · cases h
    · cases h
  · cases h
set_option maxHeartbeats 4000000 in
/-- a call that returns -/
theorem m_callW (hX : m_X3 base XF) (hC : m_Catch l XF) {mid d : Nat} {i : Instr} {len : Nat} {st : List MV} {w w1 : MWd} {z : Nat × List MV × List MV} {v : Option MV}
    (hx : p.tables.exec = Jvm.exec) (hb : c.code = q_b mid) (hml : c.maxLocals = q_nl mid) (hown : s.vm.findClass (q_y mid).cls = some m.cls) (hts : ∀ w ∈ q_W, w.before args s = true)
    (hG : m_G base roa ro tA D tys XF s s.heap) (hP : va_P D vwCl (m_ws base roa tA w) H) (hS : va_S (fun q => base ≤ q) s.heap H locs) (h8 : 8 ≤ mnx w) (hnc : mnx w ≤ mcx w + 8) (hfr : mcx w + 8 = mnx w → s.heap.size + cells ≤ base + mcx w)
    (hdR : d + 1 ≤ R.frames) (hdL : 64 * (d + 1) ≤ R.locals) (hcR : cells + (mcx w1 - mcx w) ≤ R.cells) (hsR : slots + (msl w1 - msl w) ≤ R.slots) (hsz : ls.size = q_nl mid)
    (h : m_call mid i st w = some z) (hd : decode (q_b mid) pc = .ok (i, len)) (hn : m_len i = len ∨ m_len i = 0)
    (hok : m_Ok l base roa ro tA D tys XF d z.1 0 (m_ent 0 z.2.1) [] w (.inl v) w1)
    (kk : ∀ (H1 : Heap) (locs1 : List Loc), va_P D vwCl (m_ws base roa tA w1) H1 → va_S (fun q => base ≤ q) s.heap H1 locs1 → W p l e R s m args below meth c H1 locs1 (cells + (mcx w1 - mcx w)) (slots + (msl w1 - msl w)) Q (F0 m (pc + 3) ls ((v.toList ++ z.2.2).map (m_val (m_ad base roa))))) :
    W p l e R s m args below meth c H locs cells slots Q (F0 m pc ls (st.map (m_val (m_ad base roa)))) := by
  have hd1 : m_len i ≠ 0 → decode (q_b mid) pc = .ok (i, m_len i) := fun h0 => by rw [hn.resolve_right h0]; exact hd
  refine m_le fun hle0 => ?_
  have hle : mcx w + 8 = mnx w → H.size ≤ base + mcx w := fun hf => Nat.le_trans hle0 (hfr hf)
  obtain ⟨idx, kd, Bs, hq, hBl, hrest, hcats, hcase⟩ := m_call_ok h
  have hpre := m_pre hX (As := z.2.1) hG hP hS hle
  have hvt : ∀ v : Option MV, (v.map (m_val (m_ad base roa))).toList ++ z.2.2.map (m_val (m_ad base roa)) = (v.toList ++ z.2.2).map (m_val (m_ad base roa)) := fun v => by cases v <;> simp
  have hW8 : ((z.2.2.map (m_val (m_ad base roa))).map (fun v => v.category)).sum ≤ 8 := by rw [m_cats_val]; exact hrest
  have hS4 : CallFix p m c (q_b mid) (q_nl mid) s args q_W (q_y mid).cls := ⟨hx, hb, hml, hown, hts⟩
  have fin : ∀ {st0 : List Value}, va_Run p l e R s m args below meth c H locs cells slots (mcx w1 - mcx w) (msl w1 - msl w) (F0 m pc ls st0) (z.2.2.map (m_val (m_ad base roa))) (m_Qc base roa tA D v w1 (z.2.1.map (m_val (m_ad base roa))).toArray) (fun q => base ≤ q) → W p l e R s m args below meth c H locs cells slots Q (F0 m pc ls st0) :=
    fun hr => m_callr hr hS (fun H1 locs1 hP1 hS1 => by rw [hvt]; exact kk H1 locs1 hP1 hS1)
  rcases hcase with ⟨rfl, hkd, hz, rfl⟩ | ⟨rfl, rfl, a, hz, rfl, ha8, han, hak, hrc⟩ | ⟨rfl, hkd, a, hz, rfl⟩
  · have hd3 := hd1 (by simp [m_len])
    rw [List.map_append, List.map_reverse]
    rw [hz] at fin hpre hok hcats
    have hg5 := q_m_ok hq (by omega) (by omega)
    rcases hkd with rfl | rfl | rfl
    · have hcode := q_m_code hq (by omega) (by omega) (by omega)
      have hM := m_met hg5 hcats h8 hnc (q_nh hq (by omega) (by omega) (by omega)) hok
      obtain ⟨hl1, hl2⟩ := q_m1 hq
      exact fin (va_runS hS4 hM ⟨callB_of _ hts (q_goodIn (fun w hw => (List.mem_cons.mp hw).elim (fun e => e ▸ hcode) id)) rfl rfl rfl (hts _ hg5.1) (hts _ hl1) hg5.2.1 ⟨hdR, by have := hg5.2.2.2; show 8 + (q_nl z.1 + 11) + 64 * d ≤ _; omega⟩, hts _ hl2⟩ hpre rfl (by rw [List.length_map]; exact hBl) hsz rfl (lv_room (m := m) (pc := pc) (ls := ls) (rest := []) hW8) hd3 ⟨hcR, hsR⟩)
    · have hcode := q_m_code hq (by omega) (by omega) (by omega)
      have hM := m_met hg5 hcats h8 hnc (q_nh hq (by omega) (by omega) (by omega)) hok
      obtain ⟨⟨host, hl1⟩, hl2⟩ := q_m3 hq
      have hN := hG.2.2.2.1 _ hl1
      dsimp only at hN
      exact fin (va_runSN (host := host) hS4 hM ⟨va_cnB _ hts (q_goodIn (fun w hw => (List.mem_cons.mp hw).elim (fun e => e ▸ hcode) id)) rfl rfl rfl hN (hts _ hg5.1) hg5.2.1 ⟨hdR, by have := hg5.2.2.2; show 8 + (q_nl z.1 + 11) + 64 * d ≤ _; omega⟩, hts _ hl2, trivial⟩ hpre rfl (by rw [List.length_map]; exact hBl) hsz rfl (lv_room (m := m) (pc := pc) (ls := ls) (rest := []) hW8) hd3 ⟨hcR, hsR⟩)
    · obtain ⟨hl1, hl2, hcode⟩ := q_m7 hq
      have hM := m_met7 hC hg5 hcats h8 hnc hok
      exact fin (vx_runSW (hh := q_hh z.1) hS4 hM (vx_cwSW _ hts (q_goodIn (fun w hw => by
        unfold va_wsS at hw
        rcases List.mem_append.mp hw with hw | hw
        · simp only [List.mem_cons, List.not_mem_nil, or_false] at hw
          rcases hw with rfl | rfl | rfl
          · exact hl1
          · exact hl2
          · exact hg5.1
        · exact (List.mem_cons.mp hw).elim (fun e => e ▸ hcode) id)) rfl rfl rfl hg5.2.1 ⟨hdR, by have := hg5.2.2.2; show 8 + (q_nl z.1 + 11) + 64 * d ≤ _; omega⟩) hpre rfl (by rw [List.length_map]; exact hBl) hsz rfl (lv_room (m := m) (pc := pc) (ls := ls) (rest := []) hW8) hd3 ⟨hcR, hsR⟩)
  · have hd3 := hd1 (by simp [m_len])
    rw [List.map_append, List.map_reverse, List.map_cons]
    rw [hz] at fin hpre hok hcats
    have hg5 := q_m_ok hq (by omega) (by omega)
    have hcode := q_m_code hq (by omega) (by omega) (by omega)
    have hM := m_met hg5 hcats h8 hnc (q_nh hq (by omega) (by omega) (by omega)) hok
    obtain ⟨hl1, hl2, hl3, rc, T, N, hrc2, hcl⟩ := q_m0 hq
    cases hrc.symm.trans hrc2
    have he := m_ws_at (base := base) (roa := roa) (tA := tA) ha8 han
    rw [show msh w a = ((msh w a).1, (msh w a).2) from rfl, m_fld_cell hak] at he
    exact fin (va_runV hS4 hM ⟨callB_of _ hts (q_goodIn (fun w hw => (List.mem_cons.mp hw).elim (fun e => e ▸ hcode) id)) rfl rfl rfl (hts _ hg5.1) (hts _ hl1) hg5.2.1 ⟨hdR, by have := hg5.2.2.2; show 8 + (q_nl z.1 + 11) + 64 * d ≤ _; omega⟩, hts _ hl2, hts _ hl3⟩ ⟨hpre.1, va_recv hG.1 hP hcl he, hpre.2⟩ rfl (by rw [List.length_map]; exact hBl) hsz rfl (lv_room (m := m) (pc := pc) (ls := ls) (rest := []) hW8) hd3 ⟨hcR, hsR⟩)
  · have hd3 := hd1 (by simp [m_len])
    rw [List.map_append, List.map_reverse, List.map_cons]
    rw [hz] at fin hpre hok hcats
    have hg5 := q_m_ok hq (by omega) (by omega)
    have hcode := q_m_code hq (by omega) (by omega) (by omega)
    have hM := m_met hg5 hcats h8 hnc (q_nh hq (by omega) (by omega) (by omega)) hok
    rcases hkd with rfl | rfl
    · obtain ⟨⟨host, hl1⟩, hl2, hnm, hrt⟩ := q_m2 hq
      have hN := hG.2.2.2.1 _ hl1
      dsimp only at hN
      rw [hrt] at hcode
      have hw2 : m_wd z.1 = Cond.code (q_y z.1) (q_b z.1) (q_nl z.1) none :: q_W := by unfold m_wd; rw [hrt]
      exact fin (va_runIN (host := host) hS4 hM ⟨va_cnB _ hts (q_goodIn (fun w hw => by rw [hw2] at hw; exact (List.mem_cons.mp hw).elim (fun e => e ▸ hcode) id)) hw2 rfl rfl hN (hts _ hg5.1) hg5.2.1 ⟨hdR, by have := hg5.2.2.2; show 8 + (q_nl z.1 + 11) + 64 * d ≤ _; omega⟩, hnm, hts _ hl2⟩ hpre rfl (by rw [List.length_map]; exact hBl) hsz rfl (lv_room (m := m) (pc := pc) (ls := ls) (rest := []) hW8) hd3 ⟨hcR, hsR⟩)
    · obtain ⟨hl1, hl2, hnm, hrt⟩ := q_m6 hq
      rw [hrt] at hcode
      have hw2 : m_wd z.1 = Cond.code (q_y z.1) (q_b z.1) (q_nl z.1) none :: q_W := by unfold m_wd; rw [hrt]
      exact fin (va_runI hS4 hM ⟨callB_of _ hts (q_goodIn (fun w hw => by rw [hw2] at hw; exact (List.mem_cons.mp hw).elim (fun e => e ▸ hcode) id)) hw2 rfl rfl (hts _ hg5.1) (hts _ hl1) hg5.2.1 ⟨hdR, by have := hg5.2.2.2; show 8 + (q_nl z.1 + 11) + 64 * d ≤ _; omega⟩, hnm, hts _ hl2⟩ hpre rfl (by rw [List.length_map]; exact hBl) hsz rfl (lv_room (m := m) (pc := pc) (ls := ls) (rest := []) hW8) hd3 ⟨hcR, hsR⟩)
end MMAIN
