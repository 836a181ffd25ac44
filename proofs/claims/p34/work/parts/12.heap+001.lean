section MHEAP
variable {p : Program} {l : Launch} {e : Env} {R : Room} {s : State} {m : MethodId} {args : Array Value} {below : List Frame} {meth : Method} {c : Code} {H : Heap} {locs : List Loc} {cells slots : Nat} {Q : State → Prop} {cc : ByteArray} {pc : Nat} {ls : Array Slot}
variable {base : Nat} {roa : Nat → Nat} {ro : MRo} {tA : Nat → ClassId} {D : va_G} {tys : List (ClassId × FieldType)}
/-- the array classes of the small machine's kinds -/
def m_tys (tA : Nat → ClassId) (tys : List (ClassId × FieldType)) : Prop :=
  tys[0]? = some (tA 100, .int) ∧ tys[1]? = some (tA 101, .long) ∧ ∀ ci : Nat, q_ra ci = true → ∃ (t0 : Nat) (C : String) (T : u_T) (N : Nat), vwCl[ci]? = some (C, T, N) ∧ tys[t0]? = some (tA (102 + ci), .object C)
theorem m_fld_cell {ad : Nat → Nat} {ci n : Nat} {f : Nat → MV} (h : ci < 100) : m_cell ad tA (ci, n) f = .inr (ci, (List.range n).map (fun j => m_val ad (f j))) := if_pos h
theorem m_fld_at {ad : Nat → Nat} {n k : Nat} {f : Nat → MV} (h : k < n) : ((List.range n).map (fun j => m_val ad (f j)))[k]? = some (m_val ad (f k)) := by
  rw [List.getElem?_map, List.getElem?_range h]; rfl
theorem m_fld_set {ad : Nat → Nat} {n k : Nat} {f : Nat → MV} {v : MV} : ((List.range n).map (fun j => m_val ad (f j))).set k (m_val ad v) = (List.range n).map (fun j => m_val ad (if j = k then v else f j)) := by
  apply List.ext_getElem?
  intro q
  by_cases hq : q < n
  · by_cases hk : q = k
    · subst hk
      rw [List.getElem?_set_self (by simp; exact hq), m_fld_at hq, if_pos rfl]
    · rw [List.getElem?_set_ne (Ne.symm hk), m_fld_at hq, m_fld_at hq, if_neg hk]
  · rw [List.getElem?_eq_none (by simp; omega), List.getElem?_eq_none (by simp; omega)]
theorem m_cell_i {ad : Nat → Nat} {k : Nat × Nat} {f : Nat → MV} (h : k.1 = 100) : m_cell ad tA k f = .inl (tA 100, k.2, .inl (fun j => m_int (f j))) := by
  unfold m_cell
  rw [if_neg (by omega), if_pos h, h]
theorem m_cell_l {ad : Nat → Nat} {k : Nat × Nat} {f : Nat → MV} (h : k.1 = 101) : m_cell ad tA k f = .inl (tA 101, k.2, .inr (.inl (fun j => m_lng (f j)))) := by
  unfold m_cell
  rw [if_neg (by omega), if_neg (by omega), if_pos h, h]
theorem m_cell_q {ad : Nat → Nat} {k : Nat × Nat} {f : Nat → MV} (h : 102 ≤ k.1) : m_cell ad tA k f = .inl (tA (102 + (k.1 - 102)), k.2, .inr (.inr (.inr (.inr (fun j => (m_ref (f j)).map ad))))) := by
  unfold m_cell
  rw [if_neg (by omega), if_neg (by omega), if_neg (by omega), show 102 + (k.1 - 102) = k.1 by omega]
theorem m_rf {ad : Nat → Nat} (o : Option Nat) : va_rf (o.map ad) = m_val ad (.inr (.inr o)) := by cases o <;> rfl
set_option maxHeartbeats 4000000 in
theorem m_heap_W (hx : p.tables.exec = Jvm.exec) (hb : c.code = cc) {mid : Nat} (hown : s.vm.findClass (q_y mid).cls = some m.cls) (hts : ∀ w ∈ q_W, w.before args s = true) (hin : (q_y mid).name = "<init>" → meth.name = "<init>")
    (hK : va_K D vwCl tys s) (hA : m_tys tA tys) (hro : ∀ a n f, a < 8 → ro a = some (n, f) → va_T .int (roa a) n (fun j => Value.int (f j)) (fun q => base ≤ q) s s.heap ∧ roa a < s.heap.size ∧ ¬ base ≤ roa a)
    {i : Instr} {len : Nat} {st st' : List MV} {w w' : MWd} (h : m_heap ro mid i st w = some (st', w')) (hd : decode cc pc = .ok (i, len)) (hn : m_len i = len ∨ m_len i = 0)
    (hP : va_P D vwCl (m_ws base roa tA w) H) (hS : va_S (fun q => base ≤ q) s.heap H locs)
    (k : ∀ (H1 : Heap) (locs1 : List Loc), va_P D vwCl (m_ws base roa tA w') H1 → va_S (fun q => base ≤ q) s.heap H1 locs1 → W p l e R s m args below meth c H1 locs1 cells slots Q (F0 m (pc + len) ls (st'.map (m_val (m_ad base roa))))) :
    W p l e R s m args below meth c H locs cells slots Q (F0 m pc ls (st.map (m_val (m_ad base roa)))) := by
  have hd1 : m_len i ≠ 0 → decode cc pc = .ok (i, m_len i) ∧ len = m_len i := fun h0 => by rw [hn.resolve_right h0]; exact ⟨hd, rfl⟩
  cases i
  case getfield idx =>
    obtain ⟨hd2, rfl⟩ := hd1 (by simp [m_len])
    simp only [m_heap] at h
    split at h
    · rename_i ci kf a r hf
      split at h
      · rename_i hc
        obtain ⟨h8, hlt, hsh⟩ := hc
        cases h
        obtain ⟨C, T, N, hcl, hk, hl⟩ := q_f_ok hf
        obtain ⟨h100, hN, hws, hty, hnm, -⟩ := q_cl_ok hcl
        have he := m_ws_at (base := base) (roa := roa) (tA := tA) h8 hlt
        rw [hsh, m_fld_cell h100] at he
        exact va_get (D := D) (ci := ci) (C := C) (T := T) (N := N) hx hb hts hws hown hK hP (a - 8) he hcl kf hk (hts _ hl) (fun _ h9 => h9) (m_fld_at (by rw [hN]; exact hk)) hd2 (k H locs hP hS)
      · cases h
    · cases h
  case putfield idx =>
    obtain ⟨hd2, rfl⟩ := hd1 (by simp [m_len])
    simp only [m_heap] at h
    split at h
    · rename_i ci kf v a r hf
      split at h
      · rename_i hc
        obtain ⟨h8, hlt, hsh, hpf, hfit⟩ := hc
        cases h
        obtain ⟨C, T, N, hcl, hk, hl⟩ := q_f_ok hf
        obtain ⟨h100, hN, hws, hty, hnm, -⟩ := q_cl_ok hcl
        have he := m_ws_at (base := base) (roa := roa) (tA := tA) h8 hlt
        rw [hsh, m_fld_cell h100] at he
        have hset : (m_ws base roa tA w).set (a - 8) (m_ad base roa a, .inr (ci, ((List.range (q_nf ci)).map (fun j => m_val (m_ad base roa) (mmm w a j))).set kf (m_val (m_ad base roa) v))) = m_ws base roa tA (m_wr w a kf v) := by
          refine m_ws_set h8 hlt ?_
          rw [hsh, m_fld_cell h100, m_fld_set]
          congr 3
          funext j
          show _ = m_val _ (m_up _ _ _ _ a j)
          unfold m_up
          rw [if_pos rfl]
        rcases q_pf_ok hf hpf hcl with hfin | ⟨hfin, hini, hdecl⟩
        · refine va_put (D := D) (ci := ci) (C := C) (T := T) (N := N) hx hb hts hws (q_ty ci) hty hnm hown hK hP m_ws_D hS (a - 8) he hcl kf hk (hts _ hl) (fun _ h9 => h9) hfin (hty kf hk) (m_fit_ok hfit).1 (m_fit_ok hfit).2 (by simp; omega) hd2 (fun H1 locs1 hP1 hD1 hS1 => ?_)
          rw [hset] at hP1
          exact k H1 locs1 hP1 hS1
        · refine va_putF (D := D) (ci := ci) (C := C) (T := T) (N := N) hx hb hts hws (q_ty ci) hty hnm hown hK hP m_ws_D hS (a - 8) he hcl kf hk (hts _ hl) (fun _ h9 => h9) hfin (hin hini) hdecl (hty kf hk) (m_fit_ok hfit).1 (m_fit_ok hfit).2 (by simp; omega) hd2 (fun H1 locs1 hP1 hD1 hS1 => ?_)
          rw [hset] at hP1
          exact k H1 locs1 hP1 hS1
      · cases h
    · cases h
  case iaload =>
    obtain ⟨hd2, rfl⟩ := hd1 (by simp [m_len])
    simp only [m_heap] at h
    split at h
    · rename_i j a r
      split at h
      · rename_i h8
        split at h
        · rename_i n f hr
          split at h
          · rename_i hc
            cases h
            obtain ⟨g1, g2, g3⟩ := hro _ _ _ h8 hr
            show W _ _ _ _ _ _ _ _ _ _ _ _ _ _ _ (F0 m pc ls (.int j :: .ref (m_ad base roa a) :: _))
            rw [m_ad_lo h8]
            exact va_ti hx hb g1 hS (fun q => q.elim hc.1 (fun q => absurd hc.2 (Nat.not_lt.mpr q))) rfl hd2 (k H locs hP hS)
          · cases h
        · cases h
      · rename_i h8
        split at h
        · rename_i hc
          obtain ⟨hlt, hki, hj0, hjl⟩ := hc
          cases h
          have he := m_ws_at (base := base) (roa := roa) (tA := tA) (Nat.le_of_not_lt h8) hlt
          rw [m_cell_i hki] at he
          exact va_iald hx hb hK hP (a - 8) 0 he hA.1 (fun q => q.elim hj0 (fun q => absurd hjl (Nat.not_lt.mpr q))) hd2 (k H locs hP hS)
        · cases h
    · cases h
  case iastore =>
    obtain ⟨hd2, rfl⟩ := hd1 (by simp [m_len])
    simp only [m_heap] at h
    split at h
    · rename_i x j a r
      split at h
      · rename_i hc
        obtain ⟨h8, hlt, hki, hj0, hjl⟩ := hc
        cases h
        have he := m_ws_at (base := base) (roa := roa) (tA := tA) h8 hlt
        rw [m_cell_i hki] at he
        refine va_iast hx hb hK hP m_ws_D hS (a - 8) 0 he hA.1 (fun q => q.elim hj0 (fun q => absurd hjl (Nat.not_lt.mpr q))) hd2 (fun H1 locs1 hP1 hD1 hS1 => ?_)
        rw [m_ws_set (j := j.toNatClampNeg) (v := .inl x) h8 hlt (by
          rw [m_cell_i hki]
          congr 4
          funext q
          show upd _ _ _ q = m_int (m_up _ _ _ _ a q)
          unfold m_up upd
          rw [if_pos rfl]
          by_cases hq : q = j.toNatClampNeg
          · rw [if_pos hq, if_pos hq]; rfl
          · rw [if_neg hq, if_neg hq])] at hP1
        exact k H1 locs1 hP1 hS1
      · cases h
    · cases h
  case laload =>
    obtain ⟨hd2, rfl⟩ := hd1 (by simp [m_len])
    simp only [m_heap] at h
    split at h
    · rename_i j a r
      split at h
      · rename_i hc
        obtain ⟨h8, hlt, hki, hj0, hjl⟩ := hc
        cases h
        have he := m_ws_at (base := base) (roa := roa) (tA := tA) h8 hlt
        rw [m_cell_l hki] at he
        exact va_lald hx hb hK hP (a - 8) 1 he hA.2.1 (fun q => q.elim hj0 (fun q => absurd hjl (Nat.not_lt.mpr q))) hd2 (k H locs hP hS)
      · cases h
    · cases h
  case lastore =>
    obtain ⟨hd2, rfl⟩ := hd1 (by simp [m_len])
    simp only [m_heap] at h
    split at h
    · rename_i x j a r
      split at h
      · rename_i hc
        obtain ⟨h8, hlt, hki, hj0, hjl⟩ := hc
        cases h
        have he := m_ws_at (base := base) (roa := roa) (tA := tA) h8 hlt
        rw [m_cell_l hki] at he
        refine va_last hx hb hK hP m_ws_D hS (a - 8) 1 he hA.2.1 (fun q => q.elim hj0 (fun q => absurd hjl (Nat.not_lt.mpr q))) hd2 (fun H1 locs1 hP1 hD1 hS1 => ?_)
        rw [m_ws_set (j := j.toNatClampNeg) (v := .inr (.inl x)) h8 hlt (by
          rw [m_cell_l hki]
          congr 5
          funext q
          show vp_updL _ _ _ q = m_lng (m_up _ _ _ _ a q)
          unfold m_up vp_updL
          rw [if_pos rfl]
          by_cases hq : q = j.toNatClampNeg
          · rw [if_pos hq, if_pos hq]; rfl
          · rw [if_neg hq, if_neg hq])] at hP1
        exact k H1 locs1 hP1 hS1
      · cases h
    · cases h
  case aaload =>
    obtain ⟨hd2, rfl⟩ := hd1 (by simp [m_len])
    simp only [m_heap] at h
    split at h
    · rename_i j a r
      split at h
      · rename_i hc
        obtain ⟨h8, hlt, hki, hra, hj0, hjl⟩ := hc
        cases h
        obtain ⟨t0, C, T, N, hcl, ht0⟩ := hA.2.2 _ hra
        have he := m_ws_at (base := base) (roa := roa) (tA := tA) h8 hlt
        rw [m_cell_q hki] at he
        refine va_aldq hx hb hK hP (a - 8) t0 he ht0 (fun q => q.elim hj0 (fun q => absurd hjl (Nat.not_lt.mpr q))) hd2 ?_
        rw [m_rf]
        exact k H locs hP hS
      · cases h
    · cases h
  case aastore =>
    obtain ⟨hd2, rfl⟩ := hd1 (by simp [m_len])
    simp only [m_heap] at h
    split at h
    · rename_i b j a r
      split at h
      · rename_i hc
        obtain ⟨h8, hlt, hki, hra, hj0, hjl, hb8, hbl, hbk, hb1⟩ := hc
        cases h
        obtain ⟨t0, C, T, N, hcl, ht0⟩ := hA.2.2 _ hra
        have he := m_ws_at (base := base) (roa := roa) (tA := tA) h8 hlt
        rw [m_cell_q hki] at he
        have he2 := m_ws_at (base := base) (roa := roa) (tA := tA) hb8 hbl
        have hbc : (msh w a).1 - 102 = (msh w b).1 := by omega
        rw [show msh w b = ((msh w b).1, (msh w b).2) from rfl, m_fld_cell hb1] at he2
        rw [hbc] at hcl
        refine va_astq hx hb hK hP m_ws_D hS (a - 8) t0 (b - 8) (msh w b).1 (r := (C, T, N)) he ht0 he2 hcl (fun q => q.elim hj0 (fun q => absurd hjl (Nat.not_lt.mpr q))) hd2 (fun H1 locs1 hP1 hD1 hS1 => ?_)
        rw [m_ws_set (j := j.toNatClampNeg) (v := .inr (.inr (some b))) h8 hlt (by
          rw [m_cell_q hki]
          congr 7
          funext q
          show va_up _ _ _ q = (m_ref (m_up _ _ _ _ a q)).map _
          unfold m_up va_up
          rw [if_pos rfl]
          by_cases hq : q = j.toNatClampNeg
          · rw [if_pos hq, if_pos hq]; rfl
          · rw [if_neg hq, if_neg hq])] at hP1
        exact k H1 locs1 hP1 hS1
      · cases h
    · cases h
  case arraylength =>
    obtain ⟨hd2, rfl⟩ := hd1 (by simp [m_len])
    simp only [m_heap] at h
    split at h
    · rename_i a r
      split at h
      · rename_i h8
        split at h
        · rename_i n f hr
          cases h
          obtain ⟨g1, g2, g3⟩ := hro _ _ _ h8 hr
          show W _ _ _ _ _ _ _ _ _ _ _ _ _ _ _ (F0 m pc ls (.ref (m_ad base roa a) :: _))
          rw [m_ad_lo h8]
          exact va_tlen hx hb g1 hS rfl hd2 (k H locs hP hS)
        · cases h
      · rename_i h8
        split at h
        · rename_i hc
          obtain ⟨hlt, hki, hkk⟩ := hc
          cases h
          have he := m_ws_at (base := base) (roa := roa) (tA := tA) (Nat.le_of_not_lt h8) hlt
          by_cases h0 : (msh w a).1 = 100
          · rw [m_cell_i h0] at he
            exact va_alen hx hb hK hP (a - 8) 0 he hA.1 rfl hd2 (k H locs hP hS)
          · by_cases h1 : (msh w a).1 = 101
            · rw [m_cell_l h1] at he
              exact va_alen hx hb hK hP (a - 8) 1 he hA.2.1 rfl hd2 (k H locs hP hS)
            · obtain ⟨t0, C, T, N, hcl, ht0⟩ := hA.2.2 _ (hkk.resolve_left (by omega))
              rw [m_cell_q (by omega)] at he
              exact va_alen hx hb hK hP (a - 8) t0 he ht0 rfl hd2 (k H locs hP hS)
        · cases h
    · cases h
  all_goals (exact absurd h (by simp [m_heap]))
end MHEAP
