section
def m_ad (base : Nat) (roa : Nat → Nat) : Nat → Nat := fun id => if id < 8 then roa id else base + (id - 8)
theorem m_ad_hi {base : Nat} {roa : Nat → Nat} {a : Nat} (h : 8 ≤ a) : m_ad base roa a = base + (a - 8) := if_neg (by omega)
theorem m_ad_lo {base : Nat} {roa : Nat → Nat} {a : Nat} (h : a < 8) : m_ad base roa a = roa a := if_pos h
/-- how a cell of the small machine lies in the heap: kinds below 100 are objects of the classes, 100 ints, 101 longs, from 102 on arrays of objects -/
def m_cell (ad : Nat → Nat) (tA : Nat → ClassId) (k : Nat × Nat) (f : Nat → MV) : va_E :=
  if k.1 < 100 then .inr (k.1, (List.range k.2).map (fun j => m_val ad (f j)))
  else .inl (tA k.1, k.2, if k.1 = 100 then .inl (fun j => m_int (f j)) else if k.1 = 101 then .inr (.inl (fun j => m_lng (f j))) else .inr (.inr (.inr (.inr (fun j => (m_ref (f j)).map ad)))))
abbrev mnx (w : MWd) : Nat := w.1
abbrev mcx (w : MWd) : Nat := w.2.1
abbrev msl (w : MWd) : Nat := w.2.2.1
abbrev msh (w : MWd) : Nat → Nat × Nat := w.2.2.2.1
abbrev mmm (w : MWd) : Nat → Nat → MV := w.2.2.2.2
def m_up (M : Nat → Nat → MV) (a j : Nat) (v : MV) : Nat → Nat → MV := fun k => if k = a then (fun i => if i = j then v else M a i) else M k
def m_wr (w : MWd) (a j : Nat) (v : MV) : MWd := (w.1, w.2.1, w.2.2.1, w.2.2.2.1, m_up w.2.2.2.2 a j v)
def m_ws (base : Nat) (roa : Nat → Nat) (tA : Nat → ClassId) (w : MWd) : va_W := (List.range (mnx w - 8)).map (fun k => (base + k, m_cell (m_ad base roa) tA (msh w (k + 8)) (mmm w (k + 8))))
theorem m_ws_at {base : Nat} {roa : Nat → Nat} {tA : Nat → ClassId} {w : MWd} {a : Nat} (h8 : 8 ≤ a) (hn : a < mnx w) : (m_ws base roa tA w)[a - 8]? = some (m_ad base roa a, m_cell (m_ad base roa) tA (msh w a) (mmm w a)) := by
  unfold m_ws
  rw [List.getElem?_map, List.getElem?_range (by omega : a - 8 < mnx w - 8)]
  simp only [Option.map_some, m_ad_hi h8]
  rw [show a - 8 + 8 = a by omega]
theorem m_ws_set {base : Nat} {roa : Nat → Nat} {tA : Nat → ClassId} {w : MWd} {a j : Nat} {v : MV} {cl : va_E} (h8 : 8 ≤ a) (hn : a < mnx w) (hc : cl = m_cell (m_ad base roa) tA (msh w a) (mmm (m_wr w a j v) a)) : (m_ws base roa tA w).set (a - 8) (m_ad base roa a, cl) = m_ws base roa tA (m_wr w a j v) := by
  subst hc
  apply List.ext_getElem?
  intro k
  by_cases hk : k = a - 8
  · subst hk
    rw [List.getElem?_set_self (by unfold m_ws; simp; omega)]
    exact (m_ws_at (w := m_wr w a j v) h8 hn).symm
  · rw [List.getElem?_set_ne (Ne.symm hk)]
    by_cases hk2 : k < mnx w - 8
    · have e1 : mmm (m_wr w a j v) (k + 8) = mmm w (k + 8) := if_neg (by omega)
      unfold m_ws
      rw [List.getElem?_map, List.getElem?_map, List.getElem?_range hk2, List.getElem?_range (show k < mnx (m_wr w a j v) - 8 from hk2)]
      simp only [Option.map_some, e1]
      rfl
    · rw [List.getElem?_eq_none (by unfold m_ws; simp; omega), List.getElem?_eq_none (by unfold m_ws; have e9 : mnx (m_wr w a j v) = mnx w := rfl; simp; omega)]
theorem m_ws_D {base : Nat} {roa : Nat → Nat} {tA : Nat → ClassId} {w : MWd} : va_D (fun q => base ≤ q) (m_ws base roa tA w) := by
  have key : ∀ (i : Nat) (p : Nat × va_E), (m_ws base roa tA w)[i]? = some p → p.1 = base + i := by
    intro i p hp
    unfold m_ws at hp
    rw [List.getElem?_map] at hp
    by_cases hi : i < mnx w - 8
    · rw [List.getElem?_range hi] at hp
      cases hp
      rfl
    · rw [List.getElem?_eq_none (by simp; omega)] at hp
      cases hp
  exact ⟨fun i j p q hp hq e => by have h1 := key i p hp; have h2 := key j q hq; omega, fun k q hq => by have h1 := key k q hq; show base ≤ q.1; omega⟩
/-- whether a value may lie in a field of this type -/
def m_fit (ty : FieldType) (v : MV) : Bool := match ty with
  | .int => m_isI v
  | .boolean => m_isI v && (m_int v == 0 || m_int v == 1)
  | .long => m_isL v
  | .object _ => m_isR v
  | .array _ => m_isR v
  | _ => false
theorem m_fit_ok {ad : Nat → Nat} {ty : FieldType} {v : MV} (h : m_fit ty v = true) : narrow ty (m_val ad v) = m_val ad v ∧ fits ty (m_val ad v) = true := by
  unfold m_fit at h
  split at h
  · obtain ⟨x, rfl⟩ := m_isI_ok h; exact ⟨rfl, rfl⟩
  · rw [Bool.and_eq_true] at h
    obtain ⟨x, rfl⟩ := m_isI_ok h.1
    have h2 := h.2
    simp only [m_int, Bool.or_eq_true, beq_iff_eq] at h2
    rcases h2 with rfl | rfl
    · exact ⟨rfl, rfl⟩
    · exact ⟨rfl, rfl⟩
  · obtain ⟨x, rfl⟩ := m_isL_ok h; exact ⟨rfl, rfl⟩
  · rcases m_isR_ok h with rfl | ⟨k, rfl⟩ <;> exact ⟨rfl, rfl⟩
  · rcases m_isR_ok h with rfl | ⟨k, rfl⟩ <;> exact ⟨rfl, rfl⟩
  · cases h
abbrev MRo : Type := Nat → Option (Nat × (Nat → Int32))
/-- what reads and writes the heap -/
def m_heap (ro : MRo) (mid : Nat) (i : Instr) (st : List MV) (w : MWd) : Option (List MV × MWd) := match i with
  | .getfield idx => match q_f mid idx, st with
    | some (ci, k), .inr (.inr (some a)) :: r => if 8 ≤ a ∧ a < mnx w ∧ msh w a = (ci, q_nf ci) then some (mmm w a k :: r, w) else none
    | _, _ => none
  | .putfield idx => match q_f mid idx, st with
    | some (ci, k), v :: .inr (.inr (some a)) :: r => if 8 ≤ a ∧ a < mnx w ∧ msh w a = (ci, q_nf ci) ∧ q_pf mid idx = true ∧ m_fit (q_ty ci k) v = true then some (r, m_wr w a k v) else none
    | _, _ => none
  | .iaload => match st with
    | .inl j :: .inr (.inr (some a)) :: r => if a < 8 then match ro a with
        | some (n, f) => if ¬ j < 0 ∧ j.toNatClampNeg < n then some (.inl (f j.toNatClampNeg) :: r, w) else none
        | none => none
      else if a < mnx w ∧ (msh w a).1 = 100 ∧ ¬ j < 0 ∧ j.toNatClampNeg < (msh w a).2 then some (.inl (m_int (mmm w a j.toNatClampNeg)) :: r, w) else none
    | _ => none
  | .iastore => match st with
    | .inl x :: .inl j :: .inr (.inr (some a)) :: r => if 8 ≤ a ∧ a < mnx w ∧ (msh w a).1 = 100 ∧ ¬ j < 0 ∧ j.toNatClampNeg < (msh w a).2 then some (r, m_wr w a j.toNatClampNeg (.inl x)) else none
    | _ => none
  | .laload => match st with
    | .inl j :: .inr (.inr (some a)) :: r => if 8 ≤ a ∧ a < mnx w ∧ (msh w a).1 = 101 ∧ ¬ j < 0 ∧ j.toNatClampNeg < (msh w a).2 then some (.inr (.inl (m_lng (mmm w a j.toNatClampNeg))) :: r, w) else none
    | _ => none
  | .lastore => match st with
    | .inr (.inl x) :: .inl j :: .inr (.inr (some a)) :: r => if 8 ≤ a ∧ a < mnx w ∧ (msh w a).1 = 101 ∧ ¬ j < 0 ∧ j.toNatClampNeg < (msh w a).2 then some (r, m_wr w a j.toNatClampNeg (.inr (.inl x))) else none
    | _ => none
  | .aaload => match st with
    | .inl j :: .inr (.inr (some a)) :: r => if 8 ≤ a ∧ a < mnx w ∧ 102 ≤ (msh w a).1 ∧ q_ra ((msh w a).1 - 102) = true ∧ ¬ j < 0 ∧ j.toNatClampNeg < (msh w a).2 then some (.inr (.inr (m_ref (mmm w a j.toNatClampNeg))) :: r, w) else none
    | _ => none
  | .aastore => match st with
    | .inr (.inr (some b)) :: .inl j :: .inr (.inr (some a)) :: r => if 8 ≤ a ∧ a < mnx w ∧ 102 ≤ (msh w a).1 ∧ q_ra ((msh w a).1 - 102) = true ∧ ¬ j < 0 ∧ j.toNatClampNeg < (msh w a).2 ∧ 8 ≤ b ∧ b < mnx w ∧ (msh w b).1 + 102 = (msh w a).1 ∧ (msh w b).1 < 100 then some (r, m_wr w a j.toNatClampNeg (.inr (.inr (some b)))) else none
    | _ => none
  | .arraylength => match st with
    | .inr (.inr (some a)) :: r => if a < 8 then match ro a with
        | some (n, _) => some (.inl (Int32.ofNat n) :: r, w)
        | none => none
      else if a < mnx w ∧ 100 ≤ (msh w a).1 ∧ ((msh w a).1 ≤ 101 ∨ q_ra ((msh w a).1 - 102) = true) then some (.inl (Int32.ofNat (msh w a).2) :: r, w) else none
    | _ => none
  | _ => none
section MHEAP
variable {p : Program} {l : Launch} {e : Env} {R : Room} {s : State} {m : MethodId} {args : Array Value} {below : List Frame} {meth : Method} {c : Code} {H : Heap} {locs : List Loc} {cells slots : Nat} {Q : State → Prop} {cc : ByteArray} {pc : Nat} {ls : Array Slot}
variable {base : Nat} {roa : Nat → Nat} {ro : MRo} {tA : Nat → ClassId} {D : va_G} {tys : List (ClassId × FieldType)}
/-- the array classes of the small machine's kinds -/
def m_tys (tA : Nat → ClassId) (tys : List (ClassId × FieldType)) : Prop :=
  tys[0]? = some (tA 100, .int) ∧ tys[1]? = some (tA 101, .long) ∧ ∀ ci : Nat, q_ra ci = true → ∃ (t0 : Nat) (C : String) (T : u_T) (N : Nat), vwCl[ci]? = some (C, T, N) ∧ tys[t0]? = some (tA (102 + ci), .object C)
theorem m_fld_cell {ad : Nat → Nat} {ci n : Nat} {f : Nat → MV} (h : ci < 100) : m_cell ad tA (ci, n) f = .inr (ci, (List.range n).map (fun j => m_val ad (f j))) := if_pos h
theorem m_fld_at {ad : Nat → Nat} {n k : Nat} {f : Nat → MV} (h : k < n) : ((List.range n).map (fun j => m_val ad (f j)))[k]? = some (m_val ad (f k)) := by
  rw [List.getElem?_map, List.getElem?_range h]; rfl
theorem m_fld_set {ad : Nat → Nat} {n k : Nat} {f : Nat → MV} {v : MV} : ((List.range n).map (fun j => m_val ad (f j))).set k (m_val ad v) = (List.range n).map (fun j => m_val ad (if j = k then v else f j)) := by
  apply List.ext_getElem?
  intro q
  by_cases hq : q < n
  · by_cases hk : q = k
    · subst hk
      rw [List.getElem?_set_self (by simp; exact hq), m_fld_at hq, if_pos rfl]
    · rw [List.getElem?_set_ne (Ne.symm hk), m_fld_at hq, m_fld_at hq, if_neg hk]
  · rw [List.getElem?_eq_none (by simp; omega), List.getElem?_eq_none (by simp; omega)]
theorem m_cell_i {ad : Nat → Nat} {k : Nat × Nat} {f : Nat → MV} (h : k.1 = 100) : m_cell ad tA k f = .inl (tA 100, k.2, .inl (fun j => m_int (f j))) := by
  unfold m_cell
  rw [if_neg (by omega), if_pos h, h]
theorem m_cell_l {ad : Nat → Nat} {k : Nat × Nat} {f : Nat → MV} (h : k.1 = 101) : m_cell ad tA k f = .inl (tA 101, k.2, .inr (.inl (fun j => m_lng (f j)))) := by
  unfold m_cell
  rw [if_neg (by omega), if_neg (by omega), if_pos h, h]
theorem m_cell_q {ad : Nat → Nat} {k : Nat × Nat} {f : Nat → MV} (h : 102 ≤ k.1) : m_cell ad tA k f = .inl (tA (102 + (k.1 - 102)), k.2, .inr (.inr (.inr (.inr (fun j => (m_ref (f j)).map ad))))) := by
  unfold m_cell
  rw [if_neg (by omega), if_neg (by omega), if_neg (by omega), show 102 + (k.1 - 102) = k.1 by omega]
theorem m_rf {ad : Nat → Nat} (o : Option Nat) : va_rf (o.map ad) = m_val ad (.inr (.inr o)) := by cases o <;> rfl
set_option maxHeartbeats 4000000 in
theorem m_heap_W (hx : p.tables.exec = Jvm.exec) (hb : c.code = cc) {mid : Nat} (hown : s.vm.findClass (q_y mid).cls = some m.cls) (hts : ∀ w ∈ q_W, w.before args s = true) (hin : (q_y mid).name = "<init>" → meth.name = "<init>")
    (hK : va_K D vwCl tys s) (hA : m_tys tA tys) (hro : ∀ a n f, a < 8 → ro a = some (n, f) → va_T .int (roa a) n (fun j => Value.int (f j)) (fun q => base ≤ q) s s.heap ∧ roa a < s.heap.size ∧ ¬ base ≤ roa a)
    {i : Instr} {len : Nat} {st st' : List MV} {w w' : MWd} (h : m_heap ro mid i st w = some (st', w')) (hd : decode cc pc = .ok (i, len)) (hn : m_len i = len ∨ m_len i = 0)
    (hP : va_P D vwCl (m_ws base roa tA w) H) (hS : va_S (fun q => base ≤ q) s.heap H locs)
    (k : ∀ (H1 : Heap) (locs1 : List Loc), va_P D vwCl (m_ws base roa tA w') H1 → va_S (fun q => base ≤ q) s.heap H1 locs1 → W p l e R s m args below meth c H1 locs1 cells slots Q (F0 m (pc + len) ls (st'.map (m_val (m_ad base roa))))) :
    W p l e R s m args below meth c H locs cells slots Q (F0 m pc ls (st.map (m_val (m_ad base roa)))) := by
  have hd1 : m_len i ≠ 0 → decode cc pc = .ok (i, m_len i) ∧ len = m_len i := fun h0 => by rw [hn.resolve_right h0]; exact ⟨hd, rfl⟩
  cases i
  case getfield idx =>
    obtain ⟨hd2, rfl⟩ := hd1 (by simp [m_len])
    simp only [m_heap] at h
    split at h
    · rename_i ci kf a r hf
      split at h
      · rename_i hc
        obtain ⟨h8, hlt, hsh⟩ := hc
        cases h
        obtain ⟨C, T, N, hcl, hk, hl⟩ := q_f_ok hf
        obtain ⟨h100, hN, hws, hty, hnm, -⟩ := q_cl_ok hcl
        have he := m_ws_at (base := base) (roa := roa) (tA := tA) h8 hlt
        rw [hsh, m_fld_cell h100] at he
        exact va_get (D := D) (ci := ci) (C := C) (T := T) (N := N) hx hb hts hws hown hK hP (a - 8) he hcl kf hk (hts _ hl) (fun _ h9 => h9) (m_fld_at (by rw [hN]; exact hk)) hd2 (k H locs hP hS)
      · cases h
    · cases h
  case putfield idx =>
    obtain ⟨hd2, rfl⟩ := hd1 (by simp [m_len])
    simp only [m_heap] at h
    split at h
    · rename_i ci kf v a r hf
      split at h
      · rename_i hc
        obtain ⟨h8, hlt, hsh, hpf, hfit⟩ := hc
        cases h
        obtain ⟨C, T, N, hcl, hk, hl⟩ := q_f_ok hf
        obtain ⟨h100, hN, hws, hty, hnm, -⟩ := q_cl_ok hcl
        have he := m_ws_at (base := base) (roa := roa) (tA := tA) h8 hlt
        rw [hsh, m_fld_cell h100] at he
        have hset : (m_ws base roa tA w).set (a - 8) (m_ad base roa a, .inr (ci, ((List.range (q_nf ci)).map (fun j => m_val (m_ad base roa) (mmm w a j))).set kf (m_val (m_ad base roa) v))) = m_ws base roa tA (m_wr w a kf v) := by
          refine m_ws_set h8 hlt ?_
          rw [hsh, m_fld_cell h100, m_fld_set]
          congr 3
          funext j
          show _ = m_val _ (m_up _ _ _ _ a j)
          unfold m_up
          rw [if_pos rfl]
        rcases q_pf_ok hf hpf hcl with hfin | ⟨hfin, hini, hdecl⟩
        · refine va_put (D := D) (ci := ci) (C := C) (T := T) (N := N) hx hb hts hws (q_ty ci) hty hnm hown hK hP m_ws_D hS (a - 8) he hcl kf hk (hts _ hl) (fun _ h9 => h9) hfin (hty kf hk) (m_fit_ok hfit).1 (m_fit_ok hfit).2 (by simp; omega) hd2 (fun H1 locs1 hP1 hD1 hS1 => ?_)
          rw [hset] at hP1
          exact k H1 locs1 hP1 hS1
        · refine va_putF (D := D) (ci := ci) (C := C) (T := T) (N := N) hx hb hts hws (q_ty ci) hty hnm hown hK hP m_ws_D hS (a - 8) he hcl kf hk (hts _ hl) (fun _ h9 => h9) hfin (hin hini) hdecl (hty kf hk) (m_fit_ok hfit).1 (m_fit_ok hfit).2 (by simp; omega) hd2 (fun H1 locs1 hP1 hD1 hS1 => ?_)
          rw [hset] at hP1
          exact k H1 locs1 hP1 hS1
      · cases h
    · cases h
  case iaload =>
    obtain ⟨hd2, rfl⟩ := hd1 (by simp [m_len])
    simp only [m_heap] at h
    split at h
    · rename_i j a r
      split at h
      · rename_i h8
        split at h
        · rename_i n f hr
          split at h
          · rename_i hc
            cases h
            obtain ⟨g1, g2, g3⟩ := hro _ _ _ h8 hr
            show W _ _ _ _ _ _ _ _ _ _ _ _ _ _ _ (F0 m pc ls (.int j :: .ref (m_ad base roa a) :: _))
            rw [m_ad_lo h8]
            exact va_ti hx hb g1 hS (fun q => q.elim hc.1 (fun q => absurd hc.2 (Nat.not_lt.mpr q))) rfl hd2 (k H locs hP hS)
          · cases h
        · cases h
      · rename_i h8
        split at h
        · rename_i hc
          obtain ⟨hlt, hki, hj0, hjl⟩ := hc
          cases h
          have he := m_ws_at (base := base) (roa := roa) (tA := tA) (Nat.le_of_not_lt h8) hlt
          rw [m_cell_i hki] at he
          exact va_iald hx hb hK hP (a - 8) 0 he hA.1 (fun q => q.elim hj0 (fun q => absurd hjl (Nat.not_lt.mpr q))) hd2 (k H locs hP hS)
        · cases h
    · cases h
  case iastore =>
    obtain ⟨hd2, rfl⟩ := hd1 (by simp [m_len])
    simp only [m_heap] at h
    split at h
    · rename_i x j a r
      split at h
      · rename_i hc
        obtain ⟨h8, hlt, hki, hj0, hjl⟩ := hc
        cases h
        have he := m_ws_at (base := base) (roa := roa) (tA := tA) h8 hlt
        rw [m_cell_i hki] at he
        refine va_iast hx hb hK hP m_ws_D hS (a - 8) 0 he hA.1 (fun q => q.elim hj0 (fun q => absurd hjl (Nat.not_lt.mpr q))) hd2 (fun H1 locs1 hP1 hD1 hS1 => ?_)
        rw [m_ws_set (j := j.toNatClampNeg) (v := .inl x) h8 hlt (by
          rw [m_cell_i hki]
          congr 4
          funext q
          show upd _ _ _ q = m_int (m_up _ _ _ _ a q)
          unfold m_up upd
          rw [if_pos rfl]
          by_cases hq : q = j.toNatClampNeg
          · rw [if_pos hq, if_pos hq]; rfl
          · rw [if_neg hq, if_neg hq])] at hP1
        exact k H1 locs1 hP1 hS1
      · cases h
    · cases h
  case laload =>
    obtain ⟨hd2, rfl⟩ := hd1 (by simp [m_len])
    simp only [m_heap] at h
    split at h
    · rename_i j a r
      split at h
      · rename_i hc
        obtain ⟨h8, hlt, hki, hj0, hjl⟩ := hc
        cases h
        have he := m_ws_at (base := base) (roa := roa) (tA := tA) h8 hlt
        rw [m_cell_l hki] at he
        exact va_lald hx hb hK hP (a - 8) 1 he hA.2.1 (fun q => q.elim hj0 (fun q => absurd hjl (Nat.not_lt.mpr q))) hd2 (k H locs hP hS)
      · cases h
    · cases h
  case lastore =>
    obtain ⟨hd2, rfl⟩ := hd1 (by simp [m_len])
    simp only [m_heap] at h
    split at h
    · rename_i x j a r
      split at h
      · rename_i hc
        obtain ⟨h8, hlt, hki, hj0, hjl⟩ := hc
        cases h
        have he := m_ws_at (base := base) (roa := roa) (tA := tA) h8 hlt
        rw [m_cell_l hki] at he
        refine va_last hx hb hK hP m_ws_D hS (a - 8) 1 he hA.2.1 (fun q => q.elim hj0 (fun q => absurd hjl (Nat.not_lt.mpr q))) hd2 (fun H1 locs1 hP1 hD1 hS1 => ?_)
        rw [m_ws_set (j := j.toNatClampNeg) (v := .inr (.inl x)) h8 hlt (by
          rw [m_cell_l hki]
          congr 5
          funext q
          show vp_updL _ _ _ q = m_lng (m_up _ _ _ _ a q)
          unfold m_up vp_updL
          rw [if_pos rfl]
          by_cases hq : q = j.toNatClampNeg
          · rw [if_pos hq, if_pos hq]; rfl
          · rw [if_neg hq, if_neg hq])] at hP1
        exact k H1 locs1 hP1 hS1
      · cases h
    · cases h
  case aaload =>
    obtain ⟨hd2, rfl⟩ := hd1 (by simp [m_len])
    simp only [m_heap] at h
    split at h
    · rename_i j a r
      split at h
      · rename_i hc
        obtain ⟨h8, hlt, hki, hra, hj0, hjl⟩ := hc
        cases h
        obtain ⟨t0, C, T, N, hcl, ht0⟩ := hA.2.2 _ hra
        have he := m_ws_at (base := base) (roa := roa) (tA := tA) h8 hlt
        rw [m_cell_q hki] at he
        refine va_aldq hx hb hK hP (a - 8) t0 he ht0 (fun q => q.elim hj0 (fun q => absurd hjl (Nat.not_lt.mpr q))) hd2 ?_
        rw [m_rf]
        exact k H locs hP hS
      · cases h
    · cases h
  case aastore =>
    obtain ⟨hd2, rfl⟩ := hd1 (by simp [m_len])
    simp only [m_heap] at h
    split at h
    · rename_i b j a r
      split at h
      · rename_i hc
        obtain ⟨h8, hlt, hki, hra, hj0, hjl, hb8, hbl, hbk, hb1⟩ := hc
        cases h
        obtain ⟨t0, C, T, N, hcl, ht0⟩ := hA.2.2 _ hra
        have he := m_ws_at (base := base) (roa := roa) (tA := tA) h8 hlt
        rw [m_cell_q hki] at he
        have he2 := m_ws_at (base := base) (roa := roa) (tA := tA) hb8 hbl
        have hbc : (msh w a).1 - 102 = (msh w b).1 := by omega
        rw [show msh w b = ((msh w b).1, (msh w b).2) from rfl, m_fld_cell hb1] at he2
        rw [hbc] at hcl
        refine va_astq hx hb hK hP m_ws_D hS (a - 8) t0 (b - 8) (msh w b).1 (r := (C, T, N)) he ht0 he2 hcl (fun q => q.elim hj0 (fun q => absurd hjl (Nat.not_lt.mpr q))) hd2 (fun H1 locs1 hP1 hD1 hS1 => ?_)
        rw [m_ws_set (j := j.toNatClampNeg) (v := .inr (.inr (some b))) h8 hlt (by
          rw [m_cell_q hki]
          congr 7
          funext q
          show va_up _ _ _ q = (m_ref (m_up _ _ _ _ a q)).map _
          unfold m_up va_up
          rw [if_pos rfl]
          by_cases hq : q = j.toNatClampNeg
          · rw [if_pos hq, if_pos hq]; rfl
          · rw [if_neg hq, if_neg hq])] at hP1
        exact k H1 locs1 hP1 hS1
      · cases h
    · cases h
  case arraylength =>
    obtain ⟨hd2, rfl⟩ := hd1 (by simp [m_len])
    simp only [m_heap] at h
    split at h
    · rename_i a r
      split at h
      · rename_i h8
        split at h
        · rename_i n f hr
          cases h
          obtain ⟨g1, g2, g3⟩ := hro _ _ _ h8 hr
          show W _ _ _ _ _ _ _ _ _ _ _ _ _ _ _ (F0 m pc ls (.ref (m_ad base roa a) :: _))
          rw [m_ad_lo h8]
          exact va_tlen hx hb g1 hS rfl hd2 (k H locs hP hS)
        · cases h
      · rename_i h8
        split at h
        · rename_i hc
          obtain ⟨hlt, hki, hkk⟩ := hc
          cases h
          have he := m_ws_at (base := base) (roa := roa) (tA := tA) (Nat.le_of_not_lt h8) hlt
          by_cases h0 : (msh w a).1 = 100
          · rw [m_cell_i h0] at he
            exact va_alen hx hb hK hP (a - 8) 0 he hA.1 rfl hd2 (k H locs hP hS)
          · by_cases h1 : (msh w a).1 = 101
            · rw [m_cell_l h1] at he
              exact va_alen hx hb hK hP (a - 8) 1 he hA.2.1 rfl hd2 (k H locs hP hS)
            · obtain ⟨t0, C, T, N, hcl, ht0⟩ := hA.2.2 _ (hkk.resolve_left (by omega))
              rw [m_cell_q (by omega)] at he
              exact va_alen hx hb hK hP (a - 8) t0 he ht0 rfl hd2 (k H locs hP hS)
        · cases h
    · cases h
  all_goals (exact absurd h (by simp [m_heap]))
end MHEAP
end
section
def m_cats (st : List MV) : Nat := (st.map (fun v => if m_isL v = true then 2 else 1)).sum
theorem m_cats_val (ad : Nat → Nat) (st : List MV) : ((st.map (m_val ad)).map fun v => v.category).sum = m_cats st := by
  unfold m_cats
  rw [List.map_map]
  congr 1
  apply List.map_congr_left
  intro v _
  rcases v with x | x | x | x <;> rfl
def m_ent : Nat → List MV → ML
  | _, [] => []
  | i, v :: vs => (i, v) :: m_ent (if m_isL v = true then i + 2 else i + 1) vs
theorem m_ent_val (ad : Nat → Nat) : ∀ (i : Nat) (As : List MV), lv_args i (As.map (m_val ad)) = ml_val ad (m_ent i As)
  | _, [] => rfl
  | i, v :: vs => by
    have h := m_ent_val ad (if m_isL v = true then i + 2 else i + 1) vs
    have hc : (if (m_val ad v).category = 2 then i + 2 else i + 1) = (if m_isL v = true then i + 2 else i + 1) := by
      rcases v with x | x | x | x <;> rfl
    show (i, m_val ad v) :: lv_args (if (m_val ad v).category = 2 then i + 2 else i + 1) (vs.map (m_val ad)) = _
    rw [hc, h]
    rfl
theorem m_sl_len (ad : Nat → Nat) : ∀ As : List MV, (lg_sl (As.map (m_val ad))).length = m_cats As
  | [] => rfl
  | v :: vs => by
    have h := m_sl_len ad vs
    have h2 : lg_sl ((v :: vs).map (m_val ad)) = (if (m_val ad v).category = 2 then [.val (m_val ad v), .second] else [.val (m_val ad v)]) ++ lg_sl (vs.map (m_val ad)) := by
      simp [lg_sl]
    rw [h2, List.length_append, h]
    rcases v with x | x | x | x <;> rfl
def m_thr (w : MWd) : MWd := (w.1, w.2.1 + 1, w.2.2.1 + 6, w.2.2.2)
def m_def (ty : FieldType) : MV := match ty with
  | .long => .inr (.inl 0)
  | .object _ => .inr (.inr none)
  | .array _ => .inr (.inr none)
  | _ => .inl 0
def m_mk (w : MWd) (k : Nat × Nat) (f : Nat → MV) : MWd := (w.1 + 1, w.2.1 + 1, w.2.2.1 + k.2, (fun a => if a = w.1 then k else w.2.2.2.1 a), (fun a => if a = w.1 then f else w.2.2.2.2 a))
/-- what makes a cell -/
def m_new (mid : Nat) (i : Instr) (st : List MV) (w : MWd) : Option (List MV × MWd) := if mcx w + 8 = mnx w then (match i with
  | .new idx => match q_c mid idx with
    | some ci => some (.inr (.inr (some (mnx w))) :: st, m_mk w (ci, q_nf ci) (fun j => m_def (q_ty ci j)))
    | none => none
  | .newarray t => match st with
    | .inl n :: r => if ¬ n < 0 ∧ n.toNatClampNeg ≤ 60000 then (match t with
      | .int => some (.inr (.inr (some (mnx w))) :: r, m_mk w (100, n.toNatClampNeg) (fun _ => .inl 0))
      | .long => some (.inr (.inr (some (mnx w))) :: r, m_mk w (101, n.toNatClampNeg) (fun _ => .inr (.inl 0)))
      | _ => none) else none
    | _ => none
  | .anewarray idx => match st with
    | .inl n :: r => if ¬ n < 0 ∧ n.toNatClampNeg ≤ 60000 then (match q_ca mid idx with
      | some ci => some (.inr (.inr (some (mnx w))) :: r, m_mk w (102 + ci, n.toNatClampNeg) (fun _ => .inr (.inr none)))
      | none => none) else none
    | _ => none
  | _ => none) else none
/-- the end of a frame -/
def m_ret (mid : Nat) (i : Instr) (st : List MV) : Option (Option MV) := match i with
  | .return_ => match st, q_rt mid with
    | [], none => some none
    | _, _ => none
  | .ireturn => match st, q_rt mid with
    | [.inl x], some .int => some (some (.inl x))
    | [.inl x], some .boolean => if x = 0 ∨ x = 1 then some (some (.inl x)) else none
    | _, _ => none
  | .lreturn => match st, q_rt mid with
    | [.inr (.inl x)], some .long => some (some (.inr (.inl x)))
    | _, _ => none
  | .areturn => match st, q_rt mid with
    | [.inr (.inr x)], some (.object _) => some (some (.inr (.inr x)))
    | [.inr (.inr x)], some (.array _) => some (some (.inr (.inr x)))
    | _, _ => none
  | _ => none
/-- Object.<init>, and the three of Math -/
def m_obj (mid : Nat) (i : Instr) (st : List MV) : Option (List MV) := match i with
  | .invokespecial idx => match q_m mid idx, st with
    | some (_, 5), .inr (.inr (some _)) :: r => if m_cats r ≤ 8 then some r else none
    | _, _ => none
  | .invokestatic idx => match q_m mid idx, st with
    | some (_, 10), .inl y :: .inl x :: r => if m_cats r ≤ 8 then some (.inl (if x < y then y else x) :: r) else none
    | some (_, 11), .inl y :: .inl x :: r => if m_cats r ≤ 8 then some (.inl (if y < x then y else x) :: r) else none
    | some (_, 12), .inl x :: r => if m_cats r ≤ 8 then some (.inl (if 0 ≤ x then x else 0 - x) :: r) else none
    | _, _ => none
  | _ => none
def m_con (mid : Nat) (i : Instr) : Option MV := match i with
  | .ldc idx => match q_k mid idx with
    | some (.inl x) => some (.inl x)
    | _ => none
  | .ldc_w idx => match q_k mid idx with
    | some (.inl x) => some (.inl x)
    | _ => none
  | .ldc2_w idx => match q_k mid idx with
    | some (.inr (.inl x)) => some (.inr (.inl x))
    | _ => none
  | .getstatic idx => match q_s mid idx with
    | some a => some (.inr (.inr (some a)))
    | none => none
  | _ => none
/-- System.arraycopy of ints -/
def m_cp (w : MWd) (a0 a sp dp n : Nat) : MWd := (w.1, w.2.1, w.2.2.1, w.2.2.2.1, fun k => if k = a then (fun j => if dp ≤ j ∧ j < dp + n then .inl (m_int (w.2.2.2.2 a0 (sp + (j - dp)))) else w.2.2.2.2 a j) else w.2.2.2.2 k)
def m_cpy (mid : Nat) (i : Instr) (st : List MV) (w : MWd) : Option (List MV × MWd) := match i with
  | .invokestatic idx => match q_m mid idx, st with
    | some (_, 9), .inl n :: .inl dp :: .inr (.inr (some a)) :: .inl sp :: .inr (.inr (some a0)) :: r =>
      if 8 ≤ a ∧ a < mnx w ∧ (msh w a).1 = 100 ∧ 8 ≤ a0 ∧ a0 < mnx w ∧ (msh w a0).1 = 100 ∧ ¬ sp < 0 ∧ ¬ dp < 0 ∧ ¬ n < 0 ∧ sp.toNatClampNeg + n.toNatClampNeg ≤ (msh w a0).2 ∧ dp.toNatClampNeg + n.toNatClampNeg ≤ (msh w a).2 ∧ m_cats r ≤ 8 then
        some (r, m_cp w a0 a sp.toNatClampNeg dp.toNatClampNeg n.toNatClampNeg) else none
    | _, _ => none
  | _ => none
/-- a call: the method, its arguments, what is left on the stack -/
def m_call (mid : Nat) (i : Instr) (st : List MV) (w : MWd) : Option (Nat × List MV × List MV) := match i with
  | .invokestatic idx => match q_m mid idx with
    | some (cm, kd) => if (kd = 1 ∨ kd = 3 ∨ kd = 7) ∧ q_np cm ≤ st.length ∧ m_cats (st.drop (q_np cm)) ≤ 8 ∧ m_cats ((st.take (q_np cm)).reverse) ≤ q_nl cm then some (cm, (st.take (q_np cm)).reverse, st.drop (q_np cm)) else none
    | none => none
  | .invokevirtual idx => match q_m mid idx with
    | some (cm, kd) => match st.drop (q_np cm) with
      | .inr (.inr (some a)) :: r => if kd = 0 ∧ q_np cm ≤ st.length ∧ m_cats r ≤ 8 ∧ m_cats (.inr (.inr (some a)) :: (st.take (q_np cm)).reverse) ≤ q_nl cm ∧ 8 ≤ a ∧ a < mnx w ∧ (msh w a).1 < 100 ∧ q_rc cm = some (msh w a).1 then some (cm, .inr (.inr (some a)) :: (st.take (q_np cm)).reverse, r) else none
      | _ => none
    | none => none
  | .invokespecial idx => match q_m mid idx with
    | some (cm, kd) => match st.drop (q_np cm) with
      | .inr (.inr (some a)) :: r => if (kd = 2 ∨ kd = 6) ∧ q_np cm ≤ st.length ∧ m_cats r ≤ 8 ∧ m_cats (.inr (.inr (some a)) :: (st.take (q_np cm)).reverse) ≤ q_nl cm then some (cm, .inr (.inr (some a)) :: (st.take (q_np cm)).reverse, r) else none
      | _ => none
    | none => none
  | _ => none
def m_drop (L : ML) (k : Nat) : ML := L.filter (fun q => !(q.1 == k) && !(q.1 + 1 == k && m_isL q.2))
/-- THE SMALL MACHINE: n steps at most, calls d deep -/
def m_run (ro : MRo) : Nat → Nat → Nat → Nat → ML → List MV → MWd → Option (MOut × MWd)
  | 0, _, _, _, _, _, _ => none
  | n + 1, d, mid, pc, L, st, w => match q_th mid pc with
    | some E => if 10 ≤ d ∧ st = [] then some (.inr E, m_thr w) else none
    | none => match q_i mid pc with
      | none => none
      | some i => match m_pure i pc (q_nl mid) L st with
        | some r => m_run ro n d mid r.1 r.2.1 r.2.2 w
        | none => match m_heap ro mid i st w with
          | some r => m_run ro n d mid (pc + m_len i) L r.1 r.2
          | none => match m_new mid i st w with
            | some r => m_run ro n d mid (pc + m_len i) L r.1 r.2
            | none => match m_ret mid i st with
              | some v => some (.inl v, w)
              | none => match m_obj mid i st with
                | some st' => if d = 0 then none else m_run ro n d mid (pc + 3) L st' w
                | none => match m_con mid i with
                  | some v => m_run ro n d mid (pc + m_len i) L (v :: st) w
                  | none => match m_cpy mid i st w with
                    | some r => if d = 0 then none else m_run ro n d mid (pc + 3) L r.1 r.2
                    | none => match m_call mid i st w with
                      | none => none
                      | some z => match d with
                        | 0 => none
                        | d' + 1 => match m_run ro n d' z.1 0 (m_ent 0 z.2.1) [] w with
                          | none => none
                          | some (.inl v, w1) => m_run ro n (d' + 1) mid (pc + 3) L (v.toList ++ z.2.2) w1
                          | some (.inr E, w1) => match q_h mid pc E with
                            | none => none
                            | some hh => m_run ro n (d' + 1) mid hh.1 (m_drop L hh.2) [] w1
/-- what grows: the numbers, the cells (no slower than the numbers), the slots -/
def m_gr (w w' : MWd) : Prop := mnx w ≤ mnx w' ∧ mnx w' + mcx w ≤ mnx w + mcx w' ∧ mcx w ≤ mcx w' ∧ msl w ≤ msl w'
theorem m_gr_rf (w : MWd) : m_gr w w := ⟨Nat.le_refl _, Nat.le_refl _, Nat.le_refl _, Nat.le_refl _⟩
theorem m_gr_tr {w w1 w2 : MWd} (h : m_gr w w1) (k : m_gr w1 w2) : m_gr w w2 := by
  obtain ⟨a1, a2, a3, a4⟩ := h
  obtain ⟨b1, b2, b3, b4⟩ := k
  exact ⟨by omega, by omega, by omega, by omega⟩
theorem m_heap_gr {ro : MRo} {mid : Nat} {i : Instr} {st : List MV} {w : MWd} {r : List MV × MWd} (h : m_heap ro mid i st w = some r) : m_gr w r.2 := by
  unfold m_heap at h
  repeat' split at h
  all_goals (first | (cases h; exact m_gr_rf _) | cases h)
theorem m_mk_gr (w : MWd) (k : Nat × Nat) (f : Nat → MV) : m_gr w (m_mk w k f) := ⟨Nat.le_succ _, by show w.1 + 1 + w.2.1 ≤ w.1 + (w.2.1 + 1); omega, Nat.le_succ _, Nat.le_add_right _ _⟩
theorem m_new_gr {mid : Nat} {i : Instr} {st : List MV} {w : MWd} {r : List MV × MWd} (h : m_new mid i st w = some r) : m_gr w r.2 := by
  unfold m_new at h
  repeat' split at h
  all_goals (first | (cases h; exact m_mk_gr _ _ _) | cases h)
theorem m_cpy_same {mid : Nat} {i : Instr} {st : List MV} {w : MWd} {r : List MV × MWd} (h : m_cpy mid i st w = some r) : mnx r.2 = mnx w ∧ mcx r.2 = mcx w ∧ msl r.2 = msl w := by
  unfold m_cpy at h
  repeat' split at h
  all_goals (first | (cases h; exact ⟨rfl, rfl, rfl⟩) | cases h)
theorem m_cpy_gr {mid : Nat} {i : Instr} {st : List MV} {w : MWd} {r : List MV × MWd} (h : m_cpy mid i st w = some r) : m_gr w r.2 := by
  obtain ⟨h1, h2, h3⟩ := m_cpy_same h
  exact ⟨by omega, by omega, by omega, by omega⟩
theorem m_run_gr (ro : MRo) : ∀ (n d mid pc : Nat) (L : ML) (st : List MV) (w : MWd) (r : MOut × MWd), m_run ro n d mid pc L st w = some r → m_gr w r.2 := by
  intro n
  induction n with
  | zero => intro d mid pc L st w r h; cases h
  | succ n ih =>
    intro d mid pc L st w r h
    unfold m_run at h
    split at h
    · split at h
      · cases h
        exact ⟨Nat.le_refl _, by show w.1 + w.2.1 ≤ w.1 + (w.2.1 + 1); omega, Nat.le_succ _, Nat.le_add_right _ _⟩
      · cases h
    split at h
    · cases h
    split at h
    · exact ih _ _ _ _ _ _ _ h
    split at h
    · rename_i h1
      exact m_gr_tr (m_heap_gr h1) (ih _ _ _ _ _ _ _ h)
    split at h
    · rename_i h1
      exact m_gr_tr (m_new_gr h1) (ih _ _ _ _ _ _ _ h)
    split at h
    · cases h; exact m_gr_rf _
    split at h
    · split at h
      · cases h
      · exact ih _ _ _ _ _ _ _ h
    split at h
    · exact ih _ _ _ _ _ _ _ h
    split at h
    · rename_i h1
      split at h
      · cases h
      · exact m_gr_tr (m_cpy_gr h1) (ih _ _ _ _ _ _ _ h)
    split at h
    · cases h
    split at h
    · cases h
    split at h
    · cases h
    · rename_i h1
      exact m_gr_tr (ih _ _ _ _ _ _ _ h1) (ih _ _ _ _ _ _ _ h)
    · rename_i h1
      split at h
      · cases h
      · exact m_gr_tr (ih _ _ _ _ _ _ _ h1) (ih _ _ _ _ _ _ _ h)
end
section
section MMAKE
variable {p : Program} {l : Launch} {e : Env} {R : Room} {s : State} {m : MethodId} {args : Array Value} {below : List Frame} {meth : Method} {c : Code} {H : Heap} {locs : List Loc} {cells slots : Nat} {Q : State → Prop} {cc : ByteArray} {pc : Nat} {ls : Array Slot}
variable {base : Nat} {roa : Nat → Nat} {ro : MRo} {tA : Nat → ClassId} {D : va_G} {tys : List (ClassId × FieldType)}
/-- the heap is no longer than what was made allows -/
theorem m_le {g : JFrame} (k : H.size ≤ s.heap.size + cells → W p l e R s m args below meth c H locs cells slots Q g) : W p l e R s m args below meth c H locs cells slots Q g := fun T hT X => k (by rw [← hT]; exact X.heapSize) T hT X
theorem m_ge {w : MWd} (hP : va_P D vwCl (m_ws base roa tA w) H) (hb : base ≤ H.size) : base + (mnx w - 8) ≤ H.size := by
  by_cases h : mnx w ≤ 8
  · omega
  · have h1 := hP _ _ (m_ws_at (base := base) (roa := roa) (tA := tA) (w := w) (a := mnx w - 1) (by omega) (by omega))
    have h2 := h1.lt
    rw [m_ad_hi (by omega)] at h2
    have h3 : base + (mnx w - 1 - 8) < H.size := h2
    omega
theorem m_ws_mk {w : MWd} {k : Nat × Nat} {f : Nat → MV} (h8 : 8 ≤ mnx w) : m_ws base roa tA (m_mk w k f) = m_ws base roa tA w ++ [(base + (mnx w - 8), m_cell (m_ad base roa) tA k f)] := by
  have e1 : mnx (m_mk w k f) - 8 = (mnx w - 8) + 1 := by show w.1 + 1 - 8 = w.1 - 8 + 1; have : 8 ≤ w.1 := h8; omega
  unfold m_ws
  rw [e1, List.range_succ, List.map_append]
  congr 1
  · apply List.map_congr_left
    intro x hx
    have hx2 : x < mnx w - 8 := List.mem_range.mp hx
    have n1 : ¬ x + 8 = w.1 := by have : x < w.1 - 8 := hx2; omega
    show (base + x, m_cell _ tA (if x + 8 = w.1 then k else msh w (x + 8)) (if x + 8 = w.1 then f else mmm w (x + 8))) = _
    rw [if_neg n1, if_neg n1]
  · have n1 : mnx w - 8 + 8 = w.1 := by have : 8 ≤ w.1 := h8; show w.1 - 8 + 8 = w.1; omega
    show [(base + (mnx w - 8), m_cell _ tA (if mnx w - 8 + 8 = w.1 then k else _) (if mnx w - 8 + 8 = w.1 then f else _))] = _
    rw [if_pos n1, if_pos n1]
theorem m_grow {w : MWd} {k : Nat × Nat} {f : Nat → MV} {H1 : Heap} (h8 : 8 ≤ mnx w) (hP : va_P D vwCl (m_ws base roa tA w) H) (o1 : ∀ q, q < H.size → H1[q]? = H[q]?) (hn : va_at D vwCl (base + (mnx w - 8), m_cell (m_ad base roa) tA k f) H1) : va_P D vwCl (m_ws base roa tA (m_mk w k f)) H1 := by
  rw [m_ws_mk h8]
  refine (hP.kept (fun q x hx => o1 x.1 ((hP q x hx).lt))).app (fun q x hx => ?_)
  have hz : q < 1 := (List.getElem?_eq_some_iff.mp hx).1
  rw [show q = 0 by omega] at hx
  cases hx
  exact hn
theorem m_S_grow {A : Nat → Prop} {H0 H1 : Heap} (hS : va_S A H0 H locs) (z : H1.size = H.size + 1) (o1 : ∀ q, q < H.size → H1[q]? = H[q]?) : va_S A H0 H1 locs :=
  ⟨Nat.le_trans hS.1 (by omega), fun x h1 h2 => (o1 x (Nat.lt_of_lt_of_le h1 hS.1)).trans (hS.2.1 x h1 h2), hS.2.2⟩
theorem m_def_val (ad : Nat → Nat) {d : String} {ty : FieldType} (h : parseFieldDescriptor d = some ty) (hf : q_tyok ty = true) : defaultValue ty = m_val ad (m_def ty) := by
  cases ty <;> first | rfl | (exact absurd hf (by simp [q_tyok]))
set_option maxHeartbeats 4000000 in
theorem m_new_W (hx : p.tables.exec = Jvm.exec) (hb : c.code = cc) {mid : Nat} (hown : s.vm.findClass (q_y mid).cls = some m.cls) (hts : ∀ w ∈ q_W, w.before args s = true)
    (hK : va_K D vwCl tys s) (hA : m_tys tA tys) (hAO : ∀ (ci : Nat) (C : String) (T : u_T) (N : Nat), q_ra ci = true → vwCl[ci]? = some (C, T, N) → va_AO C s)
    {i : Instr} {len : Nat} {st st' : List MV} {w w' : MWd} (h : m_new mid i st w = some (st', w')) (hd : decode cc pc = .ok (i, len)) (hn : m_len i = len ∨ m_len i = 0)
    (hP : va_P D vwCl (m_ws base roa tA w) H) (hS : va_S (fun q => base ≤ q) s.heap H locs) (h8 : 8 ≤ mnx w) (hbs : base ≤ s.heap.size) (hfr : mcx w + 8 = mnx w → s.heap.size + cells ≤ base + mcx w)
    (hcells : cells + (mcx w' - mcx w) ≤ R.cells) (hslots : slots + (msl w' - msl w) ≤ R.slots)
    (k : ∀ H1 : Heap, va_P D vwCl (m_ws base roa tA w') H1 → va_S (fun q => base ≤ q) s.heap H1 locs → W p l e R s m args below meth c H1 locs (cells + (mcx w' - mcx w)) (slots + (msl w' - msl w)) Q (F0 m (pc + len) ls (st'.map (m_val (m_ad base roa))))) :
    W p l e R s m args below meth c H locs cells slots Q (F0 m pc ls (st.map (m_val (m_ad base roa)))) := by
  have hd1 : m_len i ≠ 0 → decode cc pc = .ok (i, m_len i) ∧ len = m_len i := fun h0 => by rw [hn.resolve_right h0]; exact ⟨hd, rfl⟩
  refine m_le fun hle => ?_
  unfold m_new at h
  split at h
  rotate_left
  · cases h
  rename_i hfresh
  have hsz : H.size = base + (mnx w - 8) := by
    have h1 := m_ge hP (Nat.le_trans hbs hS.1)
    have h2 := hfr hfresh
    omega
  have had : m_ad base roa (mnx w) = H.size := by rw [m_ad_hi h8, hsz]
  have ec : ∀ (kk : Nat × Nat) (f : Nat → MV), mcx (m_mk w kk f) - mcx w = 1 := fun kk f => by show w.2.1 + 1 - w.2.1 = 1; omega
  have es : ∀ (kk : Nat × Nat) (f : Nat → MV), msl (m_mk w kk f) - msl w = kk.2 := fun kk f => by show w.2.2.1 + kk.2 - w.2.2.1 = kk.2; omega
  cases i
  case new idx =>
    obtain ⟨hd2, rfl⟩ := hd1 (by simp [m_len])
    dsimp only at h
    split at h
    · rename_i ci hq
      cases h
      obtain ⟨C, T, N, hcl, hl1, hl2, hl3⟩ := q_c_ok hq
      obtain ⟨h100, hN, hws, hty, hnm, hdf⟩ := q_cl_ok hcl
      have hKn := hK.1 ci _ hcl
      rw [ec] at hcells; rw [es] at hslots; rw [ec, es] at k
      subst hN
      refine W.newcK hx hb hown (hts _ hl1) (hts _ hl2) (hts _ hl3) rfl hd2 (by omega) (by omega) hKn.2.1 rfl fun H1 kC hkC e1 z1 o1 => ?_
      have hk := k H1 (m_grow h8 hP o1 (by
        rw [m_fld_cell h100]
        refine ⟨_, hcl, (u_born (q_ty ci) hts hws hKn hkC (by rw [← hsz]; exact e1) hty).to (fun j hj => ?_)⟩
        show _ = vp_V _ j
        unfold vp_V
        rw [List.getD_eq_getElem?_getD, m_fld_at hj]
        exact m_def_val (m_ad base roa) (hty j hj) (hdf j hj))) (m_S_grow hS z1 o1)
      rw [List.map_cons] at hk
      show W _ _ _ _ _ _ _ _ _ _ _ _ _ _ _ (F0 m (pc + 3) ls (.ref H.size :: _))
      rw [← had]
      exact hk
    · cases h
  case newarray t =>
    obtain ⟨hd2, rfl⟩ := hd1 (by simp [m_len])
    dsimp only at h
    split at h
    · rename_i n r
      split at h
      · rename_i hc
        obtain ⟨hc1, hc2⟩ := hc
        split at h
        · cases h
          rw [ec] at hcells; rw [es] at hslots; rw [ec, es] at k
          refine va_newaK hx hb (atype := .int) (hts _ q_ai_ok.1) rfl hd2 rfl hc1 rfl (by show n.toNatClampNeg * 4 ≤ _; omega) (by omega) hslots rfl fun H1 cA e1 z1 o1 hAr hNm => ?_
          have hcA : cA = tA 100 := Option.some.inj (hNm.symm.trans (hK.2 0 _ hA.1).2)
          subst hcA
          have hk := k H1 (m_grow h8 hP o1 (by
            rw [m_cell_i rfl]
            show H1[base + (mnx w - 8)]? = some (vp_cell _ _)
            rw [← hsz, vp_cell_i]
            exact e1)) (m_S_grow hS z1 o1)
          rw [List.map_cons] at hk
          show W _ _ _ _ _ _ _ _ _ _ _ _ _ _ _ (F0 m (pc + 2) ls (.ref H.size :: _))
          rw [← had]
          exact hk
        · cases h
          rw [ec] at hcells; rw [es] at hslots; rw [ec, es] at k
          refine va_newaK hx hb (atype := .long) (hts _ q_ai_ok.2) rfl hd2 rfl hc1 rfl (by show n.toNatClampNeg * 8 ≤ _; omega) (by omega) hslots rfl fun H1 cA e1 z1 o1 hAr hNm => ?_
          have hcA : cA = tA 101 := Option.some.inj (hNm.symm.trans (hK.2 1 _ hA.2.1).2)
          subst hcA
          have hk := k H1 (m_grow h8 hP o1 (by
            rw [m_cell_l rfl]
            show H1[base + (mnx w - 8)]? = some (vp_cell _ _)
            rw [← hsz, vp_cell_l]
            exact e1)) (m_S_grow hS z1 o1)
          rw [List.map_cons] at hk
          show W _ _ _ _ _ _ _ _ _ _ _ _ _ _ _ (F0 m (pc + 2) ls (.ref H.size :: _))
          rw [← had]
          exact hk
        · cases h
      · cases h
    · cases h
  case anewarray idx =>
    obtain ⟨hd2, rfl⟩ := hd1 (by simp [m_len])
    dsimp only at h
    split at h
    · rename_i n r
      split at h
      · rename_i hc
        obtain ⟨hc1, hc2⟩ := hc
        split at h
        · rename_i ci hq
          cases h
          obtain ⟨hra, C, T, N, hcl, hl1⟩ := q_ca_ok hq
          rw [ec] at hcells; rw [es] at hslots; rw [ec, es] at k
          refine W.anew hx hb hown (hts _ hl1) (va_AO.use (hAO ci C T N hra hcl)) rfl hd2 rfl hc1 (by omega) (by omega) hslots fun cA kA comp f1 f2 f3 f4 => ?_
          obtain ⟨t0, C', T', N', hcl', ht0⟩ := hA.2.2 _ hra
          rw [hcl] at hcl'
          cases hcl'
          obtain ⟨-, kA', comp', g1, g2, g3, g4⟩ := hK.2 t0 _ ht0
          have hcA : cA = tA (102 + ci) := Option.some.inj (f1.symm.trans g4)
          generalize hH1 : H.push ({ cls := cA, slots := Array.replicate n.toNatClampNeg .null, vm := .none } : Cell) = H1
          have z1 : H1.size = H.size + 1 := by rw [← hH1, Array.size_push]
          have e1 : H1[H.size]? = some (arrV cA n.toNatClampNeg (fun _ => .null)) := by rw [← hH1, Array.getElem?_push_size, ← arrV_new]
          have o1 : ∀ q : Nat, q < H.size → H1[q]? = H[q]? := fun q hq => by rw [← hH1, Array.getElem?_push, if_neg (Nat.ne_of_lt hq)]
          subst hcA
          have hk := k H1 (m_grow h8 hP o1 (by
            rw [m_cell_q (by show 102 ≤ 102 + ci; omega)]
            show H1[base + (mnx w - 8)]? = some (vp_cell _ _)
            rw [← hsz, vp_cell_q]
            show _ = some (arrV (tA (102 + (102 + ci - 102))) _ _)
            rw [show 102 + (102 + ci - 102) = 102 + ci by omega]
            exact e1)) (m_S_grow hS z1 o1)
          rw [List.map_cons] at hk
          show W _ _ _ _ _ _ _ _ _ _ _ _ _ _ _ (F0 m (pc + 3) ls (.ref H.size :: _))
          rw [← had]
          exact hk
        · cases h
      · cases h
    · cases h
  all_goals (exact absurd h (by simp))
theorem m_ws_cp {w : MWd} {a0 a sp dp n : Nat} {cl : va_E} (h8 : 8 ≤ a) (hn : a < mnx w) (hc : cl = m_cell (m_ad base roa) tA (msh w a) (mmm (m_cp w a0 a sp dp n) a)) : (m_ws base roa tA w).set (a - 8) (m_ad base roa a, cl) = m_ws base roa tA (m_cp w a0 a sp dp n) := by
  subst hc
  apply List.ext_getElem?
  intro k
  by_cases hk : k = a - 8
  · subst hk
    rw [List.getElem?_set_self (by unfold m_ws; simp; omega)]
    exact (m_ws_at (w := m_cp w a0 a sp dp n) h8 hn).symm
  · rw [List.getElem?_set_ne (Ne.symm hk)]
    by_cases hk2 : k < mnx w - 8
    · have e1 : mmm (m_cp w a0 a sp dp n) (k + 8) = mmm w (k + 8) := if_neg (by omega)
      unfold m_ws
      rw [List.getElem?_map, List.getElem?_map, List.getElem?_range hk2, List.getElem?_range (show k < mnx (m_cp w a0 a sp dp n) - 8 from hk2)]
      simp only [Option.map_some, e1]
      rfl
    · rw [List.getElem?_eq_none (by unfold m_ws; simp; omega), List.getElem?_eq_none (by unfold m_ws; have e9 : mnx (m_cp w a0 a sp dp n) = mnx w := rfl; simp; omega)]
theorem m_cpy_W (hx : p.tables.exec = Jvm.exec) (hb : c.code = cc) (hml : c.maxLocals = ls.size) {mid : Nat} (hown : s.vm.findClass (q_y mid).cls = some m.cls) (hts : ∀ w ∈ q_W, w.before args s = true)
    (hK : va_K D vwCl tys s) (hA : m_tys tA tys) {i : Instr} {len : Nat} {st : List MV} {w : MWd} {r : List MV × MWd} (h : m_cpy mid i st w = some r) (hd : decode cc pc = .ok (i, len)) (hn : m_len i = len ∨ m_len i = 0)
    (hP : va_P D vwCl (m_ws base roa tA w) H) (hS : va_S (fun q => base ≤ q) s.heap H locs) (hfr : 1 ≤ R.frames) (hlo : 64 ≤ R.locals)
    (k : ∀ (H1 : Heap) (locs1 : List Loc), va_P D vwCl (m_ws base roa tA r.2) H1 → va_S (fun q => base ≤ q) s.heap H1 locs1 → W p l e R s m args below meth c H1 locs1 cells slots Q (F0 m (pc + 3) ls (r.1.map (m_val (m_ad base roa))))) :
    W p l e R s m args below meth c H locs cells slots Q (F0 m pc ls (st.map (m_val (m_ad base roa)))) := by
  have hd1 : m_len i ≠ 0 → decode cc pc = .ok (i, m_len i) := fun h0 => by rw [hn.resolve_right h0]; exact hd
  unfold m_cpy at h
  split at h
  · split at h
    · rename_i idx cm n dp a sp a0 rr hq
      split at h
      · rename_i hc
        obtain ⟨h8, hlt, hki, h80, hlt0, hki0, hs0, hd0, hn0, hb1, hb2, hcat⟩ := hc
        cases h
        obtain ⟨g1, g2, g3, g4⟩ := q_m9 hq
        have he := m_ws_at (base := base) (roa := roa) (tA := tA) h8 hlt
        rw [m_cell_i hki] at he
        have he0 := m_ws_at (base := base) (roa := roa) (tA := tA) h80 hlt0
        rw [m_cell_i hki0] at he0
        have hlr : ((rr.map (m_val (m_ad base roa))).map fun v => v.category).sum + (nativeFrameWords "java/lang/System" "arraycopy" 5 + 11) ≤ R.locals := by
          rw [m_cats_val, show nativeFrameWords "java/lang/System" "arraycopy" 5 = 7 by decide +kernel]; omega
        refine va_copyi hx hb hml hown (hts _ g1) (hts _ g2) (hts _ g3) (hts _ g4) hK hP m_ws_D hS (a0 - 8) (a - 8) 0 0 he0 he hA.1 hA.1 rfl hs0 hd0 hn0 hb1 hb2 (fun _ _ => rfl) hfr hlr (hd1 (by simp [m_len])) (fun H1 locs1 hP1 hD1 hS1 => ?_)
        rw [m_ws_cp (a0 := a0) (sp := sp.toNatClampNeg) (dp := dp.toNatClampNeg) (n := n.toNatClampNeg) h8 hlt (by
          rw [m_cell_i hki]
          congr 4
          funext q
          show va_cpy _ _ _ _ _ q = m_int (mmm (m_cp _ _ _ _ _ _) a q)
          unfold va_cpy mmm m_cp
          dsimp only
          rw [if_pos rfl]
          by_cases hq2 : dp.toNatClampNeg ≤ q ∧ q < dp.toNatClampNeg + n.toNatClampNeg
          · rw [if_pos hq2, if_pos hq2]; rfl
          · rw [if_neg hq2, if_neg hq2])] at hP1
        exact k H1 locs1 hP1 hS1
      · cases h
    · cases h
  · cases h
theorem m_ret_W {Qc : Array Value → State → Outcome → State → Prop} {free : Addr → Prop} {ad : Nat → Nat} (hx : p.tables.exec = Jvm.exec) (hb : c.code = cc) {mid : Nat} (hr : meth.sig.returnType = q_rt mid) (hlocks : meth.locks = false) {i : Instr} {len : Nat} {st : List MV} {v : Option MV} (h : m_ret mid i st = some v) (hd : decode cc pc = .ok (i, len)) (hn : m_len i = len ∨ m_len i = 0)
    (hq : ∀ t : State, t.heap = H → s.WarmedH t.vm → Qc args s (.returned (v.map (m_val ad))) t) (hf : ∀ q ∈ locs, free q.base) : W p l e R s m args below meth c H locs cells slots (MQ below Qc args s cells slots free) (F0 m pc ls (st.map (m_val ad))) := by
  have hd1 : m_len i ≠ 0 → decode cc pc = .ok (i, m_len i) := fun h0 => by rw [hn.resolve_right h0]; exact hd
  unfold m_ret at h
  split at h
  · split at h
    · rename_i hrt
      cases h
      exact W.vret hx hb (hr.trans hrt) hq hf (hd1 (by simp [m_len]))
    · cases h
  · split at h
    · rename_i x hrt
      cases h
      exact W.iret hx hb (hr.trans hrt) hq hf (hd1 (by simp [m_len]))
    · rename_i x hrt
      split at h
      · rename_i h01
        cases h
        exact W.zret hx hb (hr.trans hrt) (by rcases h01 with rfl | rfl <;> rfl) hq hf (hd1 (by simp [m_len]))
      · cases h
    · cases h
  · split at h
    · rename_i x hrt
      cases h
      exact W.lret hx hb (hr.trans hrt) hq hf (hd1 (by simp [m_len]))
    · cases h
  · split at h
    · rename_i x n hrt
      cases h
      refine W.aret hx hb (hr.trans hrt) (Or.inl ⟨_, rfl⟩) ?_ hq hf (hd1 (by simp [m_len]))
      rcases x with _ | x
      · exact Or.inl rfl
      · exact Or.inr ⟨_, rfl⟩
    · rename_i x n hrt
      cases h
      refine W.aret hx hb (hr.trans hrt) (Or.inr ⟨_, rfl⟩) ?_ hq hf (hd1 (by simp [m_len]))
      rcases x with _ | x
      · exact Or.inl rfl
      · exact Or.inr ⟨_, rfl⟩
    · cases h
  · cases h
end MMAKE
end
