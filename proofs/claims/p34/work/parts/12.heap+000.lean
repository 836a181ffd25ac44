def m_ad (base : Nat) (roa : Nat → Nat) : Nat → Nat := fun id => if id < 8 then roa id else base + (id - 8)
theorem m_ad_hi {base : Nat} {roa : Nat → Nat} {a : Nat} (h : 8 ≤ a) : m_ad base roa a = base + (a - 8) := if_neg (by omega)
theorem m_ad_lo {base : Nat} {roa : Nat → Nat} {a : Nat} (h : a < 8) : m_ad base roa a = roa a := if_pos h
/-- how a cell of the small machine lies in the heap: kinds below 100 are objects of the classes, 100 ints, 101 longs, from 102 on arrays of objects -/
def m_cell (ad : Nat → Nat) (tA : Nat → ClassId) (k : Nat × Nat) (f : Nat → MV) : va_E :=
  if k.1 < 100 then .inr (k.1, (List.range k.2).map (fun j => m_val ad (f j)))
  else .inl (tA k.1, k.2, if k.1 = 100 then .inl (fun j => m_int (f j)) else if k.1 = 101 then .inr (.inl (fun j => m_lng (f j))) else .inr (.inr (.inr (.inr (fun j => (m_ref (f j)).map ad)))))
abbrev mnx (w : MWd) : Nat := w.1
abbrev mcx (w : MWd) : Nat := w.2.1
abbrev msl (w : MWd) : Nat := w.2.2.1
abbrev msh (w : MWd) : Nat → Nat × Nat := w.2.2.2.1
abbrev mmm (w : MWd) : Nat → Nat → MV := w.2.2.2.2
def m_up (M : Nat → Nat → MV) (a j : Nat) (v : MV) : Nat → Nat → MV := fun k => if k = a then (fun i => if i = j then v else M a i) else M k
def m_wr (w : MWd) (a j : Nat) (v : MV) : MWd := (w.1, w.2.1, w.2.2.1, w.2.2.2.1, m_up w.2.2.2.2 a j v)
def m_ws (base : Nat) (roa : Nat → Nat) (tA : Nat → ClassId) (w : MWd) : va_W := (List.range (mnx w - 8)).map (fun k => (base + k, m_cell (m_ad base roa) tA (msh w (k + 8)) (mmm w (k + 8))))
theorem m_ws_at {base : Nat} {roa : Nat → Nat} {tA : Nat → ClassId} {w : MWd} {a : Nat} (h8 : 8 ≤ a) (hn : a < mnx w) : (m_ws base roa tA w)[a - 8]? = some (m_ad base roa a, m_cell (m_ad base roa) tA (msh w a) (mmm w a)) := by
  unfold m_ws
  rw [List.getElem?_map, List.getElem?_range (by omega : a - 8 < mnx w - 8)]
  simp only [Option.map_some, m_ad_hi h8]
  rw [show a - 8 + 8 = a by omega]
theorem m_ws_set {base : Nat} {roa : Nat → Nat} {tA : Nat → ClassId} {w : MWd} {a j : Nat} {v : MV} {cl : va_E} (h8 : 8 ≤ a) (hn : a < mnx w) (hc : cl = m_cell (m_ad base roa) tA (msh w a) (mmm (m_wr w a j v) a)) : (m_ws base roa tA w).set (a - 8) (m_ad base roa a, cl) = m_ws base roa tA (m_wr w a j v) := by
  subst hc
  apply List.ext_getElem?
  intro k
  by_cases hk : k = a - 8
  · subst hk
    rw [List.getElem?_set_self (by unfold m_ws; simp; omega)]
    exact (m_ws_at (w := m_wr w a j v) h8 hn).symm
  · rw [List.getElem?_set_ne (Ne.symm hk)]
    by_cases hk2 : k < mnx w - 8
    · have e1 : mmm (m_wr w a j v) (k + 8) = mmm w (k + 8) := if_neg (by omega)
      unfold m_ws
      rw [List.getElem?_map, List.getElem?_map, List.getElem?_range hk2, List.getElem?_range (show k < mnx (m_wr w a j v) - 8 from hk2)]
      simp only [Option.map_some, e1]
      rfl
    · rw [List.getElem?_eq_none (by unfold m_ws; simp; omega), List.getElem?_eq_none (by unfold m_ws; have e9 : mnx (m_wr w a j v) = mnx w := rfl; simp; omega)]
theorem m_ws_D {base : Nat} {roa : Nat → Nat} {tA : Nat → ClassId} {w : MWd} : va_D (fun q => base ≤ q) (m_ws base roa tA w) := by
  have key : ∀ (i : Nat) (p : Nat × va_E), (m_ws base roa tA w)[i]? = some p → p.1 = base + i := by
    intro i p hp
    unfold m_ws at hp
    rw [List.getElem?_map] at hp
    by_cases hi : i < mnx w - 8
    · rw [List.getElem?_range hi] at hp
      cases hp
      rfl
    · rw [List.getElem?_eq_none (by simp; omega)] at hp
      cases hp
  exact ⟨fun i j p q hp hq e => by have h1 := key i p hp; have h2 := key j q hq; omega, fun k q hq => by have h1 := key k q hq; show base ≤ q.1; omega⟩
/-- whether a value may lie in a field of this type -/
def m_fit (ty : FieldType) (v : MV) : Bool := match ty with
  | .int => m_isI v
  | .boolean => m_isI v && (m_int v == 0 || m_int v == 1)
  | .long => m_isL v
  | .object _ => m_isR v
  | .array _ => m_isR v
  | _ => false
theorem m_fit_ok {ad : Nat → Nat} {ty : FieldType} {v : MV} (h : m_fit ty v = true) : narrow ty (m_val ad v) = m_val ad v ∧ fits ty (m_val ad v) = true := by
  unfold m_fit at h
  split at h
  · obtain ⟨x, rfl⟩ := m_isI_ok h; exact ⟨rfl, rfl⟩
  · rw [Bool.and_eq_true] at h
    obtain ⟨x, rfl⟩ := m_isI_ok h.1
    have h2 := h.2
    simp only [m_int, Bool.or_eq_true, beq_iff_eq] at h2
    rcases h2 with rfl | rfl
    · exact ⟨rfl, rfl⟩
    · exact ⟨rfl, rfl⟩
  · obtain ⟨x, rfl⟩ := m_isL_ok h; exact ⟨rfl, rfl⟩
  · rcases m_isR_ok h with rfl | ⟨k, rfl⟩ <;> exact ⟨rfl, rfl⟩
  · rcases m_isR_ok h with rfl | ⟨k, rfl⟩ <;> exact ⟨rfl, rfl⟩
  · cases h
abbrev MRo : Type := Nat → Option (Nat × (Nat → Int32))
/-- what reads and writes the heap -/
def m_heap (ro : MRo) (mid : Nat) (i : Instr) (st : List MV) (w : MWd) : Option (List MV × MWd) := match i with
  | .getfield idx => match q_f mid idx, st with
    | some (ci, k), .inr (.inr (some a)) :: r => if 8 ≤ a ∧ a < mnx w ∧ msh w a = (ci, q_nf ci) then some (mmm w a k :: r, w) else none
    | _, _ => none
  | .putfield idx => match q_f mid idx, st with
    | some (ci, k), v :: .inr (.inr (some a)) :: r => if 8 ≤ a ∧ a < mnx w ∧ msh w a = (ci, q_nf ci) ∧ q_pf mid idx = true ∧ m_fit (q_ty ci k) v = true then some (r, m_wr w a k v) else none
    | _, _ => none
  | .iaload => match st with
    | .inl j :: .inr (.inr (some a)) :: r => if a < 8 then match ro a with
        | some (n, f) => if ¬ j < 0 ∧ j.toNatClampNeg < n then some (.inl (f j.toNatClampNeg) :: r, w) else none
        | none => none
      else if a < mnx w ∧ (msh w a).1 = 100 ∧ ¬ j < 0 ∧ j.toNatClampNeg < (msh w a).2 then some (.inl (m_int (mmm w a j.toNatClampNeg)) :: r, w) else none
    | _ => none
  | .iastore => match st with
    | .inl x :: .inl j :: .inr (.inr (some a)) :: r => if 8 ≤ a ∧ a < mnx w ∧ (msh w a).1 = 100 ∧ ¬ j < 0 ∧ j.toNatClampNeg < (msh w a).2 then some (r, m_wr w a j.toNatClampNeg (.inl x)) else none
    | _ => none
  | .laload => match st with
    | .inl j :: .inr (.inr (some a)) :: r => if 8 ≤ a ∧ a < mnx w ∧ (msh w a).1 = 101 ∧ ¬ j < 0 ∧ j.toNatClampNeg < (msh w a).2 then some (.inr (.inl (m_lng (mmm w a j.toNatClampNeg))) :: r, w) else none
    | _ => none
  | .lastore => match st with
    | .inr (.inl x) :: .inl j :: .inr (.inr (some a)) :: r => if 8 ≤ a ∧ a < mnx w ∧ (msh w a).1 = 101 ∧ ¬ j < 0 ∧ j.toNatClampNeg < (msh w a).2 then some (r, m_wr w a j.toNatClampNeg (.inr (.inl x))) else none
    | _ => none
  | .aaload => match st with
    | .inl j :: .inr (.inr (some a)) :: r => if 8 ≤ a ∧ a < mnx w ∧ 102 ≤ (msh w a).1 ∧ q_ra ((msh w a).1 - 102) = true ∧ ¬ j < 0 ∧ j.toNatClampNeg < (msh w a).2 then some (.inr (.inr (m_ref (mmm w a j.toNatClampNeg))) :: r, w) else none
    | _ => none
  | .aastore => match st with
    | .inr (.inr (some b)) :: .inl j :: .inr (.inr (some a)) :: r => if 8 ≤ a ∧ a < mnx w ∧ 102 ≤ (msh w a).1 ∧ q_ra ((msh w a).1 - 102) = true ∧ ¬ j < 0 ∧ j.toNatClampNeg < (msh w a).2 ∧ 8 ≤ b ∧ b < mnx w ∧ (msh w b).1 + 102 = (msh w a).1 ∧ (msh w b).1 < 100 then some (r, m_wr w a j.toNatClampNeg (.inr (.inr (some b)))) else none
    | _ => none
  | .arraylength => match st with
    | .inr (.inr (some a)) :: r => if a < 8 then match ro a with
        | some (n, _) => some (.inl (Int32.ofNat n) :: r, w)
        | none => none
      else if a < mnx w ∧ 100 ≤ (msh w a).1 ∧ ((msh w a).1 ≤ 101 ∨ q_ra ((msh w a).1 - 102) = true) then some (.inl (Int32.ofNat (msh w a).2) :: r, w) else none
    | _ => none
  | _ => none
