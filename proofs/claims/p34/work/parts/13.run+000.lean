def m_cats (st : List MV) : Nat := (st.map (fun v => if m_isL v = true then 2 else 1)).sum
theorem m_cats_val (ad : Nat → Nat) (st : List MV) : ((st.map (m_val ad)).map fun v => v.category).sum = m_cats st := by
  unfold m_cats
  rw [List.map_map]
  congr 1
  apply List.map_congr_left
  intro v _
  rcases v with x | x | x | x <;> rfl
def m_ent : Nat → List MV → ML
  | _, [] => []
  | i, v :: vs => (i, v) :: m_ent (if m_isL v = true then i + 2 else i + 1) vs
theorem m_ent_val (ad : Nat → Nat) : ∀ (i : Nat) (As : List MV), lv_args i (As.map (m_val ad)) = ml_val ad (m_ent i As)
  | _, [] => rfl
  | i, v :: vs => by
    have h := m_ent_val ad (if m_isL v = true then i + 2 else i + 1) vs
    have hc : (if (m_val ad v).category = 2 then i + 2 else i + 1) = (if m_isL v = true then i + 2 else i + 1) := by
      rcases v with x | x | x | x <;> rfl
    show (i, m_val ad v) :: lv_args (if (m_val ad v).category = 2 then i + 2 else i + 1) (vs.map (m_val ad)) = _
    rw [hc, h]
    rfl
theorem m_sl_len (ad : Nat → Nat) : ∀ As : List MV, (lg_sl (As.map (m_val ad))).length = m_cats As
  | [] => rfl
  | v :: vs => by
    have h := m_sl_len ad vs
    have h2 : lg_sl ((v :: vs).map (m_val ad)) = (if (m_val ad v).category = 2 then [.val (m_val ad v), .second] else [.val (m_val ad v)]) ++ lg_sl (vs.map (m_val ad)) := by
      simp [lg_sl]
    rw [h2, List.length_append, h]
    rcases v with x | x | x | x <;> rfl
def m_thr (w : MWd) : MWd := (w.1, w.2.1 + 1, w.2.2.1 + 6, w.2.2.2)
def m_def (ty : FieldType) : MV := match ty with
  | .long => .inr (.inl 0)
  | .object _ => .inr (.inr none)
  | .array _ => .inr (.inr none)
  | _ => .inl 0
def m_mk (w : MWd) (k : Nat × Nat) (f : Nat → MV) : MWd := (w.1 + 1, w.2.1 + 1, w.2.2.1 + k.2, (fun a => if a = w.1 then k else w.2.2.2.1 a), (fun a => if a = w.1 then f else w.2.2.2.2 a))
/-- what makes a cell -/
def m_new (mid : Nat) (i : Instr) (st : List MV) (w : MWd) : Option (List MV × MWd) := if mcx w + 8 = mnx w then (match i with
  | .new idx => match q_c mid idx with
    | some ci => some (.inr (.inr (some (mnx w))) :: st, m_mk w (ci, q_nf ci) (fun j => m_def (q_ty ci j)))
    | none => none
  | .newarray t => match st with
    | .inl n :: r => if ¬ n < 0 ∧ n.toNatClampNeg ≤ 60000 then (match t with
      | .int => some (.inr (.inr (some (mnx w))) :: r, m_mk w (100, n.toNatClampNeg) (fun _ => .inl 0))
      | .long => some (.inr (.inr (some (mnx w))) :: r, m_mk w (101, n.toNatClampNeg) (fun _ => .inr (.inl 0)))
      | _ => none) else none
    | _ => none
  | .anewarray idx => match st with
    | .inl n :: r => if ¬ n < 0 ∧ n.toNatClampNeg ≤ 60000 then (match q_ca mid idx with
      | some ci => some (.inr (.inr (some (mnx w))) :: r, m_mk w (102 + ci, n.toNatClampNeg) (fun _ => .inr (.inr none)))
      | none => none) else none
    | _ => none
  | _ => none) else none
/-- the end of a frame -/
def m_ret (mid : Nat) (i : Instr) (st : List MV) : Option (Option MV) := match i with
  | .return_ => match st, q_rt mid with
    | [], none => some none
    | _, _ => none
  | .ireturn => match st, q_rt mid with
    | [.inl x], some .int => some (some (.inl x))
    | [.inl x], some .boolean => if x = 0 ∨ x = 1 then some (some (.inl x)) else none
    | _, _ => none
  | .lreturn => match st, q_rt mid with
    | [.inr (.inl x)], some .long => some (some (.inr (.inl x)))
    | _, _ => none
  | .areturn => match st, q_rt mid with
    | [.inr (.inr x)], some (.object _) => some (some (.inr (.inr x)))
    | [.inr (.inr x)], some (.array _) => some (some (.inr (.inr x)))
    | _, _ => none
  | _ => none
/-- Object.<init>, and the three of Math -/
def m_obj (mid : Nat) (i : Instr) (st : List MV) : Option (List MV) := match i with
  | .invokespecial idx => match q_m mid idx, st with
    | some (_, 5), .inr (.inr (some _)) :: r => if m_cats r ≤ 8 then some r else none
    | _, _ => none
  | .invokestatic idx => match q_m mid idx, st with
    | some (_, 10), .inl y :: .inl x :: r => if m_cats r ≤ 8 then some (.inl (if x < y then y else x) :: r) else none
    | some (_, 11), .inl y :: .inl x :: r => if m_cats r ≤ 8 then some (.inl (if y < x then y else x) :: r) else none
    | some (_, 12), .inl x :: r => if m_cats r ≤ 8 then some (.inl (if 0 ≤ x then x else 0 - x) :: r) else none
    | _, _ => none
  | _ => none
def m_con (mid : Nat) (i : Instr) : Option MV := match i with
  | .ldc idx => match q_k mid idx with
    | some (.inl x) => some (.inl x)
    | _ => none
  | .ldc_w idx => match q_k mid idx with
    | some (.inl x) => some (.inl x)
    | _ => none
  | .ldc2_w idx => match q_k mid idx with
    | some (.inr (.inl x)) => some (.inr (.inl x))
    | _ => none
  | .getstatic idx => match q_s mid idx with
    | some a => some (.inr (.inr (some a)))
    | none => none
  | _ => none
/-- System.arraycopy of ints -/
def m_cp (w : MWd) (a0 a sp dp n : Nat) : MWd := (w.1, w.2.1, w.2.2.1, w.2.2.2.1, fun k => if k = a then (fun j => if dp ≤ j ∧ j < dp + n then .inl (m_int (w.2.2.2.2 a0 (sp + (j - dp)))) else w.2.2.2.2 a j) else w.2.2.2.2 k)
def m_cpy (mid : Nat) (i : Instr) (st : List MV) (w : MWd) : Option (List MV × MWd) := match i with
  | .invokestatic idx => match q_m mid idx, st with
    | some (_, 9), .inl n :: .inl dp :: .inr (.inr (some a)) :: .inl sp :: .inr (.inr (some a0)) :: r =>
      if 8 ≤ a ∧ a < mnx w ∧ (msh w a).1 = 100 ∧ 8 ≤ a0 ∧ a0 < mnx w ∧ (msh w a0).1 = 100 ∧ ¬ sp < 0 ∧ ¬ dp < 0 ∧ ¬ n < 0 ∧ sp.toNatClampNeg + n.toNatClampNeg ≤ (msh w a0).2 ∧ dp.toNatClampNeg + n.toNatClampNeg ≤ (msh w a).2 ∧ m_cats r ≤ 8 then
        some (r, m_cp w a0 a sp.toNatClampNeg dp.toNatClampNeg n.toNatClampNeg) else none
    | _, _ => none
  | _ => none
/-- a call: the method, its arguments, what is left on the stack -/
def m_call (mid : Nat) (i : Instr) (st : List MV) (w : MWd) : Option (Nat × List MV × List MV) := match i with
  | .invokestatic idx => match q_m mid idx with
    | some (cm, kd) => if (kd = 1 ∨ kd = 3 ∨ kd = 7) ∧ q_np cm ≤ st.length ∧ m_cats (st.drop (q_np cm)) ≤ 8 ∧ m_cats ((st.take (q_np cm)).reverse) ≤ q_nl cm then some (cm, (st.take (q_np cm)).reverse, st.drop (q_np cm)) else none
    | none => none
  | .invokevirtual idx => match q_m mid idx with
    | some (cm, kd) => match st.drop (q_np cm) with
      | .inr (.inr (some a)) :: r => if kd = 0 ∧ q_np cm ≤ st.length ∧ m_cats r ≤ 8 ∧ m_cats (.inr (.inr (some a)) :: (st.take (q_np cm)).reverse) ≤ q_nl cm ∧ 8 ≤ a ∧ a < mnx w ∧ (msh w a).1 < 100 ∧ q_rc cm = some (msh w a).1 then some (cm, .inr (.inr (some a)) :: (st.take (q_np cm)).reverse, r) else none
      | _ => none
    | none => none
  | .invokespecial idx => match q_m mid idx with
    | some (cm, kd) => match st.drop (q_np cm) with
      | .inr (.inr (some a)) :: r => if (kd = 2 ∨ kd = 6) ∧ q_np cm ≤ st.length ∧ m_cats r ≤ 8 ∧ m_cats (.inr (.inr (some a)) :: (st.take (q_np cm)).reverse) ≤ q_nl cm then some (cm, .inr (.inr (some a)) :: (st.take (q_np cm)).reverse, r) else none
      | _ => none
    | none => none
  | _ => none
