def e_ok (o : MOut) (thr : Bool) (rt : Option Nat) (x : Int) : Prop :=
  (∃ ov, o = .inl ov ∧ match rt with
    | some t => ∃ v, ov = some v ∧ e_v t x v
    | none => ov = none) ∨ (thr = true ∧ ((x = e_TH ∧ o = .inr (e_ex 0)) ∨ (x = e_TH + 1 ∧ o = .inr (e_ex 1))))
/-- calls do what the machine does -/
def e_KOK (ro : MRo) (K : Nat → List Int → EM → EO) : Prop := ∀ u as M r, K u as M = some r → e_rok u as = true ∧ ∀ d vs w, e_ht u ≤ d → e_vs (e_pt u) as vs → e_cat (e_pt u) ≤ q_nl (e_vm u) → e_nl u = q_nl (e_vm u) → e_wr ro M w →
  ∃ k o w', m_run ro k d (e_vm u) 0 (m_ent 0 vs) [] w = some (o, w') ∧ e_wr ro r.2 w' ∧ e_ok o (e_thr u) (e_rt (e_vm u)) r.1
def e_crb : Nat → Int → Int → Bool
  | 0, a, b => decide (a = b)
  | 1, a, b => decide (a ≠ b)
  | 2, a, b => decide (a < b)
  | 3, a, b => decide (b ≤ a)
  | 4, a, b => decide (b < a)
  | _, a, b => decide (a ≤ b)
theorem e_cr2 {n : Nat} (hn : n < 6) (a b : Int) : e_b2 (40 + n) a b = some (if e_crb n a b = true then 1 else 0) ∧ e_b2 (54 + n) a b = some (if e_crb n a b = true then 1 else 0) ∧ e_b1 (46 + n) a = some (if e_crb n a 0 = true then 1 else 0) := by
  match n, hn with
  | 0, _ => simp [e_b2, e_b1, e_crb]
  | 1, _ => simp [e_b2, e_b1, e_crb]
  | 2, _ => simp [e_b2, e_b1, e_crb]
  | 3, _ => simp [e_b2, e_b1, e_crb]
  | 4, _ => simp [e_b2, e_b1, e_crb]
  | 5, _ => simp [e_b2, e_b1, e_crb]
theorem e_cr_ng {n : Nat} (hn : n < 6) (a b : Int) : e_crb (e_ng n) a b = !e_crb n a b := by
  match n, hn with
  | 0, _ => simp [e_ng, e_crb]
  | 1, _ => simp [e_ng, e_crb]
  | 2, _ => simp only [e_ng, e_crb]; rw [← decide_not]; exact decide_eq_decide.mpr (by omega)
  | 3, _ => simp only [e_ng, e_crb]; rw [← decide_not]; exact decide_eq_decide.mpr (by omega)
  | 4, _ => simp only [e_ng, e_crb]; rw [← decide_not]; exact decide_eq_decide.mpr (by omega)
  | 5, _ => simp only [e_ng, e_crb]; rw [← decide_not]; exact decide_eq_decide.mpr (by omega)
theorem e_cn_lt (c : Jvm.ClassFile.Cond) : e_cn c < 6 := by cases c <;> decide
theorem e_ng_lt {n : Nat} (hn : n < 6) : e_ng n < 6 := by
  match n, hn with
  | 0, _ => decide
  | 1, _ => decide
  | 2, _ => decide
  | 3, _ => decide
  | 4, _ => decide
  | 5, _ => decide
theorem e_cmp (c : Jvm.ClassFile.Cond) (x y : Int32) : m_cmp c x y = e_crb (e_cn c) x.toInt y.toInt := by
  cases c
  case eq => show decide (x = y) = decide (x.toInt = y.toInt); exact decide_eq_decide.mpr Int32.toInt_inj.symm
  case ne => show decide (x ≠ y) = decide (x.toInt ≠ y.toInt); exact decide_eq_decide.mpr (not_congr Int32.toInt_inj.symm)
  case lt => exact decide_eq_decide.mpr Int32.lt_iff_toInt_lt
  case ge => exact decide_eq_decide.mpr Int32.le_iff_toInt_le
  case gt => exact decide_eq_decide.mpr Int32.lt_iff_toInt_lt
  case le => exact decide_eq_decide.mpr Int32.le_iff_toInt_le
theorem e_br_ok {k b c : Nat} {tgt : Int} {nx pt pf : Nat} (h : e_br k b c tgt nx pt pf = true) : (k = b + c ∧ tgt = pt ∧ nx = pf) ∨ (k = b + e_ng c ∧ tgt = pf ∧ nx = pt) := by
  unfold e_br at h
  simp only [Bool.or_eq_true, Bool.and_eq_true, decide_eq_true_eq] at h
  rcases h with ⟨⟨h1, h2⟩, h3⟩ | ⟨⟨h1, h2⟩, h3⟩
  · exact Or.inl ⟨h1, h2, h3⟩
  · exact Or.inr ⟨h1, h2, h3⟩
/-- where a branch goes -/
theorem e_br_to {k b c : Nat} {tgt : Int} {nx pt pf : Nat} (h : e_br k b c tgt nx pt pf = true) (hc : c < 6) {x y z : Int} (hz : ∀ n, n < 6 → k = b + n → z = if e_crb n x y = true then 1 else 0) :
    (if e_crb c x y = true then tgt.toNat else nx) = (if z = 0 then pf else pt) ∧ 0 ≤ tgt := by
  rcases e_br_ok h with ⟨h1, h2, h3⟩ | ⟨h1, h2, h3⟩
  · have h4 := hz c hc h1
    subst h2 h3
    refine ⟨?_, by omega⟩
    cases hb : e_crb c x y
    · rw [hb] at h4; subst h4; simp
    · rw [hb] at h4; subst h4; simp
  · have h4 := hz (e_ng c) (e_ng_lt hc) h1
    rw [e_cr_ng hc] at h4
    subst h2 h3
    refine ⟨?_, by omega⟩
    cases hb : e_crb c x y
    · rw [hb] at h4; subst h4; simp
    · rw [hb] at h4; subst h4; simp
theorem e_lgcmp (x y : Int64) : (lg_cmp x y).toInt = if x.toInt < y.toInt then -1 else if x.toInt = y.toInt then 0 else 1 := by
  unfold lg_cmp
  repeat' split
  all_goals simp_all [Int64.lt_iff_toInt_lt, ← Int64.toInt_inj]
  all_goals (first | rfl | omega | decide)
theorem e_rc_all : (q_recs.all fun l => l.all fun r => match r.2.2.2.2.2.2.2.1 with
  | some c => decide (c < 13)
  | none => true) = true := by decide +kernel
theorem e_rc_lt {mid ci : Nat} (h : q_rc mid = some ci) : ci < 13 := by
  have h2 : (match q_rc mid with
    | some c => decide (c < 13)
    | none => true) = true := q_r_all (P := fun r => (match r.2.2.2.2.2.2.2.1 with
    | some c => decide (c < 13)
    | none => true) = true) rfl (fun l hl r hr => List.all_eq_true.mp (List.all_eq_true.mp e_rc_all l hl) r hr) mid
  rw [h] at h2
  exact of_decide_eq_true h2
