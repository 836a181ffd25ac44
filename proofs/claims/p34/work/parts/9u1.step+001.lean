theorem s_ordk_ok {ρ : Nat → Int32} {E : SE} (hE : s_in ρ E) {k : Nat} {c o : Int} (h : s_ordk E k c = .inl o) : o = s_sgn (ρ k).toInt c := by
  obtain ⟨h1, h2⟩ := hE.2 k
  unfold s_ordk at h
  split at h
  · rename_i hk
    obtain ⟨rfl, hc0⟩ := hk
    rw [hE.1.2.1]
    exact s_ordq_ok hE (by decide) (by decide) hc0 (by decide) h
  split at h
  · rename_i hk
    obtain ⟨rfl, hc0⟩ := hk
    rw [hE.1.2.2.1]
    exact s_ordq_ok hE (by decide) (by decide) hc0 (by decide) h
  unfold s_sgn
  split at h
  · cases h; rw [if_pos (by omega)]
  split at h
  · cases h; rw [if_neg (by omega), if_neg (by omega)]
  split at h
  · cases h; rw [if_neg (by omega), if_pos (by omega)]
  split at h <;> cases h
theorem s_sgn_neg (a b : Int) : -(s_sgn a b) = s_sgn b a := by
  unfold s_sgn
  split <;> split <;> (try split) <;> (try split) <;> omega
theorem s_ord_ok {ρ : Nat → Int32} {E : SE} (hE : s_in ρ E) {b : Bool} {x y : SV} {o : Int} (h : s_ord E b x y = some (.inl o)) : ∃ p q, s_num b (s_val ρ x) = some p ∧ s_num b (s_val ρ y) = some q ∧ o = s_sgn p q := by
  unfold s_ord at h
  split at h
  · split at h
    · rename_i h1 h2
      cases h
      exact ⟨_, _, h1, h2, rfl⟩
    · cases h
  · split at h
    · rename_i hb
      subst hb
      split at h
      · rename_i c hc
        have h3 := s_ordk_ok hE (Option.some.inj h)
        exact ⟨_, _, s_num_sym ρ _ _, hc, h3⟩
      · cases h
    · cases h
  · split at h
    · rename_i hb
      subst hb
      split at h
      · rename_i k _ c hc
        have h3 := Option.some.inj h
        unfold s_neg at h3
        split at h3
        · rename_i o' ho
          cases h3
          have h4 := s_ordk_ok hE ho
          exact ⟨_, _, hc, s_num_sym ρ _ _, by rw [h4, s_sgn_neg]⟩
        · cases h3
      · cases h
    · cases h
  · split at h
    · rename_i hb
      obtain ⟨rfl, rfl, rfl⟩ := hb
      cases h
      refine ⟨_, _, s_num_sym ρ _ _, s_num_sym ρ _ _, ?_⟩
      unfold s_sgn
      rw [if_neg (by omega), if_pos rfl]
    · cases h
def s_cmp (c : Jvm.ClassFile.Cond) (o : Int) : Bool := match c with
  | .eq => decide (o = 0)
  | .ne => decide (o ≠ 0)
  | .lt => decide (o < 0)
  | .ge => decide (0 ≤ o)
  | .gt => decide (0 < o)
  | .le => decide (o ≤ 0)
theorem s_cmp_ok (c : Jvm.ClassFile.Cond) (x y : Int32) : m_cmp c x y = s_cmp c (s_sgn x.toInt y.toInt) := by
  have he : x = y ↔ x.toInt = y.toInt := ⟨fun h => by rw [h], fun h => Int32.toInt_inj.mp h⟩
  cases c <;> unfold m_cmp s_cmp s_sgn <;> simp only [he, Int32.lt_iff_toInt_lt, Int32.le_iff_toInt_le, decide_eq_decide, ne_eq] <;> split <;> (try split) <;> omega
theorem s_lcmp_ok (x y : Int64) : lg_cmp x y = Int32.ofInt (s_sgn x.toInt y.toInt) := by
  have he : x = y ↔ x.toInt = y.toInt := ⟨fun h => by rw [h], fun h => Int64.toInt_inj.mp h⟩
  unfold lg_cmp s_sgn
  simp only [he, gt_iff_lt, Int64.lt_iff_toInt_lt]
  by_cases h1 : x.toInt < y.toInt
  · rw [if_pos h1, if_neg (by omega), if_neg (by omega)]; rfl
  · rw [if_neg h1]
    by_cases h2 : x.toInt = y.toInt
    · rw [if_pos h2, if_neg (by omega), if_pos h2]; rfl
    · rw [if_neg h2, if_pos (by omega), if_neg h2]; rfl
def s_nx (pc : Nat) (L : SL) (st : List SV) (A : SW) : Option SR := some (.inl (pc, L, st, A))
def s_ld (pc : Nat) (L : SL) (st : List SV) (A : SW) (i : Nat) (t : SV → Bool) : Option SR := match s_gets L i with
  | some v => if t v = true then s_nx pc L (v :: st) A else none
  | none => none
def s_st1 (pc nL : Nat) (L : SL) (st : List SV) (A : SW) (i : Nat) (t : SV → Bool) : Option SR := match st with
  | v :: r => if t v = true ∧ i < nL then s_nx pc (s_store L i v) r A else none
  | _ => none
def s_st2 (pc nL : Nat) (L : SL) (st : List SV) (A : SW) (i : Nat) : Option SR := match st with
  | v :: r => if s_isL v = true ∧ i + 1 < nL then s_nx pc (s_store2 L i v) r A else none
  | _ => none
def s_ii (E : SE) (pc : Nat) (L : SL) (st : List SV) (A : SW) (f : Int32 → Int32 → Option MV) : Option SR := match st with
  | y :: x :: r => s_wI E x (fun a => s_wI E y (fun b => match f a b with
    | some v => s_nx pc L (.inl v :: r) A
    | none => none))
  | _ => none
def s_ll (pc : Nat) (L : SL) (st : List SV) (A : SW) (f : Int64 → Int64 → Option MV) : Option SR := match st with
  | .inl (.inr (.inl y)) :: .inl (.inr (.inl x)) :: r => match f x y with
    | some v => s_nx pc L (.inl v :: r) A
    | none => none
  | _ => none
def s_i1 (E : SE) (pc : Nat) (L : SL) (st : List SV) (A : SW) (f : Int32 → MV) : Option SR := match st with
  | x :: r => s_wI E x (fun a => s_nx pc L (.inl (f a) :: r) A)
  | _ => none
def s_to (pc : Nat) (off : Int) (L : SL) (st : List SV) (A : SW) : Option SR := if 0 ≤ (pc : Int) + off then s_nx ((pc : Int) + off).toNat L st A else none
/-- whether number k is less than b -/
def s_lt (E : SE) (k : Nat) (b : Int) : Bool ⊕ SP := if (s_iv E k).2 < b then .inl true else if b ≤ (s_iv E k).1 then .inl false else .inr (k, b)
theorem s_lt_ok {ρ : Nat → Int32} {E : SE} (hE : s_in ρ E) {k : Nat} {b : Int} {o : Bool} (h : s_lt E k b = .inl o) : o = decide ((ρ k).toInt < b) := by
  obtain ⟨h1, h2⟩ := hE.2 k
  unfold s_lt at h
  split at h
  · cases h
    exact (decide_eq_true (by omega)).symm
  split at h
  · cases h
    exact (decide_eq_false (by omega)).symm
  · cases h
def s_not : Bool ⊕ SP → Bool ⊕ SP
  | .inl o => .inl (!o)
  | .inr z => .inr z
theorem s_not_ok {x : Bool ⊕ SP} {o : Bool} (h : s_not x = .inl o) : x = .inl (!o) := by
  unfold s_not at h
  split at h
  · cases h; rw [Bool.not_not]
  · cases h
/-- what a comparison says -/
def s_dec (E : SE) (c : Jvm.ClassFile.Cond) (x y : SV) : Option (Bool ⊕ SP) := match x, y with
  | .inr (k, false), .inl (.inl b) => if k < 8 then (match c with
    | .lt => some (s_lt E k b.toInt)
    | .ge => some (s_not (s_lt E k b.toInt))
    | .le => some (s_lt E k (b.toInt + 1))
    | .gt => some (s_not (s_lt E k (b.toInt + 1)))
    | _ => match s_ord E false x y with
      | some (.inl o) => some (.inl (s_cmp c o))
      | some (.inr z) => some (.inr z)
      | none => none)
    else match s_ord E false x y with
      | some (.inl o) => some (.inl (s_cmp c o))
      | some (.inr z) => some (.inr z)
      | none => none
  | _, _ => match s_ord E false x y with
    | some (.inl o) => some (.inl (s_cmp c o))
    | some (.inr z) => some (.inr z)
    | none => none
