/-! THE SMALL MACHINE OVER SYMBOLS: a value is known, or one of the script's numbers (as an int, or widened to a long); of each number an interval is known. -/
abbrev SV : Type := MV ⊕ (Nat × Bool)
abbrev SL : Type := List (Nat × SV)
abbrev SE : Type := List (Int × Int)
/-- a cell: its kind and size; what was written, the latest first -/
abbrev SC : Type := (Nat × Nat) × List (Nat × SV)
abbrev SM : Type := List (Nat × List (Nat × SC))
abbrev SW : Type := Nat × Nat × Nat × SM
abbrev SOut : Type := Option SV ⊕ String
abbrev SP : Type := Nat × Int
def s_set {α : Type} : List (Nat × α) → Nat → α → List (Nat × α)
  | [], i, a => [(i, a)]
  | (j, b) :: t, i, a => bif Nat.beq j i then (j, a) :: t else (j, b) :: s_set t i a
theorem s_find_set {α : Type} (i j : Nat) (a : α) : ∀ l : List (Nat × α), q_find (s_set l i a) j = if j = i then some a else q_find l j
  | [] => by
    unfold s_set q_find q_find
    by_cases h : j = i
    · subst h; simp
    · rw [if_neg h]
      have : Nat.beq i j = false := by
        cases hb : Nat.beq i j with
        | false => rfl
        | true => exact absurd (Nat.eq_of_beq_eq_true hb).symm h
      rw [this]; rfl
  | (k, b) :: t => by
    have ih := s_find_set i j a t
    unfold s_set
    cases hb : Nat.beq k i with
    | true =>
      have hk := Nat.eq_of_beq_eq_true hb
      subst hk
      show q_find ((k, a) :: t) j = _
      unfold q_find
      by_cases h : j = k
      · subst h; simp
      · rw [if_neg h]
        have : Nat.beq k j = false := by
          cases hb2 : Nat.beq k j with
          | false => rfl
          | true => exact absurd (Nat.eq_of_beq_eq_true hb2).symm h
        rw [this]; rfl
    | false =>
      show q_find ((k, b) :: s_set t i a) j = _
      unfold q_find
      cases hb2 : Nat.beq k j with
      | true =>
        have hk := Nat.eq_of_beq_eq_true hb2
        subst hk
        have : ¬ k = i := fun e => by subst e; simp at hb
        rw [if_neg this]; rfl
      | false => exact ih
def s_cell (C : SM) (id : Nat) : Option SC := match q_find C (id / 16) with
  | some l => q_find l (id % 16)
  | none => none
def s_setc (C : SM) (id : Nat) (c : SC) : SM := s_set C (id / 16) (s_set ((q_find C (id / 16)).getD []) (id % 16) c)
theorem s_cell_setc (C : SM) (id k : Nat) (c : SC) : s_cell (s_setc C id c) k = if k = id then some c else s_cell C k := by
  unfold s_cell s_setc
  rw [s_find_set]
  by_cases h : k / 16 = id / 16
  · rw [if_pos h]
    dsimp only
    rw [s_find_set]
    by_cases h2 : k % 16 = id % 16
    · rw [if_pos h2, if_pos (by omega)]
    · rw [if_neg h2, if_neg (fun e => h2 (by rw [e])), h]
      cases q_find C (id / 16) <;> rfl
  · rw [if_neg h, if_neg (fun e => h (by rw [e]))]
def s_dflt (k j : Nat) : MV := if k < 100 then m_def (q_ty k j) else if k = 100 then .inl 0 else if k = 101 then .inr (.inl 0) else .inr (.inr none)
def s_get (c : SC) (j : Nat) : SV := match q_find c.2 j with
  | some v => v
  | none => .inl (s_dflt c.1.1 j)
def s_mem (C : SM) (id j : Nat) : SV := match s_cell C id with
  | some c => s_get c j
  | none => .inl (.inl 0)
def s_shp (C : SM) (id : Nat) : Nat × Nat := match s_cell C id with
  | some c => c.1
  | none => (0, 0)
def s_val (ρ : Nat → Int32) : SV → MV
  | .inl m => m
  | .inr (k, false) => .inl (ρ k)
  | .inr (k, true) => .inr (.inl (ρ k).toInt64)
def s_w (ρ : Nat → Int32) (A : SW) : MWd := (A.1, A.2.1, A.2.2.1, s_shp A.2.2.2, fun k j => s_val ρ (s_mem A.2.2.2 k j))
def sl_val (ρ : Nat → Int32) (L : SL) : ML := L.map (fun q => (q.1, s_val ρ q.2))
def s_iv (E : SE) (k : Nat) : Int × Int := E.getD k (-2147483648, 2147483647)
/-- numbers made of others: 7 is the six low bits of number 0; 8 and 9 are number 2 divided by 10000 and by 100, 10 what remains by 100 -/
def s_drv (ρ : Nat → Int32) : Prop := ρ 7 = ρ 0 &&& 63 ∧ ρ 8 = ρ 2 / 10000 ∧ ρ 9 = ρ 2 / 100 ∧ ρ 10 = ρ 2 - ρ 2 / 100 * 100
/-- the numbers lie in their intervals -/
def s_in (ρ : Nat → Int32) (E : SE) : Prop := s_drv ρ ∧ ∀ k, (s_iv E k).1 ≤ (ρ k).toInt ∧ (ρ k).toInt ≤ (s_iv E k).2
def s_wr (A : SW) (id j : Nat) (v : SV) : SW := match s_cell A.2.2.2 id with
  | some c => (A.1, A.2.1, A.2.2.1, s_setc A.2.2.2 id (c.1, (j, v) :: c.2))
  | none => A
theorem q_find_cons {α : Type} (j i : Nat) (v : α) (l : List (Nat × α)) : q_find ((j, v) :: l) i = if i = j then some v else q_find l i := by
  rw [q_find]
  by_cases h : i = j
  · subst h; simp
  · rw [if_neg h]
    have : Nat.beq j i = false := by
      cases hb : Nat.beq j i with
      | false => rfl
      | true => exact absurd (Nat.eq_of_beq_eq_true hb).symm h
    rw [this]; rfl
theorem s_get_cons (k : Nat × Nat) (l : List (Nat × SV)) (j i : Nat) (v : SV) : s_get (k, (j, v) :: l) i = if i = j then v else s_get (k, l) i := by
  unfold s_get
  dsimp only
  rw [q_find_cons]
  by_cases h : i = j
  · rw [if_pos h, if_pos h]
  · rw [if_neg h, if_neg h]
theorem s_w_wr {ρ : Nat → Int32} {A : SW} {id j : Nat} {v : SV} {c : SC} (hc : s_cell A.2.2.2 id = some c) : s_w ρ (s_wr A id j v) = m_wr (s_w ρ A) id j (s_val ρ v) := by
  unfold s_wr s_w m_wr
  rw [hc]
  dsimp only
  congr 4
  · funext k
    unfold s_shp
    rw [s_cell_setc]
    by_cases h : k = id
    · subst h; rw [if_pos rfl, hc]
    · rw [if_neg h]
  · funext k i
    unfold s_mem m_up
    rw [s_cell_setc]
    by_cases h : k = id
    · subst h
      rw [if_pos rfl, if_pos rfl]
      dsimp only
      rw [s_get_cons, hc]
      dsimp only
      by_cases h2 : i = j
      · rw [if_pos h2, if_pos h2]
      · rw [if_neg h2, if_neg h2]
    · rw [if_neg h, if_neg h]
def s_mk (A : SW) (k : Nat × Nat) : SW := (A.1 + 1, A.2.1 + 1, A.2.2.1 + k.2, s_setc A.2.2.2 A.1 (k, []))
theorem s_w_mk {ρ : Nat → Int32} {A : SW} {k : Nat × Nat} : s_w ρ (s_mk A k) = m_mk (s_w ρ A) k (s_dflt k.1) := by
  unfold s_mk s_w m_mk
  congr 4
  · funext i
    unfold s_shp
    rw [s_cell_setc]
    by_cases h : i = A.1
    · rw [if_pos h]; simp [h]
    · rw [if_neg h]; simp [h]
  · funext i j
    unfold s_mem
    rw [s_cell_setc]
    by_cases h : i = A.1
    · rw [if_pos h]; simp [h]; rfl
    · rw [if_neg h]; simp [h]
