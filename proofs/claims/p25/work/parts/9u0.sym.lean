section
/-! THE SMALL MACHINE OVER SYMBOLS: a value is known, or one of the script's numbers (as an int, or widened to a long); of each number an interval is known. -/
abbrev SV : Type := MV ⊕ (Nat × Bool)
abbrev SL : Type := List (Nat × SV)
abbrev SE : Type := List (Int × Int)
/-- a cell: its kind and size; what was written, the latest first -/
abbrev SC : Type := (Nat × Nat) × List (Nat × SV)
abbrev SM : Type := List (Nat × List (Nat × SC))
abbrev SW : Type := Nat × Nat × Nat × SM
abbrev SOut : Type := Option SV ⊕ String
abbrev SP : Type := Nat × Int
def s_set {α : Type} : List (Nat × α) → Nat → α → List (Nat × α)
  | [], i, a => [(i, a)]
  | (j, b) :: t, i, a => bif Nat.beq j i then (j, a) :: t else (j, b) :: s_set t i a
theorem s_find_set {α : Type} (i j : Nat) (a : α) : ∀ l : List (Nat × α), q_find (s_set l i a) j = if j = i then some a else q_find l j
  | [] => by
    unfold s_set q_find q_find
    by_cases h : j = i
    · subst h; simp
    · rw [if_neg h]
      have : Nat.beq i j = false := by
        cases hb : Nat.beq i j with
        | false => rfl
        | true => exact absurd (Nat.eq_of_beq_eq_true hb).symm h
      rw [this]; rfl
  | (k, b) :: t => by
    have ih := s_find_set i j a t
    unfold s_set
    cases hb : Nat.beq k i with
    | true =>
      have hk := Nat.eq_of_beq_eq_true hb
      subst hk
      show q_find ((k, a) :: t) j = _
      unfold q_find
      by_cases h : j = k
      · subst h; simp
      · rw [if_neg h]
        have : Nat.beq k j = false := by
          cases hb2 : Nat.beq k j with
          | false => rfl
          | true => exact absurd (Nat.eq_of_beq_eq_true hb2).symm h
        rw [this]; rfl
    | false =>
      show q_find ((k, b) :: s_set t i a) j = _
      unfold q_find
      cases hb2 : Nat.beq k j with
      | true =>
        have hk := Nat.eq_of_beq_eq_true hb2
        subst hk
        have : ¬ k = i := fun e => by subst e; simp at hb
        rw [if_neg this]; rfl
      | false => exact ih
def s_cell (C : SM) (id : Nat) : Option SC := match q_find C (id / 16) with
  | some l => q_find l (id % 16)
  | none => none
def s_setc (C : SM) (id : Nat) (c : SC) : SM := s_set C (id / 16) (s_set ((q_find C (id / 16)).getD []) (id % 16) c)
theorem s_cell_setc (C : SM) (id k : Nat) (c : SC) : s_cell (s_setc C id c) k = if k = id then some c else s_cell C k := by
  unfold s_cell s_setc
  rw [s_find_set]
  by_cases h : k / 16 = id / 16
  · rw [if_pos h]
    dsimp only
    rw [s_find_set]
    by_cases h2 : k % 16 = id % 16
    · rw [if_pos h2, if_pos (by omega)]
    · rw [if_neg h2, if_neg (fun e => h2 (by rw [e])), h]
      cases q_find C (id / 16) <;> rfl
  · rw [if_neg h, if_neg (fun e => h (by rw [e]))]
def s_dflt (k j : Nat) : MV := if k < 100 then m_def (q_ty k j) else if k = 100 then .inl 0 else if k = 101 then .inr (.inl 0) else .inr (.inr none)
def s_get (c : SC) (j : Nat) : SV := match q_find c.2 j with
  | some v => v
  | none => .inl (s_dflt c.1.1 j)
def s_mem (C : SM) (id j : Nat) : SV := match s_cell C id with
  | some c => s_get c j
  | none => .inl (.inl 0)
def s_shp (C : SM) (id : Nat) : Nat × Nat := match s_cell C id with
  | some c => c.1
  | none => (0, 0)
def s_val (ρ : Nat → Int32) : SV → MV
  | .inl m => m
  | .inr (k, false) => .inl (ρ k)
  | .inr (k, true) => .inr (.inl (ρ k).toInt64)
def s_w (ρ : Nat → Int32) (A : SW) : MWd := (A.1, A.2.1, A.2.2.1, s_shp A.2.2.2, fun k j => s_val ρ (s_mem A.2.2.2 k j))
def sl_val (ρ : Nat → Int32) (L : SL) : ML := L.map (fun q => (q.1, s_val ρ q.2))
def s_iv (E : SE) (k : Nat) : Int × Int := E.getD k (-2147483648, 2147483647)
/-- numbers made of others: 7 is the six low bits of number 0; 8 and 9 are number 2 divided by 10000 and by 100, 10 what remains by 100 -/
def s_drv (ρ : Nat → Int32) : Prop := ρ 7 = ρ 0 &&& 63 ∧ ρ 8 = ρ 2 / 10000 ∧ ρ 9 = ρ 2 / 100 ∧ ρ 10 = ρ 2 - ρ 2 / 100 * 100
/-- the numbers lie in their intervals -/
def s_in (ρ : Nat → Int32) (E : SE) : Prop := s_drv ρ ∧ ∀ k, (s_iv E k).1 ≤ (ρ k).toInt ∧ (ρ k).toInt ≤ (s_iv E k).2
def s_wr (A : SW) (id j : Nat) (v : SV) : SW := match s_cell A.2.2.2 id with
  | some c => (A.1, A.2.1, A.2.2.1, s_setc A.2.2.2 id (c.1, (j, v) :: c.2))
  | none => A
theorem q_find_cons {α : Type} (j i : Nat) (v : α) (l : List (Nat × α)) : q_find ((j, v) :: l) i = if i = j then some v else q_find l i := by
  rw [q_find]
  by_cases h : i = j
  · subst h; simp
  · rw [if_neg h]
    have : Nat.beq j i = false := by
      cases hb : Nat.beq j i with
      | false => rfl
      | true => exact absurd (Nat.eq_of_beq_eq_true hb).symm h
    rw [this]; rfl
theorem s_get_cons (k : Nat × Nat) (l : List (Nat × SV)) (j i : Nat) (v : SV) : s_get (k, (j, v) :: l) i = if i = j then v else s_get (k, l) i := by
  unfold s_get
  dsimp only
  rw [q_find_cons]
  by_cases h : i = j
  · rw [if_pos h, if_pos h]
  · rw [if_neg h, if_neg h]
theorem s_w_wr {ρ : Nat → Int32} {A : SW} {id j : Nat} {v : SV} {c : SC} (hc : s_cell A.2.2.2 id = some c) : s_w ρ (s_wr A id j v) = m_wr (s_w ρ A) id j (s_val ρ v) := by
  unfold s_wr s_w m_wr
  rw [hc]
  dsimp only
  congr 4
  · funext k
    unfold s_shp
    rw [s_cell_setc]
    by_cases h : k = id
    · subst h; rw [if_pos rfl, hc]
    · rw [if_neg h]
  · funext k i
    unfold s_mem m_up
    rw [s_cell_setc]
    by_cases h : k = id
    · subst h
      rw [if_pos rfl, if_pos rfl]
      dsimp only
      rw [s_get_cons, hc]
      dsimp only
      by_cases h2 : i = j
      · rw [if_pos h2, if_pos h2]
      · rw [if_neg h2, if_neg h2]
    · rw [if_neg h, if_neg h]
def s_mk (A : SW) (k : Nat × Nat) : SW := (A.1 + 1, A.2.1 + 1, A.2.2.1 + k.2, s_setc A.2.2.2 A.1 (k, []))
theorem s_w_mk {ρ : Nat → Int32} {A : SW} {k : Nat × Nat} : s_w ρ (s_mk A k) = m_mk (s_w ρ A) k (s_dflt k.1) := by
  unfold s_mk s_w m_mk
  congr 4
  · funext i
    unfold s_shp
    rw [s_cell_setc]
    by_cases h : i = A.1
    · rw [if_pos h]; simp [h]
    · rw [if_neg h]; simp [h]
  · funext i j
    unfold s_mem
    rw [s_cell_setc]
    by_cases h : i = A.1
    · rw [if_pos h]; simp [h]; rfl
    · rw [if_neg h]; simp [h]
end
section
def s_isI : SV → Bool
  | .inl m => m_isI m
  | .inr (_, b) => !b
def s_isL : SV → Bool
  | .inl m => m_isL m
  | .inr (_, b) => b
def s_isR : SV → Bool
  | .inl m => m_isR m
  | .inr _ => false
theorem s_isI_val (ρ : Nat → Int32) (v : SV) : m_isI (s_val ρ v) = s_isI v := by rcases v with m | ⟨k, _ | _⟩ <;> rfl
theorem s_isL_val (ρ : Nat → Int32) (v : SV) : m_isL (s_val ρ v) = s_isL v := by rcases v with m | ⟨k, _ | _⟩ <;> rfl
theorem s_isR_val (ρ : Nat → Int32) (v : SV) : m_isR (s_val ρ v) = s_isR v := by rcases v with m | ⟨k, _ | _⟩ <;> rfl
def s_gets : SL → Nat → Option SV
  | [], _ => none
  | (j, v) :: t, i => bif Nat.beq j i then some v else s_gets t i
theorem s_gets_val (ρ : Nat → Int32) (i : Nat) : ∀ L : SL, m_get (sl_val ρ L) i = (s_gets L i).map (s_val ρ)
  | [] => rfl
  | (j, v) :: t => by
    have ih := s_gets_val ρ i t
    show (if j = i then some (s_val ρ v) else m_get (sl_val ρ t) i) = _
    unfold s_gets
    by_cases h : j = i
    · subst h; simp
    · rw [if_neg h, ih]
      have : Nat.beq j i = false := by
        cases hb : Nat.beq j i with
        | false => rfl
        | true => exact absurd (Nat.eq_of_beq_eq_true hb) h
      rw [this]; rfl
def s_store (L : SL) (i : Nat) (v : SV) : SL := (i, v) :: L.filter (fun q => !(q.1 == i) && !(q.1 + 1 == i && s_isL q.2))
def s_store2 (L : SL) (i : Nat) (v : SV) : SL := (i, v) :: L.filter (fun q => !(q.1 == i) && (!(q.1 == i + 1) && !(q.1 + 1 == i && s_isL q.2)))
theorem s_store_val (ρ : Nat → Int32) (L : SL) (i : Nat) (v : SV) : sl_val ρ (s_store L i v) = m_store (sl_val ρ L) i (s_val ρ v) := by
  simp only [sl_val, s_store, m_store, List.map_cons, List.filter_map, Function.comp_def, s_isL_val]
theorem s_store2_val (ρ : Nat → Int32) (L : SL) (i : Nat) (v : SV) : sl_val ρ (s_store2 L i v) = m_store2 (sl_val ρ L) i (s_val ρ v) := by
  simp only [sl_val, s_store2, m_store2, List.map_cons, List.filter_map, Function.comp_def, s_isL_val]
/-- the next state, or a number to be split at -/
abbrev SR : Type := (Nat × SL × List SV × SW) ⊕ SP
def s_exI (E : SE) (v : SV) : Option (Int32 ⊕ SP) := match v with
  | .inl (.inl x) => some (.inl x)
  | .inr (k, false) => if (s_iv E k).1 = (s_iv E k).2 then some (.inl (Int32.ofInt (s_iv E k).1)) else if (s_iv E k).2 ≤ (s_iv E k).1 + 130 then some (.inr (k, (s_iv E k).1 + 1)) else none
  | _ => none
theorem s_exI_ok {ρ : Nat → Int32} {E : SE} (hE : s_in ρ E) {v : SV} {x : Int32} (h : s_exI E v = some (.inl x)) : s_val ρ v = .inl x := by
  unfold s_exI at h
  split at h
  · cases h; rfl
  · rename_i k
    split at h
    · rename_i hk
      cases h
      obtain ⟨h1, h2⟩ := hE.2 k
      show Sum.inl (ρ k) = _
      congr 1
      rw [← Int32.ofInt_toInt (ρ k)]
      congr 1
      omega
    · split at h <;> cases h
  · cases h
def s_wI (E : SE) (v : SV) (f : Int32 → Option SR) : Option SR := match s_exI E v with
  | some (.inl x) => f x
  | some (.inr z) => some (.inr z)
  | none => none
theorem s_wI_ok {E : SE} {v : SV} {f : Int32 → Option SR} {r : Nat × SL × List SV × SW} (h : s_wI E v f = some (.inl r)) : ∃ x, s_exI E v = some (.inl x) ∧ f x = some (.inl r) := by
  unfold s_wI at h
  split at h
  · rename_i x hx
    exact ⟨x, hx, h⟩
  · cases h
  · cases h
def s_sgn (a b : Int) : Int := if a < b then -1 else if a = b then 0 else 1
/-- number 2 divided by D, against c: by number 2's own interval -/
def s_ordq (E : SE) (D c : Int) : Int ⊕ SP :=
  if (s_iv E 2).1 < 0 then (if (s_iv E 2).2 < 0 then .inr (11, 0) else .inr (2, 0)) else if (s_iv E 2).2 < c * D then .inl (-1) else if (c + 1) * D ≤ (s_iv E 2).1 then .inl 1 else if c * D ≤ (s_iv E 2).1 ∧ (s_iv E 2).2 < (c + 1) * D then .inl 0 else if (s_iv E 2).1 < c * D then .inr (2, c * D) else .inr (2, (c + 1) * D)
def s_ordk (E : SE) (k : Nat) (c : Int) : Int ⊕ SP :=
  if k = 8 ∧ 0 ≤ c then s_ordq E 10000 c else if k = 9 ∧ 0 ≤ c then s_ordq E 100 c else if (s_iv E k).2 < c then .inl (-1) else if c < (s_iv E k).1 then .inl 1 else if (s_iv E k).1 = (s_iv E k).2 then .inl 0 else if (s_iv E k).1 < c then .inr (k, c) else .inr (k, c + 1)
def s_neg : Int ⊕ SP → Int ⊕ SP
  | .inl o => .inl (-o)
  | .inr z => .inr z
def s_num : Bool → MV → Option Int
  | false, .inl a => some a.toInt
  | true, .inr (.inl a) => some a.toInt
  | _, _ => none
def s_ord (E : SE) (b : Bool) (x y : SV) : Option (Int ⊕ SP) := match x, y with
  | .inl m, .inl m' => match s_num b m, s_num b m' with
    | some p, some q => some (.inl (s_sgn p q))
    | _, _ => none
  | .inr (k, b'), .inl m => if b' = b then (match s_num b m with
    | some c => some (s_ordk E k c)
    | none => none) else none
  | .inl m, .inr (k, b') => if b' = b then (match s_num b m with
    | some c => some (s_neg (s_ordk E k c))
    | none => none) else none
  | .inr (k, b'), .inr (k', b'') => if b' = b ∧ b'' = b ∧ k = k' then some (.inl 0) else none
theorem s_num_sym (ρ : Nat → Int32) (k : Nat) (b : Bool) : s_num b (s_val ρ (.inr (k, b))) = some (ρ k).toInt := by
  cases b
  · rfl
  · show some (ρ k).toInt64.toInt = _
    rw [Int32.toInt_toInt64]
theorem s_ordq_ok {ρ : Nat → Int32} {E : SE} (hE : s_in ρ E) {D c o : Int} {d : Int32} (hd : d.toInt = D) (hD : 0 < D) (hc : 0 ≤ c) (hd1 : d ≠ -1) (h : s_ordq E D c = .inl o) : o = s_sgn (ρ 2 / d).toInt c := by
  obtain ⟨h1, h2⟩ := hE.2 2
  unfold s_ordq at h
  split at h
  · split at h <;> cases h
  · rename_i hlo
    have hx0 : 0 ≤ (ρ 2).toInt := by omega
    have hq : (ρ 2 / d).toInt = (ρ 2).toInt / D := by
      rw [Int32.toInt_div_of_ne_right _ _ hd1, hd, Int.tdiv_eq_ediv_of_nonneg hx0]
    rw [hq]
    unfold s_sgn
    have hdm := Int.mul_ediv_add_emod (ρ 2).toInt D
    have hm0 := Int.emod_nonneg (ρ 2).toInt (Int.ne_of_gt hD)
    have hm1 := Int.emod_lt_of_pos (ρ 2).toInt hD
    split at h
    · rename_i hh
      cases h
      have : (ρ 2).toInt / D < c := Int.ediv_lt_of_lt_mul hD (by omega)
      rw [if_pos this]
    split at h
    · rename_i hh
      cases h
      have : c + 1 ≤ (ρ 2).toInt / D := Int.le_ediv_of_mul_le hD (by omega)
      rw [if_neg (by omega), if_neg (by omega)]
    split at h
    · rename_i hh
      cases h
      have a1 : c ≤ (ρ 2).toInt / D := Int.le_ediv_of_mul_le hD (by omega)
      have a2 : (ρ 2).toInt / D < c + 1 := Int.ediv_lt_of_lt_mul hD (by omega)
      rw [if_neg (by omega), if_pos (by omega)]
    split at h <;> cases h
theorem s_ordk_ok {ρ : Nat → Int32} {E : SE} (hE : s_in ρ E) {k : Nat} {c o : Int} (h : s_ordk E k c = .inl o) : o = s_sgn (ρ k).toInt c := by
  obtain ⟨h1, h2⟩ := hE.2 k
  unfold s_ordk at h
  split at h
  · rename_i hk
    obtain ⟨rfl, hc0⟩ := hk
    rw [hE.1.2.1]
    exact s_ordq_ok hE (by decide) (by decide) hc0 (by decide) h
  split at h
  · rename_i hk
    obtain ⟨rfl, hc0⟩ := hk
    rw [hE.1.2.2.1]
    exact s_ordq_ok hE (by decide) (by decide) hc0 (by decide) h
  unfold s_sgn
  split at h
  · cases h; rw [if_pos (by omega)]
  split at h
  · cases h; rw [if_neg (by omega), if_neg (by omega)]
  split at h
  · cases h; rw [if_neg (by omega), if_pos (by omega)]
  split at h <;> cases h
theorem s_sgn_neg (a b : Int) : -(s_sgn a b) = s_sgn b a := by
  unfold s_sgn
  split <;> split <;> (try split) <;> (try split) <;> omega
theorem s_ord_ok {ρ : Nat → Int32} {E : SE} (hE : s_in ρ E) {b : Bool} {x y : SV} {o : Int} (h : s_ord E b x y = some (.inl o)) : ∃ p q, s_num b (s_val ρ x) = some p ∧ s_num b (s_val ρ y) = some q ∧ o = s_sgn p q := by
  unfold s_ord at h
  split at h
  · split at h
    · rename_i h1 h2
      cases h
      exact ⟨_, _, h1, h2, rfl⟩
    · cases h
  · split at h
    · rename_i hb
      subst hb
      split at h
      · rename_i c hc
        have h3 := s_ordk_ok hE (Option.some.inj h)
        exact ⟨_, _, s_num_sym ρ _ _, hc, h3⟩
      · cases h
    · cases h
  · split at h
    · rename_i hb
      subst hb
      split at h
      · rename_i k _ c hc
        have h3 := Option.some.inj h
        unfold s_neg at h3
        split at h3
        · rename_i o' ho
          cases h3
          have h4 := s_ordk_ok hE ho
          exact ⟨_, _, hc, s_num_sym ρ _ _, by rw [h4, s_sgn_neg]⟩
        · cases h3
      · cases h
    · cases h
  · split at h
    · rename_i hb
      obtain ⟨rfl, rfl, rfl⟩ := hb
      cases h
      refine ⟨_, _, s_num_sym ρ _ _, s_num_sym ρ _ _, ?_⟩
      unfold s_sgn
      rw [if_neg (by omega), if_pos rfl]
    · cases h
def s_cmp (c : Jvm.ClassFile.Cond) (o : Int) : Bool := match c with
  | .eq => decide (o = 0)
  | .ne => decide (o ≠ 0)
  | .lt => decide (o < 0)
  | .ge => decide (0 ≤ o)
  | .gt => decide (0 < o)
  | .le => decide (o ≤ 0)
theorem s_cmp_ok (c : Jvm.ClassFile.Cond) (x y : Int32) : m_cmp c x y = s_cmp c (s_sgn x.toInt y.toInt) := by
  have he : x = y ↔ x.toInt = y.toInt := ⟨fun h => by rw [h], fun h => Int32.toInt_inj.mp h⟩
  cases c <;> unfold m_cmp s_cmp s_sgn <;> simp only [he, Int32.lt_iff_toInt_lt, Int32.le_iff_toInt_le, decide_eq_decide, ne_eq] <;> split <;> (try split) <;> omega
theorem s_lcmp_ok (x y : Int64) : lg_cmp x y = Int32.ofInt (s_sgn x.toInt y.toInt) := by
  have he : x = y ↔ x.toInt = y.toInt := ⟨fun h => by rw [h], fun h => Int64.toInt_inj.mp h⟩
  unfold lg_cmp s_sgn
  simp only [he, gt_iff_lt, Int64.lt_iff_toInt_lt]
  by_cases h1 : x.toInt < y.toInt
  · rw [if_pos h1, if_neg (by omega), if_neg (by omega)]; rfl
  · rw [if_neg h1]
    by_cases h2 : x.toInt = y.toInt
    · rw [if_pos h2, if_neg (by omega), if_pos h2]; rfl
    · rw [if_neg h2, if_pos (by omega), if_neg h2]; rfl
def s_nx (pc : Nat) (L : SL) (st : List SV) (A : SW) : Option SR := some (.inl (pc, L, st, A))
def s_ld (pc : Nat) (L : SL) (st : List SV) (A : SW) (i : Nat) (t : SV → Bool) : Option SR := match s_gets L i with
  | some v => if t v = true then s_nx pc L (v :: st) A else none
  | none => none
def s_st1 (pc nL : Nat) (L : SL) (st : List SV) (A : SW) (i : Nat) (t : SV → Bool) : Option SR := match st with
  | v :: r => if t v = true ∧ i < nL then s_nx pc (s_store L i v) r A else none
  | _ => none
def s_st2 (pc nL : Nat) (L : SL) (st : List SV) (A : SW) (i : Nat) : Option SR := match st with
  | v :: r => if s_isL v = true ∧ i + 1 < nL then s_nx pc (s_store2 L i v) r A else none
  | _ => none
def s_ii (E : SE) (pc : Nat) (L : SL) (st : List SV) (A : SW) (f : Int32 → Int32 → Option MV) : Option SR := match st with
  | y :: x :: r => s_wI E x (fun a => s_wI E y (fun b => match f a b with
    | some v => s_nx pc L (.inl v :: r) A
    | none => none))
  | _ => none
def s_ll (pc : Nat) (L : SL) (st : List SV) (A : SW) (f : Int64 → Int64 → Option MV) : Option SR := match st with
  | .inl (.inr (.inl y)) :: .inl (.inr (.inl x)) :: r => match f x y with
    | some v => s_nx pc L (.inl v :: r) A
    | none => none
  | _ => none
def s_i1 (E : SE) (pc : Nat) (L : SL) (st : List SV) (A : SW) (f : Int32 → MV) : Option SR := match st with
  | x :: r => s_wI E x (fun a => s_nx pc L (.inl (f a) :: r) A)
  | _ => none
def s_to (pc : Nat) (off : Int) (L : SL) (st : List SV) (A : SW) : Option SR := if 0 ≤ (pc : Int) + off then s_nx ((pc : Int) + off).toNat L st A else none
/-- whether number k is less than b -/
def s_lt (E : SE) (k : Nat) (b : Int) : Bool ⊕ SP := if (s_iv E k).2 < b then .inl true else if b ≤ (s_iv E k).1 then .inl false else .inr (k, b)
theorem s_lt_ok {ρ : Nat → Int32} {E : SE} (hE : s_in ρ E) {k : Nat} {b : Int} {o : Bool} (h : s_lt E k b = .inl o) : o = decide ((ρ k).toInt < b) := by
  obtain ⟨h1, h2⟩ := hE.2 k
  unfold s_lt at h
  split at h
  · cases h
    exact (decide_eq_true (by omega)).symm
  split at h
  · cases h
    exact (decide_eq_false (by omega)).symm
  · cases h
def s_not : Bool ⊕ SP → Bool ⊕ SP
  | .inl o => .inl (!o)
  | .inr z => .inr z
theorem s_not_ok {x : Bool ⊕ SP} {o : Bool} (h : s_not x = .inl o) : x = .inl (!o) := by
  unfold s_not at h
  split at h
  · cases h; rw [Bool.not_not]
  · cases h
/-- what a comparison says -/
def s_dec (E : SE) (c : Jvm.ClassFile.Cond) (x y : SV) : Option (Bool ⊕ SP) := match x, y with
  | .inr (k, false), .inl (.inl b) => if k < 8 then (match c with
    | .lt => some (s_lt E k b.toInt)
    | .ge => some (s_not (s_lt E k b.toInt))
    | .le => some (s_lt E k (b.toInt + 1))
    | .gt => some (s_not (s_lt E k (b.toInt + 1)))
    | _ => match s_ord E false x y with
      | some (.inl o) => some (.inl (s_cmp c o))
      | some (.inr z) => some (.inr z)
      | none => none)
    else match s_ord E false x y with
      | some (.inl o) => some (.inl (s_cmp c o))
      | some (.inr z) => some (.inr z)
      | none => none
  | _, _ => match s_ord E false x y with
    | some (.inl o) => some (.inl (s_cmp c o))
    | some (.inr z) => some (.inr z)
    | none => none
theorem s_numF {m : MV} {p : Int} (h : s_num false m = some p) : ∃ x : Int32, m = .inl x ∧ p = x.toInt := by
  rcases m with x | x | x
  · cases h; exact ⟨x, rfl, rfl⟩
  · cases h
  · cases h
theorem s_dec_o {ρ : Nat → Int32} {E : SE} (hE : s_in ρ E) {c : Jvm.ClassFile.Cond} {x y : SV} {o : Bool} (h : (match s_ord E false x y with
      | some (.inl o) => some (.inl (s_cmp c o))
      | some (.inr z) => some (.inr z)
      | none => none : Option (Bool ⊕ SP)) = some (.inl o)) : ∃ a b : Int32, s_val ρ x = .inl a ∧ s_val ρ y = .inl b ∧ m_cmp c a b = o := by
  split at h
  · rename_i o' ho
    cases h
    obtain ⟨p, q, h1, h2, h3⟩ := s_ord_ok hE ho
    obtain ⟨a, ha, rfl⟩ := s_numF h1
    obtain ⟨b, hb, rfl⟩ := s_numF h2
    exact ⟨a, b, ha, hb, by rw [s_cmp_ok, ← h3]⟩
  · cases h
  · cases h
theorem s_dec_ok {ρ : Nat → Int32} {E : SE} (hE : s_in ρ E) {c : Jvm.ClassFile.Cond} {x y : SV} {o : Bool} (h : s_dec E c x y = some (.inl o)) : ∃ a b : Int32, s_val ρ x = .inl a ∧ s_val ρ y = .inl b ∧ m_cmp c a b = o := by
  unfold s_dec at h
  split at h
  · rename_i k b
    split at h
    · split at h
      · have h2 := s_lt_ok hE (Option.some.inj h)
        refine ⟨ρ k, b, rfl, rfl, ?_⟩
        rw [h2]
        simp only [m_cmp, Int32.lt_iff_toInt_lt]
      · have h2 := s_lt_ok hE (s_not_ok (Option.some.inj h))
        refine ⟨ρ k, b, rfl, rfl, ?_⟩
        rw [← Bool.not_not o, h2]
        simp only [m_cmp, Int32.le_iff_toInt_le, ← decide_not, decide_eq_decide]
        omega
      · have h2 := s_lt_ok hE (Option.some.inj h)
        refine ⟨ρ k, b, rfl, rfl, ?_⟩
        rw [h2]
        simp only [m_cmp, Int32.le_iff_toInt_le, decide_eq_decide]
        omega
      · have h2 := s_lt_ok hE (s_not_ok (Option.some.inj h))
        refine ⟨ρ k, b, rfl, rfl, ?_⟩
        rw [← Bool.not_not o, h2]
        simp only [m_cmp, Int32.lt_iff_toInt_lt, ← decide_not, decide_eq_decide]
        omega
      · exact s_dec_o hE h
    · exact s_dec_o hE h
  · exact s_dec_o hE h
def s_br (E : SE) (pc : Nat) (off : Int) (L : SL) (r : List SV) (A : SW) (c : Jvm.ClassFile.Cond) (x y : SV) : Option SR := match s_dec E c x y with
  | some (.inl o) => if 0 ≤ (pc : Int) + off then s_nx (if o = true then ((pc : Int) + off).toNat else pc + 3) L r A else none
  | some (.inr z) => some (.inr z)
  | none => none
def s_intV (v : SV) : SV := match v with
  | .inl m => .inl (.inl (m_int m))
  | .inr (k, false) => .inr (k, false)
  | .inr (_, true) => .inl (.inl 0)
theorem s_intV_val (ρ : Nat → Int32) (v : SV) : s_val ρ (s_intV v) = .inl (m_int (s_val ρ v)) := by rcases v with m | ⟨k, _ | _⟩ <;> rfl
def s_lngV (v : SV) : SV := match v with
  | .inl m => .inl (.inr (.inl (m_lng m)))
  | .inr (k, true) => .inr (k, true)
  | .inr (_, false) => .inl (.inr (.inl 0))
theorem s_lngV_val (ρ : Nat → Int32) (v : SV) : s_val ρ (s_lngV v) = .inr (.inl (m_lng (s_val ρ v))) := by rcases v with m | ⟨k, _ | _⟩ <;> rfl
def s_refV (v : SV) : SV := match v with
  | .inl m => .inl (.inr (.inr (m_ref m)))
  | .inr _ => .inl (.inr (.inr none))
theorem s_refV_val (ρ : Nat → Int32) (v : SV) : s_val ρ (s_refV v) = .inr (.inr (m_ref (s_val ρ v))) := by rcases v with m | ⟨k, _ | _⟩ <;> rfl
def s_fit (ty : FieldType) (v : SV) : Bool := match v with
  | .inl m => m_fit ty m
  | .inr (_, false) => decide (ty = .int)
  | .inr (_, true) => decide (ty = .long)
theorem s_fit_val {ρ : Nat → Int32} {ty : FieldType} {v : SV} (h : s_fit ty v = true) : m_fit ty (s_val ρ v) = true := by
  rcases v with m | ⟨k, _ | _⟩
  · exact h
  · have : ty = .int := of_decide_eq_true h
    subst this; rfl
  · have : ty = .long := of_decide_eq_true h
    subst this; rfl
def s_cats (st : List SV) : Nat := (st.map (fun v => if s_isL v = true then 2 else 1)).sum
theorem s_cats_val (ρ : Nat → Int32) (st : List SV) : m_cats (st.map (s_val ρ)) = s_cats st := by
  unfold m_cats s_cats
  rw [List.map_map]
  congr 1
  apply List.map_congr_left
  intro v _
  simp only [Function.comp_def, s_isL_val]
def s_and63 (st : List SV) : Option (List SV) := match st with
  | .inl (.inl b) :: .inr (0, false) :: r => if b = 63 then some (.inr (7, false) :: r) else none
  | _ => none
def s_div (st : List SV) : Option (List SV) := match st with
  | .inl (.inl b) :: .inr (2, false) :: r => if b = 10000 then some (.inr (8, false) :: r) else if b = 100 then some (.inr (9, false) :: r) else none
  | _ => none
def s_rem (st : List SV) : Option (List SV) := match st with
  | .inl (.inl b) :: .inr (2, false) :: r => if b = 100 then some (.inr (10, false) :: r) else none
  | _ => none
/-- a switch: whether the number lies outside the table (true), or a split -/
def s_rng (E : SE) (v : SV) (lo hi : Int) : Bool ⊕ SP := match v with
  | .inr (k, false) => if (s_iv E k).2 < lo ∨ hi < (s_iv E k).1 then .inl true else if lo ≤ (s_iv E k).1 ∧ (s_iv E k).2 ≤ hi then .inl false else if (s_iv E k).1 < lo then .inr (k, lo) else .inr (k, hi + 1)
  | _ => .inl false
theorem s_rng_ok {ρ : Nat → Int32} {E : SE} (hE : s_in ρ E) {v : SV} {lo hi : Int} (h : s_rng E v lo hi = .inl true) : ∃ x : Int32, s_val ρ v = .inl x ∧ (x.toInt < lo ∨ hi < x.toInt) := by
  unfold s_rng at h
  split at h
  · rename_i k
    obtain ⟨h1, h2⟩ := hE.2 k
    split at h
    · exact ⟨ρ k, rfl, by omega⟩
    split at h
    · cases h
    split at h <;> cases h
  · cases h
/-- the copied stretch, written out -/
def s_cp (A : SW) (a0 a sp dp n : Nat) (c : SC) : SW := (A.1, A.2.1, A.2.2.1, s_setc A.2.2.2 a (c.1, (List.range n).map (fun j => (dp + j, s_intV (s_mem A.2.2.2 a0 (sp + j)))) ++ c.2))
def s_step (E : SE) (mid d : Nat) (i : Instr) (pc : Nat) (L : SL) (st : List SV) (A : SW) : Option SR := match i with
  | .iconst n => s_nx (pc + 1) L (.inl (.inl (Int32.ofInt n)) :: st) A
  | .bipush n => s_nx (pc + 2) L (.inl (.inl (Int8.ofInt n).toInt32) :: st) A
  | .sipush n => s_nx (pc + 3) L (.inl (.inl (Int16.ofInt n).toInt32) :: st) A
  | .lconst n => s_nx (pc + 1) L (.inl (.inr (.inl (Int64.ofNat (n : Nat)))) :: st) A
  | .aconst_null => s_nx (pc + 1) L (.inl (.inr (.inr none)) :: st) A
  | .iload i => s_ld (pc + 2) L st A i s_isI
  | .iload_n k => s_ld (pc + 1) L st A (k : Nat) s_isI
  | .lload i => s_ld (pc + 2) L st A i s_isL
  | .lload_n k => s_ld (pc + 1) L st A (k : Nat) s_isL
  | .aload i => s_ld (pc + 2) L st A i s_isR
  | .aload_n k => s_ld (pc + 1) L st A (k : Nat) s_isR
  | .istore i => s_st1 (pc + 2) (q_nl mid) L st A i s_isI
  | .istore_n k => s_st1 (pc + 1) (q_nl mid) L st A (k : Nat) s_isI
  | .lstore i => s_st2 (pc + 2) (q_nl mid) L st A i
  | .lstore_n k => s_st2 (pc + 1) (q_nl mid) L st A (k : Nat)
  | .astore i => s_st1 (pc + 2) (q_nl mid) L st A i s_isR
  | .astore_n k => s_st1 (pc + 1) (q_nl mid) L st A (k : Nat) s_isR
  | .iinc i n => match s_gets L i with
    | some v => s_wI E v (fun x => if i < q_nl mid then s_nx (pc + 3) (s_store L i (.inl (.inl (x + Int32.ofInt n)))) st A else none)
    | none => none
  | .iadd => s_ii E (pc + 1) L st A (fun x y => some (.inl (x + y)))
  | .isub => s_ii E (pc + 1) L st A (fun x y => some (.inl (x - y)))
  | .imul => s_ii E (pc + 1) L st A (fun x y => some (.inl (x * y)))
  | .idiv => match s_div st with
    | some r => s_nx (pc + 1) L r A
    | none => s_ii E (pc + 1) L st A (fun x y => if y = 0 then none else some (.inl (x / y)))
  | .irem => match s_rem st with
    | some r => s_nx (pc + 1) L r A
    | none => s_ii E (pc + 1) L st A (fun x y => if y = 0 then none else some (.inl (x - x / y * y)))
  | .iand => match s_and63 st with
    | some r => s_nx (pc + 1) L r A
    | none => s_ii E (pc + 1) L st A (fun x y => some (.inl (x &&& y)))
  | .ior => s_ii E (pc + 1) L st A (fun x y => some (.inl (x ||| y)))
  | .ixor => s_ii E (pc + 1) L st A (fun x y => some (.inl (x ^^^ y)))
  | .ishl => s_ii E (pc + 1) L st A (fun x y => some (.inl (x <<< (y &&& 31))))
  | .ishr => s_ii E (pc + 1) L st A (fun x y => some (.inl (x >>> (y &&& 31))))
  | .ineg => s_i1 E (pc + 1) L st A (fun x => .inl (-x))
  | .i2l => match st with
    | .inr (k, false) :: r => s_nx (pc + 1) L (.inr (k, true) :: r) A
    | .inl (.inl x) :: r => s_nx (pc + 1) L (.inl (.inr (.inl x.toInt64)) :: r) A
    | _ => none
  | .i2b => s_i1 E (pc + 1) L st A (fun x => .inl x.toInt8.toInt32)
  | .i2s => s_i1 E (pc + 1) L st A (fun x => .inl x.toInt16.toInt32)
  | .l2i => match st with
    | .inl (.inr (.inl x)) :: r => s_nx (pc + 1) L (.inl (.inl x.toInt32) :: r) A
    | _ => none
  | .ladd => s_ll (pc + 1) L st A (fun x y => some (.inr (.inl (x + y))))
  | .lsub => s_ll (pc + 1) L st A (fun x y => some (.inr (.inl (x - y))))
  | .lmul => s_ll (pc + 1) L st A (fun x y => some (.inr (.inl (x * y))))
  | .ldiv => s_ll (pc + 1) L st A (fun x y => if y = 0 then none else some (.inr (.inl (x / y))))
  | .lcmp => match st with
    | y :: x :: r => match s_ord E true x y with
      | some (.inl o) => s_nx (pc + 1) L (.inl (.inl (Int32.ofInt o)) :: r) A
      | some (.inr z) => some (.inr z)
      | none => none
    | _ => none
  | .dup => match st with
    | v :: r => if s_isL v = true then none else s_nx (pc + 1) L (v :: v :: r) A
    | _ => none
  | .dup2 => match st with
    | v :: u :: r => if s_isL v = true ∨ s_isL u = true then none else s_nx (pc + 1) L (v :: u :: v :: u :: r) A
    | _ => none
  | .goto off => s_to pc off L st A
  | .ifCond c off => match st with
    | x :: r => s_br E pc off L r A c x (.inl (.inl 0))
    | _ => none
  | .if_icmp c off => match st with
    | y :: x :: r => s_br E pc off L r A c x y
    | _ => none
  | .ifnull off => match st with
    | .inl (.inr (.inr none)) :: r => s_to pc off L r A
    | .inl (.inr (.inr (some _))) :: r => s_nx (pc + 3) L r A
    | _ => none
  | .ifnonnull off => match st with
    | .inl (.inr (.inr none)) :: r => s_nx (pc + 3) L r A
    | .inl (.inr (.inr (some _))) :: r => s_to pc off L r A
    | _ => none
  | .tableswitch dflt lo hi offs => match st with
    | v :: r => match s_rng E v lo hi with
      | .inl true => s_to pc dflt L r A
      | .inl false => s_wI E v (fun x => if x.toInt < lo ∨ hi < x.toInt then s_to pc dflt L r A else match offs[(x.toInt - lo).toNat]? with
        | some off => s_to pc off L r A
        | none => none)
      | .inr z => some (.inr z)
    | _ => none
  | .getfield idx => match q_f mid idx, st with
    | some (ci, k), .inl (.inr (.inr (some a))) :: r => match s_cell A.2.2.2 a with
      | some c => if 8 ≤ a ∧ a < A.1 ∧ c.1 = (ci, q_nf ci) then s_nx (pc + 3) L (s_get c k :: r) A else none
      | none => none
    | _, _ => none
  | .putfield idx => match q_f mid idx, st with
    | some (ci, k), v :: .inl (.inr (.inr (some a))) :: r => match s_cell A.2.2.2 a with
      | some c => if 8 ≤ a ∧ a < A.1 ∧ c.1 = (ci, q_nf ci) ∧ q_pf mid idx = true ∧ s_fit (q_ty ci k) v = true then s_nx (pc + 3) L r (s_wr A a k v) else none
      | none => none
    | _, _ => none
  | .iaload => match st with
    | j :: .inl (.inr (.inr (some a))) :: r => s_wI E j (fun x => if a = 0 then none
      else match s_cell A.2.2.2 a with
        | some c => if 8 ≤ a ∧ a < A.1 ∧ c.1.1 = 100 ∧ ¬ x < 0 ∧ x.toNatClampNeg < c.1.2 then s_nx (pc + 1) L (s_intV (s_get c x.toNatClampNeg) :: r) A else none
        | none => none)
    | _ => none
  | .iastore => match st with
    | v :: j :: .inl (.inr (.inr (some a))) :: r => s_wI E j (fun x => match s_cell A.2.2.2 a with
        | some c => if 8 ≤ a ∧ a < A.1 ∧ c.1.1 = 100 ∧ ¬ x < 0 ∧ x.toNatClampNeg < c.1.2 ∧ s_isI v = true then s_nx (pc + 1) L r (s_wr A a x.toNatClampNeg v) else none
        | none => none)
    | _ => none
  | .laload => match st with
    | j :: .inl (.inr (.inr (some a))) :: r => s_wI E j (fun x => match s_cell A.2.2.2 a with
        | some c => if 8 ≤ a ∧ a < A.1 ∧ c.1.1 = 101 ∧ ¬ x < 0 ∧ x.toNatClampNeg < c.1.2 then s_nx (pc + 1) L (s_lngV (s_get c x.toNatClampNeg) :: r) A else none
        | none => none)
    | _ => none
  | .lastore => match st with
    | v :: j :: .inl (.inr (.inr (some a))) :: r => s_wI E j (fun x => match s_cell A.2.2.2 a with
        | some c => if 8 ≤ a ∧ a < A.1 ∧ c.1.1 = 101 ∧ ¬ x < 0 ∧ x.toNatClampNeg < c.1.2 ∧ s_isL v = true then s_nx (pc + 1) L r (s_wr A a x.toNatClampNeg v) else none
        | none => none)
    | _ => none
  | .aaload => match st with
    | j :: .inl (.inr (.inr (some a))) :: r => s_wI E j (fun x => match s_cell A.2.2.2 a with
        | some c => if 8 ≤ a ∧ a < A.1 ∧ 102 ≤ c.1.1 ∧ q_ra (c.1.1 - 102) = true ∧ ¬ x < 0 ∧ x.toNatClampNeg < c.1.2 then s_nx (pc + 1) L (s_refV (s_get c x.toNatClampNeg) :: r) A else none
        | none => none)
    | _ => none
  | .aastore => match st with
    | .inl (.inr (.inr (some b))) :: j :: .inl (.inr (.inr (some a))) :: r => s_wI E j (fun x => match s_cell A.2.2.2 a with
        | some c => if 8 ≤ a ∧ a < A.1 ∧ 102 ≤ c.1.1 ∧ q_ra (c.1.1 - 102) = true ∧ ¬ x < 0 ∧ x.toNatClampNeg < c.1.2 ∧ 8 ≤ b ∧ b < A.1 ∧ (s_shp A.2.2.2 b).1 + 102 = c.1.1 ∧ (s_shp A.2.2.2 b).1 < 100 then s_nx (pc + 1) L r (s_wr A a x.toNatClampNeg (.inl (.inr (.inr (some b))))) else none
        | none => none)
    | _ => none
  | .arraylength => match st with
    | .inl (.inr (.inr (some a))) :: r => if a = 0 then none else match s_cell A.2.2.2 a with
        | some c => if 8 ≤ a ∧ a < A.1 ∧ 100 ≤ c.1.1 ∧ (c.1.1 ≤ 101 ∨ q_ra (c.1.1 - 102) = true) then s_nx (pc + 1) L (.inl (.inl (Int32.ofNat c.1.2)) :: r) A else none
        | none => none
    | _ => none
  | .new idx => match q_c mid idx with
    | some ci => if A.2.1 + 8 = A.1 ∧ ci < 100 then s_nx (pc + 3) L (.inl (.inr (.inr (some A.1))) :: st) (s_mk A (ci, q_nf ci)) else none
    | none => none
  | .newarray t => match st with
    | .inl (.inl n) :: r => if A.2.1 + 8 = A.1 ∧ ¬ n < 0 ∧ n.toNatClampNeg ≤ 60000 then (match t with
      | .int => s_nx (pc + 2) L (.inl (.inr (.inr (some A.1))) :: r) (s_mk A (100, n.toNatClampNeg))
      | .long => s_nx (pc + 2) L (.inl (.inr (.inr (some A.1))) :: r) (s_mk A (101, n.toNatClampNeg))
      | _ => none) else none
    | _ => none
  | .anewarray idx => match st with
    | .inl (.inl n) :: r => if A.2.1 + 8 = A.1 ∧ ¬ n < 0 ∧ n.toNatClampNeg ≤ 60000 then (match q_ca mid idx with
      | some ci => s_nx (pc + 3) L (.inl (.inr (.inr (some A.1))) :: r) (s_mk A (102 + ci, n.toNatClampNeg))
      | none => none) else none
    | _ => none
  | .ldc idx => match q_k mid idx with
    | some (.inl x) => s_nx (pc + 2) L (.inl (.inl x) :: st) A
    | _ => none
  | .ldc_w idx => match q_k mid idx with
    | some (.inl x) => s_nx (pc + 3) L (.inl (.inl x) :: st) A
    | _ => none
  | .ldc2_w idx => match q_k mid idx with
    | some (.inr (.inl x)) => s_nx (pc + 3) L (.inl (.inr (.inl x)) :: st) A
    | _ => none
  | .invokespecial idx => match q_m mid idx, st with
    | some (_, 5), .inl (.inr (.inr (some _))) :: r => if s_cats r ≤ 8 ∧ d ≠ 0 then s_nx (pc + 3) L r A else none
    | _, _ => none
  | .invokestatic idx => match q_m mid idx, st with
    | some (_, 10), .inl (.inl y) :: .inl (.inl x) :: r => if s_cats r ≤ 8 ∧ d ≠ 0 then s_nx (pc + 3) L (.inl (.inl (if x < y then y else x)) :: r) A else none
    | some (_, 11), .inl (.inl y) :: .inl (.inl x) :: r => if s_cats r ≤ 8 ∧ d ≠ 0 then s_nx (pc + 3) L (.inl (.inl (if y < x then y else x)) :: r) A else none
    | some (_, 12), .inl (.inl x) :: r => if s_cats r ≤ 8 ∧ d ≠ 0 then s_nx (pc + 3) L (.inl (.inl (if 0 ≤ x then x else 0 - x)) :: r) A else none
    | some (_, 9), .inl (.inl n) :: .inl (.inl dp) :: .inl (.inr (.inr (some a))) :: .inl (.inl sp) :: .inl (.inr (.inr (some a0))) :: r => match s_cell A.2.2.2 a with
      | some c => if 8 ≤ a ∧ a < A.1 ∧ c.1.1 = 100 ∧ 8 ≤ a0 ∧ a0 < A.1 ∧ (s_shp A.2.2.2 a0).1 = 100 ∧ ¬ sp < 0 ∧ ¬ dp < 0 ∧ ¬ n < 0 ∧ sp.toNatClampNeg + n.toNatClampNeg ≤ (s_shp A.2.2.2 a0).2 ∧ dp.toNatClampNeg + n.toNatClampNeg ≤ c.1.2 ∧ s_cats r ≤ 8 ∧ d ≠ 0 then
          s_nx (pc + 3) L r (s_cp A a0 a sp.toNatClampNeg dp.toNatClampNeg n.toNatClampNeg c) else none
      | none => none
    | _, _ => none
  | _ => none
end
