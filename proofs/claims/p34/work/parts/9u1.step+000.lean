def s_isI : SV → Bool
  | .inl m => m_isI m
  | .inr (_, b) => !b
def s_isL : SV → Bool
  | .inl m => m_isL m
  | .inr (_, b) => b
def s_isR : SV → Bool
  | .inl m => m_isR m
  | .inr _ => false
theorem s_isI_val (ρ : Nat → Int32) (v : SV) : m_isI (s_val ρ v) = s_isI v := by rcases v with m | ⟨k, _ | _⟩ <;> rfl
theorem s_isL_val (ρ : Nat → Int32) (v : SV) : m_isL (s_val ρ v) = s_isL v := by rcases v with m | ⟨k, _ | _⟩ <;> rfl
theorem s_isR_val (ρ : Nat → Int32) (v : SV) : m_isR (s_val ρ v) = s_isR v := by rcases v with m | ⟨k, _ | _⟩ <;> rfl
def s_gets : SL → Nat → Option SV
  | [], _ => none
  | (j, v) :: t, i => bif Nat.beq j i then some v else s_gets t i
theorem s_gets_val (ρ : Nat → Int32) (i : Nat) : ∀ L : SL, m_get (sl_val ρ L) i = (s_gets L i).map (s_val ρ)
  | [] => rfl
  | (j, v) :: t => by
    have ih := s_gets_val ρ i t
    show (if j = i then some (s_val ρ v) else m_get (sl_val ρ t) i) = _
    unfold s_gets
    by_cases h : j = i
    · subst h; simp
    · rw [if_neg h, ih]
      have : Nat.beq j i = false := by
        cases hb : Nat.beq j i with
        | false => rfl
        | true => exact absurd (Nat.eq_of_beq_eq_true hb) h
      rw [this]; rfl
def s_store (L : SL) (i : Nat) (v : SV) : SL := (i, v) :: L.filter (fun q => !(q.1 == i) && !(q.1 + 1 == i && s_isL q.2))
def s_store2 (L : SL) (i : Nat) (v : SV) : SL := (i, v) :: L.filter (fun q => !(q.1 == i) && (!(q.1 == i + 1) && !(q.1 + 1 == i && s_isL q.2)))
theorem s_store_val (ρ : Nat → Int32) (L : SL) (i : Nat) (v : SV) : sl_val ρ (s_store L i v) = m_store (sl_val ρ L) i (s_val ρ v) := by
  simp only [sl_val, s_store, m_store, List.map_cons, List.filter_map, Function.comp_def, s_isL_val]
theorem s_store2_val (ρ : Nat → Int32) (L : SL) (i : Nat) (v : SV) : sl_val ρ (s_store2 L i v) = m_store2 (sl_val ρ L) i (s_val ρ v) := by
  simp only [sl_val, s_store2, m_store2, List.map_cons, List.filter_map, Function.comp_def, s_isL_val]
/-- the next state, or a number to be split at -/
abbrev SR : Type := (Nat × SL × List SV × SW) ⊕ SP
def s_exI (E : SE) (v : SV) : Option (Int32 ⊕ SP) := match v with
  | .inl (.inl x) => some (.inl x)
  | .inr (k, false) => if (s_iv E k).1 = (s_iv E k).2 then some (.inl (Int32.ofInt (s_iv E k).1)) else if (s_iv E k).2 ≤ (s_iv E k).1 + 130 then some (.inr (k, (s_iv E k).1 + 1)) else none
  | _ => none
theorem s_exI_ok {ρ : Nat → Int32} {E : SE} (hE : s_in ρ E) {v : SV} {x : Int32} (h : s_exI E v = some (.inl x)) : s_val ρ v = .inl x := by
  unfold s_exI at h
  split at h
  · cases h; rfl
  · rename_i k
    split at h
    · rename_i hk
      cases h
      obtain ⟨h1, h2⟩ := hE.2 k
      show Sum.inl (ρ k) = _
      congr 1
      rw [← Int32.ofInt_toInt (ρ k)]
      congr 1
      omega
    · split at h <;> cases h
  · cases h
def s_wI (E : SE) (v : SV) (f : Int32 → Option SR) : Option SR := match s_exI E v with
  | some (.inl x) => f x
  | some (.inr z) => some (.inr z)
  | none => none
theorem s_wI_ok {E : SE} {v : SV} {f : Int32 → Option SR} {r : Nat × SL × List SV × SW} (h : s_wI E v f = some (.inl r)) : ∃ x, s_exI E v = some (.inl x) ∧ f x = some (.inl r) := by
  unfold s_wI at h
  split at h
  · rename_i x hx
    exact ⟨x, hx, h⟩
  · cases h
  · cases h
def s_sgn (a b : Int) : Int := if a < b then -1 else if a = b then 0 else 1
/-- number 2 divided by D, against c: by number 2's own interval -/
def s_ordq (E : SE) (D c : Int) : Int ⊕ SP :=
  if (s_iv E 2).1 < 0 then (if (s_iv E 2).2 < 0 then .inr (11, 0) else .inr (2, 0)) else if (s_iv E 2).2 < c * D then .inl (-1) else if (c + 1) * D ≤ (s_iv E 2).1 then .inl 1 else if c * D ≤ (s_iv E 2).1 ∧ (s_iv E 2).2 < (c + 1) * D then .inl 0 else if (s_iv E 2).1 < c * D then .inr (2, c * D) else .inr (2, (c + 1) * D)
def s_ordk (E : SE) (k : Nat) (c : Int) : Int ⊕ SP :=
  if k = 8 ∧ 0 ≤ c then s_ordq E 10000 c else if k = 9 ∧ 0 ≤ c then s_ordq E 100 c else if (s_iv E k).2 < c then .inl (-1) else if c < (s_iv E k).1 then .inl 1 else if (s_iv E k).1 = (s_iv E k).2 then .inl 0 else if (s_iv E k).1 < c then .inr (k, c) else .inr (k, c + 1)
def s_neg : Int ⊕ SP → Int ⊕ SP
  | .inl o => .inl (-o)
  | .inr z => .inr z
def s_num : Bool → MV → Option Int
  | false, .inl a => some a.toInt
  | true, .inr (.inl a) => some a.toInt
  | _, _ => none
def s_ord (E : SE) (b : Bool) (x y : SV) : Option (Int ⊕ SP) := match x, y with
  | .inl m, .inl m' => match s_num b m, s_num b m' with
    | some p, some q => some (.inl (s_sgn p q))
    | _, _ => none
  | .inr (k, b'), .inl m => if b' = b then (match s_num b m with
    | some c => some (s_ordk E k c)
    | none => none) else none
  | .inl m, .inr (k, b') => if b' = b then (match s_num b m with
    | some c => some (s_neg (s_ordk E k c))
    | none => none) else none
  | .inr (k, b'), .inr (k', b'') => if b' = b ∧ b'' = b ∧ k = k' then some (.inl 0) else none
theorem s_num_sym (ρ : Nat → Int32) (k : Nat) (b : Bool) : s_num b (s_val ρ (.inr (k, b))) = some (ρ k).toInt := by
  cases b
  · rfl
  · show some (ρ k).toInt64.toInt = _
    rw [Int32.toInt_toInt64]
theorem s_ordq_ok {ρ : Nat → Int32} {E : SE} (hE : s_in ρ E) {D c o : Int} {d : Int32} (hd : d.toInt = D) (hD : 0 < D) (hc : 0 ≤ c) (hd1 : d ≠ -1) (h : s_ordq E D c = .inl o) : o = s_sgn (ρ 2 / d).toInt c := by
  obtain ⟨h1, h2⟩ := hE.2 2
  unfold s_ordq at h
  split at h
  · split at h <;> cases h
  · rename_i hlo
    have hx0 : 0 ≤ (ρ 2).toInt := by omega
    have hq : (ρ 2 / d).toInt = (ρ 2).toInt / D := by
      rw [Int32.toInt_div_of_ne_right _ _ hd1, hd, Int.tdiv_eq_ediv_of_nonneg hx0]
    rw [hq]
    unfold s_sgn
    have hdm := Int.mul_ediv_add_emod (ρ 2).toInt D
    have hm0 := Int.emod_nonneg (ρ 2).toInt (Int.ne_of_gt hD)
    have hm1 := Int.emod_lt_of_pos (ρ 2).toInt hD
    split at h
    · rename_i hh
      cases h
      have : (ρ 2).toInt / D < c := Int.ediv_lt_of_lt_mul hD (by omega)
      rw [if_pos this]
    split at h
    · rename_i hh
      cases h
      have : c + 1 ≤ (ρ 2).toInt / D := Int.le_ediv_of_mul_le hD (by omega)
      rw [if_neg (by omega), if_neg (by omega)]
    split at h
    · rename_i hh
      cases h
      have a1 : c ≤ (ρ 2).toInt / D := Int.le_ediv_of_mul_le hD (by omega)
      have a2 : (ρ 2).toInt / D < c + 1 := Int.ediv_lt_of_lt_mul hD (by omega)
      rw [if_neg (by omega), if_pos (by omega)]
    split at h <;> cases h
