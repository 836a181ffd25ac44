/-! THE WORLD BEHIND THE CONSTRUCTORS, in whole numbers -/
def x_r0 : Nat → Int32 := fun _ => 0
theorem x_d0 : s_drv x_r0 := by
  refine ⟨?_, ?_, ?_, ?_⟩ <;> decide
def x_w3 : MWd := s_w x_r0 x_A3
def x_toI : SV → Int
  | .inl (.inl y) => y.toInt
  | .inl (.inr (.inl y)) => y.toInt
  | _ => 0
def x_i (a k : Nat) : Int := if a < 214 ∧ k < (e_sh a).2 then x_toI (s_mem x_A3.2.2.2 a k) else 0
/-- the static tables -/
def x_t (a k : Nat) : Int32 := Int32.ofInt ((([[], [100, 50, 50, 40], [6, 2, 2, 6], [1, 1, 0, -1, -1, -1, 0, 1], [0, 1, 1, 1, 0, -1, -1, -1]] : List (List Int)).getD a []).getD k 0)
def x_M (L : Nat) (xs : Nat → Int32) : EM := fun a k => if a = 0 then (xs k).toInt else if a < 5 then (x_t a k).toInt else if a = 5 then (if k = 1 then (L : Int) else 0) else if a < 8 then 0 else x_i a k
def x_ro (L : Nat) (xs : Nat → Int32) : MRo := fun a => if a = 0 then some (L, xs) else if a = 1 then some (4, x_t 1) else if a = 2 then some (4, x_t 2) else if a = 3 then some (8, x_t 3) else if a = 4 then some (8, x_t 4) else none
theorem x_M8 {L : Nat} {xs : Nat → Int32} {a k : Nat} (h : 8 ≤ a) : x_M L xs a k = x_i a k := by
  unfold x_M
  rw [if_neg (by omega), if_neg (by omega), if_neg (by omega), if_neg (by omega)]
/-- a cell of an object is of its kind, with what the trees' world says -/
def x_vb (t : Nat) (x : Int) : SV → Bool
  | .inl (.inl y) => (Nat.beq t 0 || (Nat.beq t 3 && (decide (x = 0) || decide (x = 1)))) && decide (y.toInt = x)
  | .inl (.inr (.inl y)) => Nat.beq t 1 && decide (y.toInt = x)
  | .inl (.inr (.inr none)) => Nat.beq t 2 && decide (x = -1)
  | .inl (.inr (.inr (some a))) => Nat.beq t 2 && decide (x = (a : Int))
  | .inr _ => false
theorem x_vb_ok {t : Nat} {x : Int} {v : SV} {ρ : Nat → Int32} (h : x_vb t x v = true) : e_v t x (s_val ρ v) := by
  match v, h with
  | .inl (.inl y), h =>
    unfold x_vb at h
    simp only [Bool.and_eq_true, Bool.or_eq_true, decide_eq_true_eq] at h
    obtain ⟨h1 | ⟨h1, h2⟩, h3⟩ := h
    · rw [Nat.eq_of_beq_eq_true h1]
      exact ⟨y, rfl, h3⟩
    · rw [Nat.eq_of_beq_eq_true h1]
      exact ⟨h2, y, rfl, h3⟩
  | .inl (.inr (.inl y)), h =>
    unfold x_vb at h
    simp only [Bool.and_eq_true, decide_eq_true_eq] at h
    rw [Nat.eq_of_beq_eq_true h.1]
    exact ⟨y, rfl, h.2⟩
  | .inl (.inr (.inr none)), h =>
    unfold x_vb at h
    simp only [Bool.and_eq_true, decide_eq_true_eq] at h
    rw [Nat.eq_of_beq_eq_true h.1]
    exact Or.inl ⟨h.2, rfl⟩
  | .inl (.inr (.inr (some a))), h =>
    unfold x_vb at h
    simp only [Bool.and_eq_true, decide_eq_true_eq] at h
    rw [Nat.eq_of_beq_eq_true h.1]
    exact Or.inr ⟨a, h.2, rfl⟩
/-- rows of ints and of longs stand as they were made -/
def x_row (a : Nat) : Bool := match s_cell x_A3.2.2.2 a with
  | some c => c.2.isEmpty && decide (c.1 = e_sh a)
  | none => false
def x_obj (a : Nat) : Bool := (List.range (e_sh a).2).all fun k => x_vb (e_ty a k) (if e_ty a k = 2 then e_gr a k else x_i a k) (s_mem x_A3.2.2.2 a k) && decide (-2147483648 ≤ x_i a k) && decide (x_i a k ≤ 2147483647)
def x_isr (a : Nat) : Bool := Nat.beq (e_sh a).1 100 || Nat.beq (e_sh a).1 101
set_option maxRecDepth 100000 in
theorem x_cells : ((List.range 214).all fun a => Nat.ble a 7 || (if x_isr a = true then x_row a else x_obj a)) = true := by decide +kernel
theorem x_cell {a : Nat} (h8 : 8 ≤ a) (h : a < 214) : (x_isr a = true ∧ x_row a = true) ∨ (x_isr a = false ∧ x_obj a = true) := by
  have h1 := List.all_eq_true.mp x_cells a (List.mem_range.mpr h)
  rw [Bool.or_eq_true] at h1
  rcases h1 with h1 | h1
  · have := Nat.le_of_ble_eq_true h1; omega
  · cases hr : x_isr a with
    | true => rw [hr, if_pos rfl] at h1; exact Or.inl ⟨rfl, h1⟩
    | false => rw [hr, if_neg (by decide)] at h1; exact Or.inr ⟨rfl, h1⟩
theorem x_row_ok {a : Nat} (h : x_isr a = true) (hr : x_row a = true) (k : Nat) : s_mem x_A3.2.2.2 a k = .inl (s_dflt (e_sh a).1 k) := by
  unfold x_row at hr
  unfold s_mem
  split at hr
  · rename_i c hc
    rw [hc]
    simp only [Bool.and_eq_true, decide_eq_true_eq] at hr
    unfold s_get
    obtain ⟨c1, c2⟩ := c
    obtain ⟨hr1, hr2⟩ := hr
    dsimp only at hr1 hr2 ⊢
    rw [List.isEmpty_iff.mp hr1, hr2]
    rfl
  · cases hr
theorem x_i0 {a : Nat} (h8 : 8 ≤ a) (h : (e_sh a).1 = 100) (k : Nat) : x_i a k = 0 := by
  unfold x_i
  by_cases c : a < 214 ∧ k < (e_sh a).2
  · rw [if_pos c]
    rcases x_cell h8 c.1 with ⟨h1, h2⟩ | ⟨h1, h2⟩
    · rw [x_row_ok h1 h2, h]
      rfl
    · exfalso
      unfold x_isr at h1
      rw [h] at h1
      exact absurd h1 (by decide)
  · rw [if_neg c]
theorem x_i32 {a : Nat} (h8 : 8 ≤ a) (k : Nat) : -2147483648 ≤ x_i a k ∧ x_i a k ≤ 2147483647 := by
  by_cases c : a < 214 ∧ k < (e_sh a).2
  · rcases x_cell h8 c.1 with ⟨h1, h2⟩ | ⟨h1, h2⟩
    · have e : x_i a k = 0 := by
        unfold x_i
        rw [if_pos c, x_row_ok h1 h2]
        unfold x_isr at h1
        rw [Bool.or_eq_true] at h1
        rcases h1 with h1 | h1
        · rw [Nat.eq_of_beq_eq_true h1]; rfl
        · rw [Nat.eq_of_beq_eq_true h1]; rfl
      rw [e]
      decide
    · unfold x_obj at h2
      have h3 := List.all_eq_true.mp h2 k (List.mem_range.mpr c.2)
      simp only [Bool.and_eq_true, decide_eq_true_eq] at h3
      exact ⟨h3.1.2, h3.2⟩
  · unfold x_i
    rw [if_neg c]
    decide
theorem x_shp : ((List.range 214).all fun a => Nat.ble a 7 || decide (s_shp x_A3.2.2.2 a = e_sh a)) = true := by decide +kernel
theorem x_tb (a k : Nat) : -2147483648 ≤ (x_t a k).toInt ∧ (x_t a k).toInt ≤ 2147483647 := e_rng _
theorem x_wr {L : Nat} {xs : Nat → Int32} (hL : L ≤ 3072) : e_wr (x_ro L xs) (x_M L xs) x_w3 := by
  have m50 : x_M L xs 5 0 = 0 := rfl
  refine ⟨rfl, fun a h8 h => ?_, fun a k h8 h hk => ?_, by rw [m50]; decide, by rw [m50]; rfl, by rw [m50]; rfl, fun a ha hs => ?_⟩
  · have h1 := List.all_eq_true.mp x_shp a (List.mem_range.mpr h)
    rw [Bool.or_eq_true] at h1
    rcases h1 with h1 | h1
    · have := Nat.le_of_ble_eq_true h1; omega
    · exact of_decide_eq_true h1
  · rw [x_M8 h8]
    show e_v (e_ty a k) _ (s_val x_r0 (s_mem x_A3.2.2.2 a k))
    rcases x_cell h8 h with ⟨h1, h2⟩ | ⟨h1, h2⟩
    · have hi : x_i a k = x_toI (s_mem x_A3.2.2.2 a k) := if_pos ⟨h, hk⟩
      rw [hi, x_row_ok h1 h2]
      unfold x_isr at h1
      rw [Bool.or_eq_true] at h1
      rcases h1 with h1 | h1
      · have e := Nat.eq_of_beq_eq_true h1
        have et : e_ty a k = 0 := by unfold e_ty; rw [e]; rfl
        rw [et, e]
        exact ⟨0, rfl, rfl⟩
      · have e := Nat.eq_of_beq_eq_true h1
        have et : e_ty a k = 1 := by unfold e_ty; rw [e]; rfl
        rw [et, e]
        exact ⟨0, rfl, rfl⟩
    · unfold x_obj at h2
      have h3 := List.all_eq_true.mp h2 k (List.mem_range.mpr hk)
      simp only [Bool.and_eq_true, decide_eq_true_eq] at h3
      exact x_vb_ok h3.1.1
  · have h5 : a = 0 ∨ a = 1 ∨ a = 2 ∨ a = 3 ∨ a = 4 := by
      have key : ∀ k : Fin 8, (e_sh k.val).1 = 100 → k.val < 5 := by decide +kernel
      have := key ⟨a, ha⟩ hs
      dsimp only at this
      omega
    rcases h5 with rfl | rfl | rfl | rfl | rfl
    · refine ⟨L, xs, rfl, ?_, by omega, fun k _ => rfl⟩
      unfold e_sz
      rw [if_pos rfl]
      show ((L : Int)).toNat = L
      omega
    · exact ⟨4, x_t 1, rfl, rfl, by decide, fun k _ => rfl⟩
    · exact ⟨4, x_t 2, rfl, rfl, by decide, fun k _ => rfl⟩
    · exact ⟨8, x_t 3, rfl, rfl, by decide, fun k _ => rfl⟩
    · exact ⟨8, x_t 4, rfl, rfl, by decide, fun k _ => rfl⟩
