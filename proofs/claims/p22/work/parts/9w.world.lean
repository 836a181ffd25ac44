section
/-! THE WORLD BEHIND THE CONSTRUCTORS, in whole numbers -/
def x_r0 : Nat → Int32 := fun _ => 0
theorem x_d0 : s_drv x_r0 := by
  refine ⟨?_, ?_, ?_, ?_⟩ <;> decide
def x_w3 : MWd := s_w x_r0 x_A3
def x_toI : SV → Int
  | .inl (.inl y) => y.toInt
  | .inl (.inr (.inl y)) => y.toInt
  | _ => 0
def x_i (a k : Nat) : Int := if a < 214 ∧ k < (e_sh a).2 then x_toI (s_mem x_A3.2.2.2 a k) else 0
/-- the static tables -/
def x_t (a k : Nat) : Int32 := Int32.ofInt ((([[], [100, 50, 50, 40], [6, 2, 2, 6], [1, 1, 0, -1, -1, -1, 0, 1], [0, 1, 1, 1, 0, -1, -1, -1]] : List (List Int)).getD a []).getD k 0)
def x_M (L : Nat) (xs : Nat → Int32) : EM := fun a k => if a = 0 then (xs k).toInt else if a < 5 then (x_t a k).toInt else if a = 5 then (if k = 1 then (L : Int) else 0) else if a < 8 then 0 else x_i a k
def x_ro (L : Nat) (xs : Nat → Int32) : MRo := fun a => if a = 0 then some (L, xs) else if a = 1 then some (4, x_t 1) else if a = 2 then some (4, x_t 2) else if a = 3 then some (8, x_t 3) else if a = 4 then some (8, x_t 4) else none
theorem x_M8 {L : Nat} {xs : Nat → Int32} {a k : Nat} (h : 8 ≤ a) : x_M L xs a k = x_i a k := by
  unfold x_M
  rw [if_neg (by omega), if_neg (by omega), if_neg (by omega), if_neg (by omega)]
/-- a cell of an object is of its kind, with what the trees' world says -/
def x_vb (t : Nat) (x : Int) : SV → Bool
  | .inl (.inl y) => (Nat.beq t 0 || (Nat.beq t 3 && (decide (x = 0) || decide (x = 1)))) && decide (y.toInt = x)
  | .inl (.inr (.inl y)) => Nat.beq t 1 && decide (y.toInt = x)
  | .inl (.inr (.inr none)) => Nat.beq t 2 && decide (x = -1)
  | .inl (.inr (.inr (some a))) => Nat.beq t 2 && decide (x = (a : Int))
  | .inr _ => false
theorem x_vb_ok {t : Nat} {x : Int} {v : SV} {ρ : Nat → Int32} (h : x_vb t x v = true) : e_v t x (s_val ρ v) := by
  match v, h with
  | .inl (.inl y), h =>
    unfold x_vb at h
    simp only [Bool.and_eq_true, Bool.or_eq_true, decide_eq_true_eq] at h
    obtain ⟨h1 | ⟨h1, h2⟩, h3⟩ := h
    · rw [Nat.eq_of_beq_eq_true h1]
      exact ⟨y, rfl, h3⟩
    · rw [Nat.eq_of_beq_eq_true h1]
      exact ⟨h2, y, rfl, h3⟩
  | .inl (.inr (.inl y)), h =>
    unfold x_vb at h
    simp only [Bool.and_eq_true, decide_eq_true_eq] at h
    rw [Nat.eq_of_beq_eq_true h.1]
    exact ⟨y, rfl, h.2⟩
  | .inl (.inr (.inr none)), h =>
    unfold x_vb at h
    simp only [Bool.and_eq_true, decide_eq_true_eq] at h
    rw [Nat.eq_of_beq_eq_true h.1]
    exact Or.inl ⟨h.2, rfl⟩
  | .inl (.inr (.inr (some a))), h =>
    unfold x_vb at h
    simp only [Bool.and_eq_true, decide_eq_true_eq] at h
    rw [Nat.eq_of_beq_eq_true h.1]
    exact Or.inr ⟨a, h.2, rfl⟩
/-- rows of ints and of longs stand as they were made -/
def x_row (a : Nat) : Bool := match s_cell x_A3.2.2.2 a with
  | some c => c.2.isEmpty && decide (c.1 = e_sh a)
  | none => false
def x_obj (a : Nat) : Bool := (List.range (e_sh a).2).all fun k => x_vb (e_ty a k) (if e_ty a k = 2 then e_gr a k else x_i a k) (s_mem x_A3.2.2.2 a k) && decide (-2147483648 ≤ x_i a k) && decide (x_i a k ≤ 2147483647)
def x_isr (a : Nat) : Bool := Nat.beq (e_sh a).1 100 || Nat.beq (e_sh a).1 101
set_option maxRecDepth 100000 in
theorem x_cells : ((List.range 214).all fun a => Nat.ble a 7 || (if x_isr a = true then x_row a else x_obj a)) = true := by decide +kernel
theorem x_cell {a : Nat} (h8 : 8 ≤ a) (h : a < 214) : (x_isr a = true ∧ x_row a = true) ∨ (x_isr a = false ∧ x_obj a = true) := by
  have h1 := List.all_eq_true.mp x_cells a (List.mem_range.mpr h)
  rw [Bool.or_eq_true] at h1
  rcases h1 with h1 | h1
  · have := Nat.le_of_ble_eq_true h1; omega
  · cases hr : x_isr a with
    | true => rw [hr, if_pos rfl] at h1; exact Or.inl ⟨rfl, h1⟩
    | false => rw [hr, if_neg (by decide)] at h1; exact Or.inr ⟨rfl, h1⟩
theorem x_row_ok {a : Nat} (h : x_isr a = true) (hr : x_row a = true) (k : Nat) : s_mem x_A3.2.2.2 a k = .inl (s_dflt (e_sh a).1 k) := by
  unfold x_row at hr
  unfold s_mem
  split at hr
  · rename_i c hc
    rw [hc]
    simp only [Bool.and_eq_true, decide_eq_true_eq] at hr
    unfold s_get
    obtain ⟨c1, c2⟩ := c
    obtain ⟨hr1, hr2⟩ := hr
    dsimp only at hr1 hr2 ⊢
    rw [List.isEmpty_iff.mp hr1, hr2]
    rfl
  · cases hr
theorem x_i0 {a : Nat} (h8 : 8 ≤ a) (h : (e_sh a).1 = 100) (k : Nat) : x_i a k = 0 := by
  unfold x_i
  by_cases c : a < 214 ∧ k < (e_sh a).2
  · rw [if_pos c]
    rcases x_cell h8 c.1 with ⟨h1, h2⟩ | ⟨h1, h2⟩
    · rw [x_row_ok h1 h2, h]
      rfl
    · exfalso
      unfold x_isr at h1
      rw [h] at h1
      exact absurd h1 (by decide)
  · rw [if_neg c]
theorem x_i32 {a : Nat} (h8 : 8 ≤ a) (k : Nat) : -2147483648 ≤ x_i a k ∧ x_i a k ≤ 2147483647 := by
  by_cases c : a < 214 ∧ k < (e_sh a).2
  · rcases x_cell h8 c.1 with ⟨h1, h2⟩ | ⟨h1, h2⟩
    · have e : x_i a k = 0 := by
        unfold x_i
        rw [if_pos c, x_row_ok h1 h2]
        unfold x_isr at h1
        rw [Bool.or_eq_true] at h1
        rcases h1 with h1 | h1
        · rw [Nat.eq_of_beq_eq_true h1]; rfl
        · rw [Nat.eq_of_beq_eq_true h1]; rfl
      rw [e]
      decide
    · unfold x_obj at h2
      have h3 := List.all_eq_true.mp h2 k (List.mem_range.mpr c.2)
      simp only [Bool.and_eq_true, decide_eq_true_eq] at h3
      exact ⟨h3.1.2, h3.2⟩
  · unfold x_i
    rw [if_neg c]
    decide
theorem x_shp : ((List.range 214).all fun a => Nat.ble a 7 || decide (s_shp x_A3.2.2.2 a = e_sh a)) = true := by decide +kernel
theorem x_tb (a k : Nat) : -2147483648 ≤ (x_t a k).toInt ∧ (x_t a k).toInt ≤ 2147483647 := e_rng _
theorem x_wr {L : Nat} {xs : Nat → Int32} (hL : L ≤ 3072) : e_wr (x_ro L xs) (x_M L xs) x_w3 := by
  have m50 : x_M L xs 5 0 = 0 := rfl
  refine ⟨rfl, fun a h8 h => ?_, fun a k h8 h hk => ?_, by rw [m50]; decide, by rw [m50]; rfl, by rw [m50]; rfl, fun a ha hs => ?_⟩
  · have h1 := List.all_eq_true.mp x_shp a (List.mem_range.mpr h)
    rw [Bool.or_eq_true] at h1
    rcases h1 with h1 | h1
    · have := Nat.le_of_ble_eq_true h1; omega
    · exact of_decide_eq_true h1
  · rw [x_M8 h8]
    show e_v (e_ty a k) _ (s_val x_r0 (s_mem x_A3.2.2.2 a k))
    rcases x_cell h8 h with ⟨h1, h2⟩ | ⟨h1, h2⟩
    · have hi : x_i a k = x_toI (s_mem x_A3.2.2.2 a k) := if_pos ⟨h, hk⟩
      rw [hi, x_row_ok h1 h2]
      unfold x_isr at h1
      rw [Bool.or_eq_true] at h1
      rcases h1 with h1 | h1
      · have e := Nat.eq_of_beq_eq_true h1
        have et : e_ty a k = 0 := by unfold e_ty; rw [e]; rfl
        rw [et, e]
        exact ⟨0, rfl, rfl⟩
      · have e := Nat.eq_of_beq_eq_true h1
        have et : e_ty a k = 1 := by unfold e_ty; rw [e]; rfl
        rw [et, e]
        exact ⟨0, rfl, rfl⟩
    · unfold x_obj at h2
      have h3 := List.all_eq_true.mp h2 k (List.mem_range.mpr hk)
      simp only [Bool.and_eq_true, decide_eq_true_eq] at h3
      exact x_vb_ok h3.1.1
  · have h5 : a = 0 ∨ a = 1 ∨ a = 2 ∨ a = 3 ∨ a = 4 := by
      have key : ∀ k : Fin 8, (e_sh k.val).1 = 100 → k.val < 5 := by decide +kernel
      have := key ⟨a, ha⟩ hs
      dsimp only at this
      omega
    rcases h5 with rfl | rfl | rfl | rfl | rfl
    · refine ⟨L, xs, rfl, ?_, by omega, fun k _ => rfl⟩
      unfold e_sz
      rw [if_pos rfl]
      show ((L : Int)).toNat = L
      omega
    · exact ⟨4, x_t 1, rfl, rfl, by decide, fun k _ => rfl⟩
    · exact ⟨4, x_t 2, rfl, rfl, by decide, fun k _ => rfl⟩
    · exact ⟨8, x_t 3, rfl, rfl, by decide, fun k _ => rfl⟩
    · exact ⟨8, x_t 4, rfl, rfl, by decide, fun k _ => rfl⟩
theorem x_mi : (a_miL.all fun q => Nat.ble 8 q.1 && q.2.all fun s => (List.range (s.2.1 + 1)).all fun k => decide (k < s.1) || (decide (s.2.2.1 ≤ x_i q.1 k) && decide (x_i q.1 k ≤ s.2.2.2))) = true := by decide +kernel
theorem x_aM {L : Nat} {xs : Nat → Int32} : a_M (x_M L xs) := by
  intro id k h5
  have h32 : -2147483648 ≤ x_M L xs id k ∧ x_M L xs id k ≤ 2147483647 := by
    unfold x_M
    by_cases c0 : id = 0
    · rw [if_pos c0]; exact e_rng _
    · rw [if_neg c0]
      rcases Nat.lt_or_ge id 5 with c1 | c1
      · rw [if_pos c1]; exact e_rng _
      · rw [if_neg (Nat.not_lt.mpr c1), if_neg h5]
        rcases Nat.lt_or_ge id 8 with c2 | c2
        · rw [if_pos c2]; decide
        · rw [if_neg (Nat.not_lt.mpr c2)]; exact x_i32 (by omega) k
  refine ⟨?_, ?_, fun s hs h1 h2 => ?_⟩
  · unfold a_lo; split <;> omega
  · unfold a_hi; split <;> omega
  · unfold a_mi at hs
    cases hq : q_find a_miL id with
    | none => rw [hq] at hs; cases hs
    | some l =>
      rw [hq] at hs
      have hm := List.all_eq_true.mp x_mi _ (q_find_mem hq)
      rw [Bool.and_eq_true] at hm
      have hs1 := List.all_eq_true.mp hm.2 s hs
      have hk := List.all_eq_true.mp hs1 k (List.mem_range.mpr (by omega))
      rw [x_M8 (Nat.le_of_ble_eq_true hm.1)]
      simp only [Bool.and_eq_true, Bool.or_eq_true, decide_eq_true_eq] at hk
      rcases hk with hk | hk
      · omega
      · exact hk
theorem x_J {L : Nat} {xs : Nat → Int32} : r_J (x_M L xs) := by
  have e1 : ∀ i, r_G (x_M L xs) i = 0 := fun i => (x_M8 (by decide)).trans (x_i0 (by decide) (by decide +kernel) _)
  have e7 : ∀ j, x_M L xs 197 j = 0 := fun j => (x_M8 (by decide)).trans (x_i0 (by decide) (by decide +kernel) _)
  have e9 : x_M L xs 192 9 = 0 := (x_M8 (by decide)).trans (by decide +kernel)
  have e20 : x_M L xs 192 20 = -1 := (x_M8 (by decide)).trans (by decide +kernel)
  refine ⟨x_aM, fun j hj => by rw [e7]; decide, ?_, fun h => absurd e9 h, e20⟩
  refine ⟨by rw [e1]; decide, by rw [e1]; decide, fun x x0 x1 => by rw [e1] at x1; omega, by rw [e1]; decide, by rw [e1]; decide, fun h _ _ => ?_, by rw [e1]; decide, by rw [e1]; decide⟩
  rw [e1, e1]
  decide
theorem x_rels : ((p_P.all fun q => decide (x_i q.1 q.2.1 = x_i 193 q.2.2) && decide (x_i (q.1 + 68) q.2.1 = x_i 194 q.2.2)) && decide (x_i 8 2 = x_i 192 9)) = true := by decide +kernel
theorem x_R {L : Nat} {xs : Nat → Int32} : p_R (x_M L xs) := by
  have h := x_rels
  rw [Bool.and_eq_true] at h
  obtain ⟨h1, h2⟩ := h
  have h3 : ∀ q ∈ p_P, x_i q.1 q.2.1 = x_i 193 q.2.2 ∧ x_i (q.1 + 68) q.2.1 = x_i 194 q.2.2 := fun q hq => by
    have := List.all_eq_true.mp h1 q hq
    simpa only [Bool.and_eq_true, decide_eq_true_eq] using this
  refine ⟨fun q hq => ?_, fun q hq => ?_, ?_⟩
  · have b := p_bd q hq
    rw [x_M8 (by omega), x_M8 (by decide)]
    exact (h3 q hq).1
  · rw [x_M8 (by omega), x_M8 (by decide)]
    exact (h3 q hq).2
  · rw [x_M8 (by decide), x_M8 (by decide)]
    exact of_decide_eq_true h2
theorem x_h0 : (x_i 10 0 = 0 ∧ x_i 78 0 = 0 ∧ x_i 165 0 = 0) ∧ ∀ d : Fin 8, x_i (146 + 2 * d.val) 0 = 0 ∧ x_i (146 + 2 * d.val) 1 = 0 := by decide +kernel
theorem x_HR {L : Nat} {xs : Nat → Int32} : h_R (x_M L xs) := by
  obtain ⟨⟨a1, a2, a3⟩, a4⟩ := x_h0
  have e1 : ∀ i, r_G (x_M L xs) i = 0 := fun i => (x_M8 (by decide)).trans (x_i0 (by decide) (by decide +kernel) _)
  have e2 : ∀ i, r_Gi (x_M L xs) i = 0 := fun i => (x_M8 (by decide)).trans (x_i0 (by decide) (by decide +kernel) _)
  refine ⟨x_R, ⟨?_, by rw [e1]; decide, fun q hq => ?_⟩, ⟨?_, by rw [e2]; decide, fun q hq => ?_⟩, fun d hd => Or.inl ⟨?_, ?_, ?_⟩, ?_⟩
  · rw [e1]
    exact (x_M8 (by decide)).trans a1
  · rw [e1] at hq
    omega
  · rw [e2]
    exact (x_M8 (by decide)).trans a2
  · rw [e2] at hq
    omega
  · exact (x_M8 (by decide)).trans (x_i0 (by decide) (by decide +kernel) _)
  · exact (x_M8 (by omega)).trans (a4 ⟨d, hd⟩).1
  · exact (x_M8 (by omega)).trans (a4 ⟨d, hd⟩).2
  · exact (x_M8 (by decide)).trans a3
theorem x_t1 : (x_t 1 0).toInt = 100 ∧ (x_t 1 1).toInt = 50 ∧ (x_t 1 2).toInt = 50 ∧ (x_t 1 3).toInt = 40 := by decide +kernel
theorem x_h1 : x_i 26 6 = 0 ∧ x_i 94 6 = 0 := by decide +kernel
theorem x_HQ {L : Nat} {xs : Nat → Int32} : h_Q (x_M L xs) := by
  have e1 : ∀ i, r_G (x_M L xs) i = 0 := fun i => (x_M8 (by decide)).trans (x_i0 (by decide) (by decide +kernel) _)
  have e2 : ∀ i, r_Gi (x_M L xs) i = 0 := fun i => (x_M8 (by decide)).trans (x_i0 (by decide) (by decide +kernel) _)
  have e3 : ∀ k, x_M L xs 1 k = (x_t 1 k).toInt := fun k => rfl
  obtain ⟨t0, t1, t2, t3⟩ := x_t1
  refine ⟨⟨(e3 0).trans t0, (e3 1).trans t1, (e3 2).trans t2, (e3 3).trans t3⟩, fun q hq => ?_, fun q hq => ?_, ⟨?_, fun h => absurd (e1 _) h, fun i _ => ?_⟩, ⟨?_, fun h => absurd (e2 _) h, fun i _ => ?_⟩⟩
  · rw [e1] at hq
    omega
  · rw [e2] at hq
    omega
  · rw [e1]
    exact (x_M8 (by decide)).trans x_h1.1
  · rw [e1]
    exact (x_M8 (by decide)).trans (x_i0 (by decide) (by decide +kernel) _)
  · rw [e2]
    exact (x_M8 (by decide)).trans x_h1.2
  · rw [e2]
    exact (x_M8 (by decide)).trans (x_i0 (by decide) (by decide +kernel) _)
theorem x_HRC {L : Nat} {xs : Nat → Int32} : h_RC (x_M L xs) := ⟨x_HR, x_HQ⟩
theorem x_hk : x_i 192 22 = 0 ∧ x_i 192 23 = -1 ∧ x_i 192 24 = -1 := by decide +kernel
theorem x_HZ {L : Nat} {xs : Nat → Int32} : h_Z (x_M L xs) := by
  have e1 : ∀ i, r_G (x_M L xs) i = 0 := fun i => (x_M8 (by decide)).trans (x_i0 (by decide) (by decide +kernel) _)
  have e2 : ∀ i, r_Gi (x_M L xs) i = 0 := fun i => (x_M8 (by decide)).trans (x_i0 (by decide) (by decide +kernel) _)
  refine ⟨fun q hq => ?_, fun q hq => ?_, ⟨(x_M8 (by decide)).trans x_hk.1, (x_M8 (by decide)).trans x_hk.2.1, (x_M8 (by decide)).trans x_hk.2.2⟩, (x_M8 (by decide)).trans (x_i0 (by decide) (by decide +kernel) _)⟩
  · rw [e1] at hq
    omega
  · rw [e2] at hq
    omega
theorem x_HRD {L : Nat} {xs : Nat → Int32} : h_RD (x_M L xs) := ⟨x_HRC, x_HZ⟩
theorem x_t2 : (x_t 2 0).toInt = 6 ∧ (x_t 2 1).toInt = 2 ∧ (x_t 2 2).toInt = 2 ∧ (x_t 2 3).toInt = 6 := by decide +kernel
theorem x_t34 : ∀ w : Nat, w < 8 → (x_t 3 w).toInt = sd_dx (w : Int) ∧ (x_t 4 w).toInt = sd_dy (w : Int) := by decide +kernel
theorem x_HE {L : Nat} {xs : Nat → Int32} : h_E (x_M L xs) := by
  have e1 : ∀ i, r_G (x_M L xs) i = 0 := fun i => (x_M8 (by decide)).trans (x_i0 (by decide) (by decide +kernel) _)
  have e2 : ∀ i, r_Gi (x_M L xs) i = 0 := fun i => (x_M8 (by decide)).trans (x_i0 (by decide) (by decide +kernel) _)
  refine ⟨⟨x_t2, fun w hw => x_t34 w hw⟩, ⟨fun k hk => ?_, fun j hj => ?_⟩, ⟨fun k hk => ?_, fun j hj => ?_⟩⟩
  · rw [e1, e1, e1]; decide
  · rw [e1, e1]; decide
  · rw [e2, e2, e2]; decide
  · rw [e2, e2]; decide
theorem x_HRE {L : Nat} {xs : Nat → Int32} : h_RE (x_M L xs) := ⟨x_HRD, x_HE⟩
/-- from the law's loop to its end -/
theorem x_fin {L : Nat} {xs : Nat → Int32} (hL : L ≤ 3072) : ∃ k w', m_run (x_ro L xs) k 60 274 23 (sl_val x_r0 x_L1) [] x_w3 = some (.inl (some (.inl 1)), w') ∧ mcx w' ≤ 601024 ∧ msl w' ≤ 7293034 := by
  obtain ⟨M', hE, h5, h6⟩ := l_loop (n := (L : Int)) ⟨by omega, by omega⟩ _ 0 0 0 0 (x_M L xs) x_J x_HRE rfl (Int.le_of_eq (rfl : (0 : Int) = x_M L xs 5 0)) (Nat.le_refl _) (by decide) (by omega)
  have m50 : x_M L xs 5 0 = 0 := rfl
  rw [m50] at h6
  have hq : e_lb 274 23 = some ([(0, 2), (1, 2), (2, 2), (3, 2), (4, 0)], e_t274_23) := rfl
  have hLr : e_lr (q_nl (e_vm 274)) [(0, 2), (1, 2), (2, 2), (3, 2), (4, 0)] [0, 8, 192, 213, 0, 0, 0, 0] (sl_val x_r0 x_L1) := by
    refine ⟨by decide +kernel, fun i t hi => ?_⟩
    have hm := q_find_mem hi
    simp only [List.mem_cons, Prod.mk.injEq, List.not_mem_nil, or_false] at hm
    rcases hm with ⟨rfl, rfl⟩ | ⟨rfl, rfl⟩ | ⟨rfl, rfl⟩ | ⟨rfl, rfl⟩ | ⟨rfl, rfl⟩
    · exact ⟨.inr (.inr (some 0)), rfl, Or.inr ⟨0, rfl, rfl⟩⟩
    · exact ⟨.inr (.inr (some 8)), rfl, Or.inr ⟨8, rfl, rfl⟩⟩
    · exact ⟨.inr (.inr (some 192)), rfl, Or.inr ⟨192, rfl, rfl⟩⟩
    · exact ⟨.inr (.inr (some 213)), rfl, Or.inr ⟨213, rfl, rfl⟩⟩
    · exact ⟨.inl 0, rfl, 0, rfl, rfl⟩
  obtain ⟨k, o, w', hk, hw, ho⟩ := e_V_ok (x_ro L xs) e_mok_all (fun v => (e_eok_all v).1) (fun v => (e_eok_all v).2) hE hq (d := 60) (by decide +kernel) hLr (x_wr (xs := xs) hL)
  have hrt : e_rt (e_vm 274) = some 3 := by decide +kernel
  have hth : e_thr 274 = false := by decide +kernel
  rw [hrt, hth] at ho
  have hvm : e_vm 274 = 274 := by decide +kernel
  rw [hvm] at hk
  obtain ⟨-, -, -, -, hcx, hsl, -⟩ := hw
  rcases ho with ⟨ov, rfl, v, rfl, hv⟩ | ⟨h, -⟩
  · obtain ⟨-, y, rfl, hy⟩ := hv
    have hy1 : y = 1 := Int32.toInt_inj.mp (by rw [hy]; rfl)
    subst hy1
    refine ⟨k, w', hk, ?_, ?_⟩
    · unfold e_C0 at hcx
      dsimp only at hcx h5 h6
      omega
    · unfold e_S0 at hsl
      dsimp only at hsl h5 h6
      omega
  · cases h
theorem x_go {L : Nat} {xs : Nat → Int32} (hL : L ≤ 3072) : ∃ k w', m_run (x_ro L xs) k 60 274 0 [(0, .inr (.inr (some 0)))] [] (8, 0, 0, fun _ => (0, 0), fun _ _ => .inl 0) = some (.inl (some (.inl 1)), w') ∧ mcx w' ≤ 601024 ∧ msl w' ≤ 7293034 := by
  obtain ⟨k, w', hk, h1, h2⟩ := x_fin (xs := xs) hL
  obtain ⟨k2, hk2⟩ := x_pre (ro := x_ro L xs) x_d0 trivial ⟨k, hk⟩
  exact ⟨k2, w', hk2, h1, h2⟩
end
section
abbrev x_dR : MethodName := ⟨"java/lang/RuntimeException", "<init>", "(Ljava/lang/String;)V"⟩
abbrev x_dE : MethodName := ⟨"java/lang/Exception", "<init>", "(Ljava/lang/String;)V"⟩
abbrev x_dT : MethodName := ⟨"java/lang/Throwable", "<init>", "(Ljava/lang/String;)V"⟩
def x_up : List String := ["java/lang/RuntimeException", "java/lang/Exception"]
abbrev x_IAE : String := "java/lang/IllegalArgumentException"
abbrev x_ISE : String := "java/lang/IllegalStateException"
/-- what the throws need of the machine: two statics of Throwable's, the texts, which class is which -/
def x_XG (base : Nat) (U : State) (H : Heap) : Prop := vx_Zq Bundle.tN "UNASSIGNED_STACK" Bundle.steD (fun q => base ≤ q) U H ∧ vx_Zq Bundle.tN "SUPPRESSED_SENTINEL" Bundle.listD (fun q => base ≤ q) U H ∧
  (∃ a, vk_R "SunHouse" 151 "no such part, or no such current" a U) ∧ (∃ a, vk_R "SunHouse" 320 "no such part, or no such cause" a U) ∧ (∃ a, vk_R "SunHouse" 380 "no such shelf" a U) ∧ (∃ a, vk_R "SunHouse" 387 "no row, or no such place in it" a U) ∧
  va_Nw (.castable x_IAE x_IAE) U ∧ va_Nw (.castable x_ISE x_ISE) U ∧ va_Nc x_ISE x_IAE U ∧ va_Nw (.declares x_dR) U ∧ va_Nw (.declares x_dE) U ∧ va_Nw (.declares x_dT) U
theorem x_XG3 (base : Nat) : m_X3 base (x_XG base) := by
  refine ⟨fun u U H hW h => ?_, fun u U H hv h => ?_, fun U H H1 ho hs h => ?_⟩
  · obtain ⟨h1, h2, ⟨a3, h3⟩, ⟨a4, h4⟩, ⟨a5, h5⟩, ⟨a6, h6⟩, h7, h8, h9, h10, h11, h12⟩ := h
    exact ⟨h1.moved hW.alike, h2.moved hW.alike, ⟨a3, vk_R.warm hW h3⟩, ⟨a4, vk_R.warm hW h4⟩, ⟨a5, vk_R.warm hW h5⟩, ⟨a6, vk_R.warm hW h6⟩, va_Nw.warmC hW h7, va_Nw.warmC hW h8, h9.moved hW.alike, va_Nw.warmD hW h10, va_Nw.warmD hW h11, va_Nw.warmD hW h12⟩
  · obtain ⟨h1, h2, ⟨a3, h3⟩, ⟨a4, h4⟩, ⟨a5, h5⟩, ⟨a6, h6⟩, h7, h8, h9, h10, h11, h12⟩ := h
    have hA : u.vm.Alike U.vm := by rw [hv]; exact Vm.Alike.refl _
    exact ⟨h1.moved hA, h2.moved hA, ⟨a3, vk_R.same hv.symm h3⟩, ⟨a4, vk_R.same hv.symm h4⟩, ⟨a5, vk_R.same hv.symm h5⟩, ⟨a6, vk_R.same hv.symm h6⟩, va_Nw.same rfl hv h7, va_Nw.same rfl hv h8, h9.moved hA, va_Nw.same rfl hv h10, va_Nw.same rfl hv h11, va_Nw.same rfl hv h12⟩
  · obtain ⟨h1, h2, h3⟩ := h
    exact ⟨h1.kept (fun a _ hn => ho a (Nat.lt_of_not_le hn)), h2.kept (fun a _ hn => ho a (Nat.lt_of_not_le hn)), h3⟩
/-- the static tables, where the program reads them -/
def x_ST (base : Nat) (roa : Nat → Nat) (U : State) (H : Heap) : Prop :=
  va_Z "SunHouse" "MOST_OF_CAUSE" "[I" (.ref (roa 1)) (fun q => base ≤ q) U H ∧ va_Z "SunHouse" "ORDERS_BEHIND_SET" "[I" (.ref (roa 2)) (fun q => base ≤ q) U H ∧
  va_Z "SunHouse" "EASTWARD" "[I" (.ref (roa 3)) (fun q => base ≤ q) U H ∧ va_Z "SunHouse" "NORTHWARD" "[I" (.ref (roa 4)) (fun q => base ≤ q) U H ∧
  va_Nw (.fieldLinkNest "SunHouse$Roof" 55 "SunHouse" "EASTWARD" "[I" "SunHouse") U ∧ va_Nw (.fieldLinkNest "SunHouse$Roof" 58 "SunHouse" "NORTHWARD" "[I" "SunHouse") U
def x_XF (base : Nat) (roa : Nat → Nat) (U : State) (H : Heap) : Prop := x_XG base U H ∧ x_ST base roa U H
theorem x_X3 (base : Nat) (roa : Nat → Nat) : m_X3 base (x_XF base roa) := by
  obtain ⟨g1, g2, g3⟩ := x_XG3 base
  refine ⟨fun u U H hW h => ?_, fun u U H hv h => ?_, fun U H H1 ho hs h => ?_⟩
  · obtain ⟨h0, h1, h2, h3, h4, h5, h6⟩ := h
    exact ⟨g1 u U H hW h0, h1.moved hW.alike, h2.moved hW.alike, h3.moved hW.alike, h4.moved hW.alike, va_Nw.warmF hW h5, va_Nw.warmF hW h6⟩
  · obtain ⟨h0, h1, h2, h3, h4, h5, h6⟩ := h
    have hA : u.vm.Alike U.vm := by rw [hv]; exact Vm.Alike.refl _
    exact ⟨g2 u U H hv h0, h1.moved hA, h2.moved hA, h3.moved hA, h4.moved hA, va_Nw.same rfl hv h5, va_Nw.same rfl hv h6⟩
  · obtain ⟨h0, h1, h2, h3, h4, h5⟩ := h
    have hk : ∀ a : Nat, a < H.size → ¬ base ≤ a → H1[a]? = H[a]? := fun a _ hn => ho a (Nat.lt_of_not_le hn)
    exact ⟨g3 U H H1 ho hs h0, h1.kept hk, h2.kept hk, h3.kept hk, h4.kept hk, h5⟩
theorem x_gM : Cond.fieldLink "SunHouse" 131 "SunHouse" "MOST_OF_CAUSE" "[I" ∈ q_W := q_w_ok (pl := 721) (by decide +kernel)
theorem x_gO : Cond.fieldLink "SunHouse" 322 "SunHouse" "ORDERS_BEHIND_SET" "[I" ∈ q_W := q_w_ok (pl := 1309) (by decide +kernel)
theorem x_Stat (l : Launch) (base : Nat) (roa : Nat → Nat) : m_Stat l base roa (x_XF base roa) := by
  intro mid pc idx a hq p e R s m args below meth c H locs cells slots Z ls rest hx hb hown hts hXF hS hdg kk
  obtain ⟨-, h1, h2, h3, h4, h5, h6⟩ := hXF
  have hm := q_s3_mem hq
  rw [q_cls] at hown
  unfold q_stt at hm
  simp only [List.mem_cons, List.not_mem_nil, or_false, Prod.mk.injEq] at hm
  rcases hm with ⟨e1, rfl, rfl⟩ | ⟨e1, rfl, rfl⟩ | ⟨e1, rfl, rfl⟩ | ⟨e1, rfl, rfl⟩
  · rw [e1] at hown
    exact va_gets hx hb (own := "SunHouse") h1 hS hown (hts _ x_gM) (fun x h => h) hdg kk
  · rw [e1] at hown
    exact va_getsN hx hb (own := "SunHouse$Roof") h3 hS hown (va_Nw.use rfl h5) (fun x h => h) hdg kk
  · rw [e1] at hown
    exact va_getsN hx hb (own := "SunHouse$Roof") h4 hS hown (va_Nw.use rfl h6) (fun x h => h) hdg kk
  · rw [e1] at hown
    exact va_gets hx hb (own := "SunHouse") h2 hS hown (hts _ x_gO) (fun x h => h) hdg kk
/-- where the words of the two throws stand in the tables -/
def x_wnd : List Cond := (lw_tbl.drop 1229).take 114 ++ ((lw_tbl.drop 109).take 16 ++ lw_tbl.drop 1881)
theorem x_wnd_ok {w : Cond} (h : w ∈ x_wnd) : w ∈ lw_tbl := by
  rcases List.mem_append.mp h with h | h
  · exact List.mem_of_mem_drop (List.mem_of_mem_take h)
  · rcases List.mem_append.mp h with h | h
    · exact List.mem_of_mem_drop (List.mem_of_mem_take h)
    · exact List.mem_of_mem_drop h
theorem x_atA0 : ∀ w ∈ (vx_atS "SunHouse" 153 x_IAE x_up).filter goodWord, w ∈ q_W := fun w hw => List.mem_filter.mpr ⟨x_wnd_ok ((by decide +kernel : ∀ w ∈ (vx_atS "SunHouse" 153 x_IAE x_up).filter goodWord, w ∈ x_wnd) w hw), (List.mem_filter.mp hw).2⟩
theorem x_atA1 : ∀ w ∈ (vx_atS "SunHouse" 153 x_IAE x_up).filter (fun w => !goodWord w), w ∈ [Cond.castable x_IAE x_IAE, Cond.declares x_dR, Cond.declares x_dE, Cond.declares x_dT] := by decide +kernel
theorem x_atA2 : ∀ w ∈ Cond.classLink "SunHouse" 149 x_IAE :: Cond.initialized x_IAE :: vx_atS "SunHouse" 153 x_IAE x_up, vx_ot w = true := by decide +kernel
theorem x_atS0 : ∀ w ∈ (vx_atS "SunHouse" 389 x_ISE x_up).filter goodWord, w ∈ q_W := fun w hw => List.mem_filter.mpr ⟨x_wnd_ok ((by decide +kernel : ∀ w ∈ (vx_atS "SunHouse" 389 x_ISE x_up).filter goodWord, w ∈ x_wnd) w hw), (List.mem_filter.mp hw).2⟩
theorem x_atS1 : ∀ w ∈ (vx_atS "SunHouse" 389 x_ISE x_up).filter (fun w => !goodWord w), w ∈ [Cond.castable x_ISE x_ISE, Cond.declares x_dR, Cond.declares x_dE, Cond.declares x_dT] := by decide +kernel
theorem x_atS2 : ∀ w ∈ Cond.classLink "SunHouse" 385 x_ISE :: Cond.initialized x_ISE :: vx_atS "SunHouse" 389 x_ISE x_up, vx_ot w = true := by decide +kernel
theorem x_kA : Cond.classLink "SunHouse" 149 x_IAE ∈ q_W := q_w_ok (pl := 1229) (by decide +kernel)
theorem x_kS : Cond.classLink "SunHouse" 385 x_ISE ∈ q_W := q_w_ok (pl := 1326) (by decide +kernel)
theorem x_iA : Cond.initialized x_IAE ∈ q_W := q_w_ok (pl := 112) (by decide +kernel)
theorem x_iS : Cond.initialized x_ISE ∈ q_W := q_w_ok (pl := 116) (by decide +kernel)
theorem x_lA : Cond.classLink "SunHouseLaw" 13 x_IAE ∈ q_W := q_w_ok (pl := 1224) (by decide +kernel)
theorem x_lS : Cond.classLink "SunHouseLaw" 22 x_ISE ∈ q_W := q_w_ok (pl := 1320) (by decide +kernel)
theorem x_th_mem {mid pc : Nat} {E : String} : ∀ {L : List (Nat × Nat × String)}, q_th3 L mid pc = some E → (mid, pc, E) ∈ L
  | [], h => by simp [q_th3] at h
  | (a, b, E') :: t, h => by
    unfold q_th3 at h
    cases hb : (Nat.beq a mid && Nat.beq b pc) with
    | true =>
      rw [hb] at h
      cases h
      rw [Bool.and_eq_true] at hb
      rw [Nat.eq_of_beq_eq_true hb.1, Nat.eq_of_beq_eq_true hb.2]
      exact List.mem_cons_self
    | false =>
      rw [hb] at h
      exact List.mem_cons_of_mem _ (x_th_mem h)
set_option maxHeartbeats 4000000 in
theorem x_ThrowG (l : Launch) (hfl : l.stackTraces = false) (base : Nat) : m_Throw l base (x_XG base) := by
  intro mid pc E hth p e R s m args below meth c H locs mc ms ls Qc XC hx hb hown hts hXF hbase hnt hlocks hf10 hl640 hmR hsR hm1 hs6 hsz hS hXC
  obtain ⟨h1, h2, ⟨a3, h3⟩, ⟨a4, h4⟩, ⟨a5, h5⟩, ⟨a6, h6⟩, h7, h8, h9, h10, h11, h12⟩ := hXF
  have hatA : ∀ w ∈ vx_atS "SunHouse" 153 x_IAE x_up, w.before args s = true := vx_hat (fun w hw => hts w (x_atA0 w hw)) x_atA1 (vx_c (va_Nw.use rfl h7) (vx_c (va_Nw.use rfl h10) (vx_c (va_Nw.use rfl h11) (vx_c (va_Nw.use rfl h12) vx_n))))
  have hatS : ∀ w ∈ vx_atS "SunHouse" 389 x_ISE x_up, w.before args s = true := vx_hat (fun w hw => hts w (x_atS0 w hw)) x_atS1 (vx_c (va_Nw.use rfl h8) (vx_c (va_Nw.use rfl h10) (vx_c (va_Nw.use rfl h11) (vx_c (va_Nw.use rfl h12) vx_n))))
  have hup : ∀ n ∈ x_up, Bundle.fit n = true := by decide +kernel
  have hR1 : x_up.length + 3 < R.frames := by show 2 + 3 < _; omega
  have hR2 : (([] : List Value).map fun v => v.category).sum + (13 * (x_up.length + 1) + 43) ≤ R.locals := by show 0 + (13 * (2 + 1) + 43) ≤ _; omega
  have hm := x_th_mem hth
  unfold q_tht at hm
  simp only [List.mem_cons, List.not_mem_nil, or_false, Prod.mk.injEq] at hm
  rcases hm with ⟨rfl, rfl, rfl⟩ | ⟨rfl, rfl, rfl⟩ | ⟨rfl, rfl, rfl⟩ | ⟨rfl, rfl, rfl⟩
  · exact vx_throwS (cc := q_b 109) (own := "SunHouse") (cls := x_IAE) (names := x_up) (ik := 149) (is := 151) (ic := 153) hx hb hfl hown (by decide +kernel) hup (hts _ x_kA) (hts _ x_iA) h3 hatA x_atA2 h1 h2 hS hsz (by decide +kernel) (by decide +kernel) (by decide +kernel) (by decide +kernel) (by decide +kernel) (fun x hx => (hnt x hx).elim) hR1 hR2 (by omega) (by omega) hlocks hXC (fun z hz => hS.2.2 z hz) (by omega) (by omega)
  · exact vx_throwSW (cc := q_b 132) (own := "SunHouse") (cls := x_IAE) (names := x_up) (ik := 149) (is := 320) (ic := 153) hx hb hfl hown (by decide +kernel) hup (hts _ x_kA) (hts _ x_iA) h4 hatA x_atA2 h1 h2 hS hsz (by decide +kernel) (by decide +kernel) (by decide +kernel) (by decide +kernel) (by decide +kernel) (fun x hx => (hnt x hx).elim) hR1 hR2 (by omega) (by omega) hlocks hXC (fun z hz => hS.2.2 z hz) (by omega) (by omega)
  · exact vx_throwSW (cc := q_b 142) (own := "SunHouse") (cls := x_IAE) (names := x_up) (ik := 149) (is := 380) (ic := 153) hx hb hfl hown (by decide +kernel) hup (hts _ x_kA) (hts _ x_iA) h5 hatA x_atA2 h1 h2 hS hsz (by decide +kernel) (by decide +kernel) (by decide +kernel) (by decide +kernel) (by decide +kernel) (fun x hx => (hnt x hx).elim) hR1 hR2 (by omega) (by omega) hlocks hXC (fun z hz => hS.2.2 z hz) (by omega) (by omega)
  · exact vx_throwSW (cc := q_b 142) (own := "SunHouse") (cls := x_ISE) (names := x_up) (ik := 385) (is := 387) (ic := 389) hx hb hfl hown (by decide +kernel) hup (hts _ x_kS) (hts _ x_iS) h6 hatS x_atS2 h1 h2 hS hsz (by decide +kernel) (by decide +kernel) (by decide +kernel) (by decide +kernel) (by decide +kernel) (fun x hx => (hnt x hx).elim) hR1 hR2 (by omega) (by omega) hlocks hXC (fun z hz => hS.2.2 z hz) (by omega) (by omega)
theorem m_drop_val (ad : Nat → Nat) (L : ML) (k : Nat) : ml_val ad (m_drop L k) = (ml_val ad L).filter (fun q => !(q.1 == k) && !(q.1 + 1 == k && q.2.category == 2)) := by
  simp only [ml_val, m_drop, List.filter_map, Function.comp_def, m_cat]
set_option maxHeartbeats 4000000 in
theorem x_CatchG (l : Launch) (base : Nat) : m_Catch l (x_XG base) := by
  intro mid pc E hh hq p e R s m args below meth c H locs cells slots Z ls rest q ce L ad hx hb hown hts hXF htab hl hce hcv hcl kk
  obtain ⟨-, -, -, -, -, -, h7, h8, h9, -⟩ := hXF
  have hm := q_h5_mem hq
  unfold q_htt at hm
  simp only [List.mem_cons, List.not_mem_nil, or_false, Prod.mk.injEq] at hm
  rcases hm with ⟨rfl, rfl, rfl, rfl⟩ | ⟨rfl, rfl, rfl, rfl⟩ | ⟨rfl, rfl, rfl, rfl⟩ | ⟨rfl, rfl, rfl, rfl⟩
  · refine vx_catch (own := "SunHouseLaw") (name := x_IAE) (E := x_IAE) hown [] ⟨0, 9, 12, 13⟩ [] (by rw [htab]; rfl) (fun z hz => by cases hz) (by decide) (by decide) (hts _ x_lA) (va_Nw.use rfl h7) hce hcv hcl ?_
    refine lv_astore (i := 4) (nL := q_nl 271) (cc := q_b 271) hx hb (by decide +kernel) hl (by decide +kernel) rfl (fun ls' hl' => kk ls' ⟨hl'.1, hl'.2.1, fun z hz => hl'.2.2 z (List.mem_cons_of_mem _ (by rw [m_drop_val] at hz; exact hz))⟩)
  · refine vx_catch (own := "SunHouseLaw") (name := x_IAE) (E := x_IAE) hown [] ⟨0, 11, 14, 13⟩ [] (by rw [htab]; rfl) (fun z hz => by cases hz) (by decide) (by decide) (hts _ x_lA) (va_Nw.use rfl h7) hce hcv hcl ?_
    refine lv_astore (i := 5) (nL := q_nl 272) (cc := q_b 272) hx hb (by decide +kernel) hl (by decide +kernel) rfl (fun ls' hl' => kk ls' ⟨hl'.1, hl'.2.1, fun z hz => hl'.2.2 z (List.mem_cons_of_mem _ (by rw [m_drop_val] at hz; exact hz))⟩)
  · refine vx_catch (own := "SunHouseLaw") (name := x_IAE) (E := x_IAE) hown [] ⟨0, 9, 12, 13⟩ [⟨0, 9, 16, 22⟩] (by rw [htab]; rfl) (fun z hz => by cases hz) (by decide) (by decide) (hts _ x_lA) (va_Nw.use rfl h7) hce hcv hcl ?_
    refine lv_astore (i := 4) (nL := q_nl 273) (cc := q_b 273) hx hb (by decide +kernel) hl (by decide +kernel) rfl (fun ls' hl' => kk ls' ⟨hl'.1, hl'.2.1, fun z hz => hl'.2.2 z (List.mem_cons_of_mem _ (by rw [m_drop_val] at hz; exact hz))⟩)
  · refine vx_catch (own := "SunHouseLaw") (name := x_ISE) (E := x_ISE) hown [⟨0, 9, 12, 13⟩] ⟨0, 9, 16, 22⟩ [] (by rw [htab]; rfl) (fun z hz => by
      rw [List.mem_singleton] at hz
      subst hz
      exact Or.inr ⟨by decide, x_IAE, hts _ x_lA, h9⟩) (by decide) (by decide) (hts _ x_lS) (va_Nw.use rfl h8) hce hcv hcl ?_
    refine lv_astore (i := 4) (nL := q_nl 273) (cc := q_b 273) hx hb (by decide +kernel) hl (by decide +kernel) rfl (fun ls' hl' => kk ls' ⟨hl'.1, hl'.2.1, fun z hz => hl'.2.2 z (List.mem_cons_of_mem _ (by rw [m_drop_val] at hz; exact hz))⟩)
theorem x_Throw (l : Launch) (hfl : l.stackTraces = false) (base : Nat) (roa : Nat → Nat) : m_Throw l base (x_XF base roa) := by
  intro mid pc E hth p e R s m args below meth c H locs mc ms ls Qc XC hx hb hown hts hXF
  exact x_ThrowG l hfl base mid pc E hth p e R s m args below meth c H locs mc ms ls Qc XC hx hb hown hts hXF.1
theorem x_Catch (l : Launch) (base : Nat) (roa : Nat → Nat) : m_Catch l (x_XF base roa) := by
  intro mid pc E hh hq p e R s m args below meth c H locs cells slots Z ls rest q ce L ad hx hb hown hts hXF
  exact x_CatchG l base mid pc E hh hq p e R s m args below meth c H locs cells slots Z ls rest q ce L ad hx hb hown hts hXF.1
end
