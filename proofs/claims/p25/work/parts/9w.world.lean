section
/-! THE WORLD BEHIND THE CONSTRUCTORS, in whole numbers -/
def x_r0 : Nat → Int32 := fun _ => 0
theorem x_d0 : s_drv x_r0 := by
  refine ⟨?_, ?_, ?_, ?_⟩ <;> decide
def x_w3 : MWd := s_w x_r0 x_A3
def x_toI : SV → Int
  | .inl (.inl y) => y.toInt
  | .inl (.inr (.inl y)) => y.toInt
  | _ => 0
def x_i (a k : Nat) : Int := if a < 214 ∧ k < (e_sh a).2 then x_toI (s_mem x_A3.2.2.2 a k) else 0
/-- the static tables -/
def x_t (a k : Nat) : Int32 := Int32.ofInt ((([[], [100, 50, 50, 40], [6, 2, 2, 6], [1, 1, 0, -1, -1, -1, 0, 1], [0, 1, 1, 1, 0, -1, -1, -1]] : List (List Int)).getD a []).getD k 0)
def x_M (L : Nat) (xs : Nat → Int32) : EM := fun a k => if a = 0 then (xs k).toInt else if a < 5 then (x_t a k).toInt else if a = 5 then (if k = 1 then (L : Int) else 0) else if a < 8 then 0 else x_i a k
def x_ro (L : Nat) (xs : Nat → Int32) : MRo := fun a => if a = 0 then some (L, xs) else if a = 1 then some (4, x_t 1) else if a = 2 then some (4, x_t 2) else if a = 3 then some (8, x_t 3) else if a = 4 then some (8, x_t 4) else none
theorem x_M8 {L : Nat} {xs : Nat → Int32} {a k : Nat} (h : 8 ≤ a) : x_M L xs a k = x_i a k := by
  unfold x_M
  rw [if_neg (by omega), if_neg (by omega), if_neg (by omega), if_neg (by omega)]
/-- a cell of an object is of its kind, with what the trees' world says -/
def x_vb (t : Nat) (x : Int) : SV → Bool
  | .inl (.inl y) => (Nat.beq t 0 || (Nat.beq t 3 && (decide (x = 0) || decide (x = 1)))) && decide (y.toInt = x)
  | .inl (.inr (.inl y)) => Nat.beq t 1 && decide (y.toInt = x)
  | .inl (.inr (.inr none)) => Nat.beq t 2 && decide (x = -1)
  | .inl (.inr (.inr (some a))) => Nat.beq t 2 && decide (x = (a : Int))
  | .inr _ => false
theorem x_vb_ok {t : Nat} {x : Int} {v : SV} {ρ : Nat → Int32} (h : x_vb t x v = true) : e_v t x (s_val ρ v) := by
  match v, h with
  | .inl (.inl y), h =>
    unfold x_vb at h
    simp only [Bool.and_eq_true, Bool.or_eq_true, decide_eq_true_eq] at h
    obtain ⟨h1 | ⟨h1, h2⟩, h3⟩ := h
    · rw [Nat.eq_of_beq_eq_true h1]
      exact ⟨y, rfl, h3⟩
    · rw [Nat.eq_of_beq_eq_true h1]
      exact ⟨h2, y, rfl, h3⟩
  | .inl (.inr (.inl y)), h =>
    unfold x_vb at h
    simp only [Bool.and_eq_true, decide_eq_true_eq] at h
    rw [Nat.eq_of_beq_eq_true h.1]
    exact ⟨y, rfl, h.2⟩
  | .inl (.inr (.inr none)), h =>
    unfold x_vb at h
    simp only [Bool.and_eq_true, decide_eq_true_eq] at h
    rw [Nat.eq_of_beq_eq_true h.1]
    exact Or.inl ⟨h.2, rfl⟩
  | .inl (.inr (.inr (some a))), h =>
    unfold x_vb at h
    simp only [Bool.and_eq_true, decide_eq_true_eq] at h
    rw [Nat.eq_of_beq_eq_true h.1]
    exact Or.inr ⟨a, h.2, rfl⟩
/-- rows of ints and of longs stand as they were made -/
def x_row (a : Nat) : Bool := match s_cell x_A3.2.2.2 a with
  | some c => c.2.isEmpty && decide (c.1 = e_sh a)
  | none => false
def x_obj (a : Nat) : Bool := (List.range (e_sh a).2).all fun k => x_vb (e_ty a k) (if e_ty a k = 2 then e_gr a k else x_i a k) (s_mem x_A3.2.2.2 a k) && decide (-2147483648 ≤ x_i a k) && decide (x_i a k ≤ 2147483647)
def x_isr (a : Nat) : Bool := Nat.beq (e_sh a).1 100 || Nat.beq (e_sh a).1 101
set_option maxRecDepth 100000 in
theorem x_cells : ((List.range 214).all fun a => Nat.ble a 7 || (if x_isr a = true then x_row a else x_obj a)) = true := by decide +kernel
theorem x_cell {a : Nat} (h8 : 8 ≤ a) (h : a < 214) : (x_isr a = true ∧ x_row a = true) ∨ (x_isr a = false ∧ x_obj a = true) := by
  have h1 := List.all_eq_true.mp x_cells a (List.mem_range.mpr h)
  rw [Bool.or_eq_true] at h1
  rcases h1 with h1 | h1
  · have := Nat.le_of_ble_eq_true h1; omega
  · cases hr : x_isr a with
    | true => rw [hr, if_pos rfl] at h1; exact Or.inl ⟨rfl, h1⟩
    | false => rw [hr, if_neg (by decide)] at h1; exact Or.inr ⟨rfl, h1⟩
theorem x_row_ok {a : Nat} (h : x_isr a = true) (hr : x_row a = true) (k : Nat) : s_mem x_A3.2.2.2 a k = .inl (s_dflt (e_sh a).1 k) := by
  unfold x_row at hr
  unfold s_mem
  split at hr
  · rename_i c hc
    rw [hc]
    simp only [Bool.and_eq_true, decide_eq_true_eq] at hr
    unfold s_get
    obtain ⟨c1, c2⟩ := c
    obtain ⟨hr1, hr2⟩ := hr
    dsimp only at hr1 hr2 ⊢
    rw [List.isEmpty_iff.mp hr1, hr2]
    rfl
  · cases hr
theorem x_i0 {a : Nat} (h8 : 8 ≤ a) (h : (e_sh a).1 = 100) (k : Nat) : x_i a k = 0 := by
  unfold x_i
  by_cases c : a < 214 ∧ k < (e_sh a).2
  · rw [if_pos c]
    rcases x_cell h8 c.1 with ⟨h1, h2⟩ | ⟨h1, h2⟩
    · rw [x_row_ok h1 h2, h]
      rfl
    · exfalso
      unfold x_isr at h1
      rw [h] at h1
      exact absurd h1 (by decide)
  · rw [if_neg c]
theorem x_i32 {a : Nat} (h8 : 8 ≤ a) (k : Nat) : -2147483648 ≤ x_i a k ∧ x_i a k ≤ 2147483647 := by
  by_cases c : a < 214 ∧ k < (e_sh a).2
  · rcases x_cell h8 c.1 with ⟨h1, h2⟩ | ⟨h1, h2⟩
    · have e : x_i a k = 0 := by
        unfold x_i
        rw [if_pos c, x_row_ok h1 h2]
        unfold x_isr at h1
        rw [Bool.or_eq_true] at h1
        rcases h1 with h1 | h1
        · rw [Nat.eq_of_beq_eq_true h1]; rfl
        · rw [Nat.eq_of_beq_eq_true h1]; rfl
      rw [e]
      decide
    · unfold x_obj at h2
      have h3 := List.all_eq_true.mp h2 k (List.mem_range.mpr c.2)
      simp only [Bool.and_eq_true, decide_eq_true_eq] at h3
      exact ⟨h3.1.2, h3.2⟩
  · unfold x_i
    rw [if_neg c]
    decide
theorem x_shp : ((List.range 214).all fun a => Nat.ble a 7 || decide (s_shp x_A3.2.2.2 a = e_sh a)) = true := by decide +kernel
theorem x_tb (a k : Nat) : -2147483648 ≤ (x_t a k).toInt ∧ (x_t a k).toInt ≤ 2147483647 := e_rng _
theorem x_wr {L : Nat} {xs : Nat → Int32} (hL : L ≤ 3072) : e_wr (x_ro L xs) (x_M L xs) x_w3 := by
  have m50 : x_M L xs 5 0 = 0 := rfl
  refine ⟨rfl, fun a h8 h => ?_, fun a k h8 h hk => ?_, by rw [m50]; decide, by rw [m50]; rfl, by rw [m50]; rfl, fun a ha hs => ?_⟩
  · have h1 := List.all_eq_true.mp x_shp a (List.mem_range.mpr h)
    rw [Bool.or_eq_true] at h1
    rcases h1 with h1 | h1
    · have := Nat.le_of_ble_eq_true h1; omega
    · exact of_decide_eq_true h1
  · rw [x_M8 h8]
    show e_v (e_ty a k) _ (s_val x_r0 (s_mem x_A3.2.2.2 a k))
    rcases x_cell h8 h with ⟨h1, h2⟩ | ⟨h1, h2⟩
    · have hi : x_i a k = x_toI (s_mem x_A3.2.2.2 a k) := if_pos ⟨h, hk⟩
      rw [hi, x_row_ok h1 h2]
      unfold x_isr at h1
      rw [Bool.or_eq_true] at h1
      rcases h1 with h1 | h1
      · have e := Nat.eq_of_beq_eq_true h1
        have et : e_ty a k = 0 := by unfold e_ty; rw [e]; rfl
        rw [et, e]
        exact ⟨0, rfl, rfl⟩
      · have e := Nat.eq_of_beq_eq_true h1
        have et : e_ty a k = 1 := by unfold e_ty; rw [e]; rfl
        rw [et, e]
        exact ⟨0, rfl, rfl⟩
    · unfold x_obj at h2
      have h3 := List.all_eq_true.mp h2 k (List.mem_range.mpr hk)
      simp only [Bool.and_eq_true, decide_eq_true_eq] at h3
      exact x_vb_ok h3.1.1
  · have h5 : a = 0 ∨ a = 1 ∨ a = 2 ∨ a = 3 ∨ a = 4 := by
      have key : ∀ k : Fin 8, (e_sh k.val).1 = 100 → k.val < 5 := by decide +kernel
      have := key ⟨a, ha⟩ hs
      dsimp only at this
      omega
    rcases h5 with rfl | rfl | rfl | rfl | rfl
    · refine ⟨L, xs, rfl, ?_, by omega, fun k _ => rfl⟩
      unfold e_sz
      rw [if_pos rfl]
      show ((L : Int)).toNat = L
      omega
    · exact ⟨4, x_t 1, rfl, rfl, by decide, fun k _ => rfl⟩
    · exact ⟨4, x_t 2, rfl, rfl, by decide, fun k _ => rfl⟩
    · exact ⟨8, x_t 3, rfl, rfl, by decide, fun k _ => rfl⟩
    · exact ⟨8, x_t 4, rfl, rfl, by decide, fun k _ => rfl⟩
theorem x_mi : (a_miL.all fun q => Nat.ble 8 q.1 && q.2.all fun s => (List.range (s.2.1 + 1)).all fun k => decide (k < s.1) || (decide (s.2.2.1 ≤ x_i q.1 k) && decide (x_i q.1 k ≤ s.2.2.2))) = true := by decide +kernel
theorem x_aM {L : Nat} {xs : Nat → Int32} : a_M (x_M L xs) := by
  intro id k h5
  have h32 : -2147483648 ≤ x_M L xs id k ∧ x_M L xs id k ≤ 2147483647 := by
    unfold x_M
    by_cases c0 : id = 0
    · rw [if_pos c0]; exact e_rng _
    · rw [if_neg c0]
      rcases Nat.lt_or_ge id 5 with c1 | c1
      · rw [if_pos c1]; exact e_rng _
      · rw [if_neg (Nat.not_lt.mpr c1), if_neg h5]
        rcases Nat.lt_or_ge id 8 with c2 | c2
        · rw [if_pos c2]; decide
        · rw [if_neg (Nat.not_lt.mpr c2)]; exact x_i32 (by omega) k
  refine ⟨?_, ?_, fun s hs h1 h2 => ?_⟩
  · unfold a_lo; split <;> omega
  · unfold a_hi; split <;> omega
  · unfold a_mi at hs
    cases hq : q_find a_miL id with
    | none => rw [hq] at hs; cases hs
    | some l =>
      rw [hq] at hs
      have hm := List.all_eq_true.mp x_mi _ (q_find_mem hq)
      rw [Bool.and_eq_true] at hm
      have hs1 := List.all_eq_true.mp hm.2 s hs
      have hk := List.all_eq_true.mp hs1 k (List.mem_range.mpr (by omega))
      rw [x_M8 (Nat.le_of_ble_eq_true hm.1)]
      simp only [Bool.and_eq_true, Bool.or_eq_true, decide_eq_true_eq] at hk
      rcases hk with hk | hk
      · omega
      · exact hk
theorem x_J {L : Nat} {xs : Nat → Int32} : r_J (x_M L xs) := by
  have e1 : ∀ i, r_G (x_M L xs) i = 0 := fun i => (x_M8 (by decide)).trans (x_i0 (by decide) (by decide +kernel) _)
  have e7 : ∀ j, x_M L xs 197 j = 0 := fun j => (x_M8 (by decide)).trans (x_i0 (by decide) (by decide +kernel) _)
  have e9 : x_M L xs 192 9 = 0 := (x_M8 (by decide)).trans (by decide +kernel)
  have e20 : x_M L xs 192 20 = -1 := (x_M8 (by decide)).trans (by decide +kernel)
  refine ⟨x_aM, fun j hj => by rw [e7]; decide, ?_, fun h => absurd e9 h, e20⟩
  refine ⟨by rw [e1]; decide, by rw [e1]; decide, fun x x0 x1 => by rw [e1] at x1; omega, by rw [e1]; decide, by rw [e1]; decide, fun h _ _ => ?_, by rw [e1]; decide, by rw [e1]; decide⟩
  rw [e1, e1]
  decide
theorem x_rels : ((p_P.all fun q => decide (x_i q.1 q.2.1 = x_i 193 q.2.2) && decide (x_i (q.1 + 68) q.2.1 = x_i 194 q.2.2)) && decide (x_i 8 2 = x_i 192 9)) = true := by decide +kernel
theorem x_R {L : Nat} {xs : Nat → Int32} : p_R (x_M L xs) := by
  have h := x_rels
  rw [Bool.and_eq_true] at h
  obtain ⟨h1, h2⟩ := h
  have h3 : ∀ q ∈ p_P, x_i q.1 q.2.1 = x_i 193 q.2.2 ∧ x_i (q.1 + 68) q.2.1 = x_i 194 q.2.2 := fun q hq => by
    have := List.all_eq_true.mp h1 q hq
    simpa only [Bool.and_eq_true, decide_eq_true_eq] using this
  refine ⟨fun q hq => ?_, fun q hq => ?_, ?_⟩
  · have b := p_bd q hq
    rw [x_M8 (by omega), x_M8 (by decide)]
    exact (h3 q hq).1
  · rw [x_M8 (by omega), x_M8 (by decide)]
    exact (h3 q hq).2
  · rw [x_M8 (by decide), x_M8 (by decide)]
    exact of_decide_eq_true h2
theorem x_h0 : (x_i 10 0 = 0 ∧ x_i 78 0 = 0 ∧ x_i 165 0 = 0) ∧ ∀ d : Fin 8, x_i (146 + 2 * d.val) 0 = 0 ∧ x_i (146 + 2 * d.val) 1 = 0 := by decide +kernel
theorem x_HR {L : Nat} {xs : Nat → Int32} : h_R (x_M L xs) := by
  obtain ⟨⟨a1, a2, a3⟩, a4⟩ := x_h0
  have e1 : ∀ i, r_G (x_M L xs) i = 0 := fun i => (x_M8 (by decide)).trans (x_i0 (by decide) (by decide +kernel) _)
  have e2 : ∀ i, r_Gi (x_M L xs) i = 0 := fun i => (x_M8 (by decide)).trans (x_i0 (by decide) (by decide +kernel) _)
  refine ⟨x_R, ⟨?_, by rw [e1]; decide, fun q hq => ?_⟩, ⟨?_, by rw [e2]; decide, fun q hq => ?_⟩, fun d hd => Or.inl ⟨?_, ?_, ?_⟩, ?_⟩
  · rw [e1]
    exact (x_M8 (by decide)).trans a1
  · rw [e1] at hq
    omega
  · rw [e2]
    exact (x_M8 (by decide)).trans a2
  · rw [e2] at hq
    omega
  · exact (x_M8 (by decide)).trans (x_i0 (by decide) (by decide +kernel) _)
  · exact (x_M8 (by omega)).trans (a4 ⟨d, hd⟩).1
  · exact (x_M8 (by omega)).trans (a4 ⟨d, hd⟩).2
  · exact (x_M8 (by decide)).trans a3
theorem x_t1 : (x_t 1 0).toInt = 100 ∧ (x_t 1 1).toInt = 50 ∧ (x_t 1 2).toInt = 50 ∧ (x_t 1 3).toInt = 40 := by decide +kernel
theorem x_h1 : x_i 26 6 = 0 ∧ x_i 94 6 = 0 := by decide +kernel
theorem x_HQ {L : Nat} {xs : Nat → Int32} : h_Q (x_M L xs) := by
  have e1 : ∀ i, r_G (x_M L xs) i = 0 := fun i => (x_M8 (by decide)).trans (x_i0 (by decide) (by decide +kernel) _)
  have e2 : ∀ i, r_Gi (x_M L xs) i = 0 := fun i => (x_M8 (by decide)).trans (x_i0 (by decide) (by decide +kernel) _)
  have e3 : ∀ k, x_M L xs 1 k = (x_t 1 k).toInt := fun k => rfl
  obtain ⟨t0, t1, t2, t3⟩ := x_t1
  refine ⟨⟨(e3 0).trans t0, (e3 1).trans t1, (e3 2).trans t2, (e3 3).trans t3⟩, fun q hq => ?_, fun q hq => ?_, ⟨?_, fun h => absurd (e1 _) h, fun i _ => ?_⟩, ⟨?_, fun h => absurd (e2 _) h, fun i _ => ?_⟩⟩
  · rw [e1] at hq
    omega
  · rw [e2] at hq
    omega
  · rw [e1]
    exact (x_M8 (by decide)).trans x_h1.1
  · rw [e1]
    exact (x_M8 (by decide)).trans (x_i0 (by decide) (by decide +kernel) _)
  · rw [e2]
    exact (x_M8 (by decide)).trans x_h1.2
  · rw [e2]
    exact (x_M8 (by decide)).trans (x_i0 (by decide) (by decide +kernel) _)
theorem x_HRC {L : Nat} {xs : Nat → Int32} : h_RC (x_M L xs) := ⟨x_HR, x_HQ⟩
theorem x_hk : x_i 192 22 = 0 ∧ x_i 192 23 = -1 ∧ x_i 192 24 = -1 := by decide +kernel
theorem x_HZ {L : Nat} {xs : Nat → Int32} : h_Z (x_M L xs) := by
  have e1 : ∀ i, r_G (x_M L xs) i = 0 := fun i => (x_M8 (by decide)).trans (x_i0 (by decide) (by decide +kernel) _)
  have e2 : ∀ i, r_Gi (x_M L xs) i = 0 := fun i => (x_M8 (by decide)).trans (x_i0 (by decide) (by decide +kernel) _)
  refine ⟨fun q hq => ?_, fun q hq => ?_, ⟨(x_M8 (by decide)).trans x_hk.1, (x_M8 (by decide)).trans x_hk.2.1, (x_M8 (by decide)).trans x_hk.2.2⟩, (x_M8 (by decide)).trans (x_i0 (by decide) (by decide +kernel) _)⟩
  · rw [e1] at hq
    omega
  · rw [e2] at hq
    omega
theorem x_HRD {L : Nat} {xs : Nat → Int32} : h_RD (x_M L xs) := ⟨x_HRC, x_HZ⟩
/-- from the law's loop to its end -/
theorem x_fin {L : Nat} {xs : Nat → Int32} (hL : L ≤ 3072) : ∃ k w', m_run (x_ro L xs) k 60 274 23 (sl_val x_r0 x_L1) [] x_w3 = some (.inl (some (.inl 1)), w') ∧ mcx w' ≤ 601024 ∧ msl w' ≤ 7293034 := by
  obtain ⟨M', hE, h5, h6⟩ := l_loop (n := (L : Int)) ⟨by omega, by omega⟩ _ 0 0 0 0 (x_M L xs) x_J x_HRD rfl (Int.le_of_eq (rfl : (0 : Int) = x_M L xs 5 0)) (Nat.le_refl _) (by decide) (by omega)
  have m50 : x_M L xs 5 0 = 0 := rfl
  rw [m50] at h6
  have hq : e_lb 274 23 = some ([(0, 2), (1, 2), (2, 2), (3, 2), (4, 0)], e_t274_23) := rfl
  have hLr : e_lr (q_nl (e_vm 274)) [(0, 2), (1, 2), (2, 2), (3, 2), (4, 0)] [0, 8, 192, 213, 0, 0, 0, 0] (sl_val x_r0 x_L1) := by
    refine ⟨by decide +kernel, fun i t hi => ?_⟩
    have hm := q_find_mem hi
    simp only [List.mem_cons, Prod.mk.injEq, List.not_mem_nil, or_false] at hm
    rcases hm with ⟨rfl, rfl⟩ | ⟨rfl, rfl⟩ | ⟨rfl, rfl⟩ | ⟨rfl, rfl⟩ | ⟨rfl, rfl⟩
    · exact ⟨.inr (.inr (some 0)), rfl, Or.inr ⟨0, rfl, rfl⟩⟩
    · exact ⟨.inr (.inr (some 8)), rfl, Or.inr ⟨8, rfl, rfl⟩⟩
    · exact ⟨.inr (.inr (some 192)), rfl, Or.inr ⟨192, rfl, rfl⟩⟩
    · exact ⟨.inr (.inr (some 213)), rfl, Or.inr ⟨213, rfl, rfl⟩⟩
    · exact ⟨.inl 0, rfl, 0, rfl, rfl⟩
  obtain ⟨k, o, w', hk, hw, ho⟩ := e_V_ok (x_ro L xs) e_mok_all (fun v => (e_eok_all v).1) (fun v => (e_eok_all v).2) hE hq (d := 60) (by decide +kernel) hLr (x_wr (xs := xs) hL)
  have hrt : e_rt (e_vm 274) = some 3 := by decide +kernel
  have hth : e_thr 274 = false := by decide +kernel
  rw [hrt, hth] at ho
  have hvm : e_vm 274 = 274 := by decide +kernel
  rw [hvm] at hk
  obtain ⟨-, -, -, -, hcx, hsl, -⟩ := hw
  rcases ho with ⟨ov, rfl, v, rfl, hv⟩ | ⟨h, -⟩
  · obtain ⟨-, y, rfl, hy⟩ := hv
    have hy1 : y = 1 := Int32.toInt_inj.mp (by rw [hy]; rfl)
    subst hy1
    refine ⟨k, w', hk, ?_, ?_⟩
    · unfold e_C0 at hcx
      dsimp only at hcx h5 h6
      omega
    · unfold e_S0 at hsl
      dsimp only at hsl h5 h6
      omega
  · cases h
theorem x_go {L : Nat} {xs : Nat → Int32} (hL : L ≤ 3072) : ∃ k w', m_run (x_ro L xs) k 60 274 0 [(0, .inr (.inr (some 0)))] [] (8, 0, 0, fun _ => (0, 0), fun _ _ => .inl 0) = some (.inl (some (.inl 1)), w') ∧ mcx w' ≤ 601024 ∧ msl w' ≤ 7293034 := by
  obtain ⟨k, w', hk, h1, h2⟩ := x_fin (xs := xs) hL
  obtain ⟨k2, hk2⟩ := x_pre (ro := x_ro L xs) x_d0 trivial ⟨k, hk⟩
  exact ⟨k2, w', hk2, h1, h2⟩
end
section
abbrev x_dR : MethodName := ⟨"java/lang/RuntimeException", "<init>", "(Ljava/lang/String;)V"⟩
abbrev x_dE : MethodName := ⟨"java/lang/Exception", "<init>", "(Ljava/lang/String;)V"⟩
abbrev x_dT : MethodName := ⟨"java/lang/Throwable", "<init>", "(Ljava/lang/String;)V"⟩
def x_up : List String := ["java/lang/RuntimeException", "java/lang/Exception"]
abbrev x_IAE : String := "java/lang/IllegalArgumentException"
abbrev x_ISE : String := "java/lang/IllegalStateException"
/-- what the throws need of the machine: two statics of Throwable's, the texts, which class is which -/
def x_XG (base : Nat) (U : State) (H : Heap) : Prop := vx_Zq Bundle.tN "UNASSIGNED_STACK" Bundle.steD (fun q => base ≤ q) U H ∧ vx_Zq Bundle.tN "SUPPRESSED_SENTINEL" Bundle.listD (fun q => base ≤ q) U H ∧
  (∃ a, vk_R "SunHouse" 151 "no such part, or no such current" a U) ∧ (∃ a, vk_R "SunHouse" 320 "no such part, or no such cause" a U) ∧ (∃ a, vk_R "SunHouse" 380 "no such shelf" a U) ∧ (∃ a, vk_R "SunHouse" 387 "no row, or no such place in it" a U) ∧
  va_Nw (.castable x_IAE x_IAE) U ∧ va_Nw (.castable x_ISE x_ISE) U ∧ va_Nc x_ISE x_IAE U ∧ va_Nw (.declares x_dR) U ∧ va_Nw (.declares x_dE) U ∧ va_Nw (.declares x_dT) U
theorem x_XG3 (base : Nat) : m_X3 base (x_XG base) := by
  refine ⟨fun u U H hW h => ?_, fun u U H hv h => ?_, fun U H H1 ho hs h => ?_⟩
  · obtain ⟨h1, h2, ⟨a3, h3⟩, ⟨a4, h4⟩, ⟨a5, h5⟩, ⟨a6, h6⟩, h7, h8, h9, h10, h11, h12⟩ := h
    exact ⟨h1.moved hW.alike, h2.moved hW.alike, ⟨a3, vk_R.warm hW h3⟩, ⟨a4, vk_R.warm hW h4⟩, ⟨a5, vk_R.warm hW h5⟩, ⟨a6, vk_R.warm hW h6⟩, va_Nw.warmC hW h7, va_Nw.warmC hW h8, h9.moved hW.alike, va_Nw.warmD hW h10, va_Nw.warmD hW h11, va_Nw.warmD hW h12⟩
  · obtain ⟨h1, h2, ⟨a3, h3⟩, ⟨a4, h4⟩, ⟨a5, h5⟩, ⟨a6, h6⟩, h7, h8, h9, h10, h11, h12⟩ := h
    have hA : u.vm.Alike U.vm := by rw [hv]; exact Vm.Alike.refl _
    exact ⟨h1.moved hA, h2.moved hA, ⟨a3, vk_R.same hv.symm h3⟩, ⟨a4, vk_R.same hv.symm h4⟩, ⟨a5, vk_R.same hv.symm h5⟩, ⟨a6, vk_R.same hv.symm h6⟩, va_Nw.same rfl hv h7, va_Nw.same rfl hv h8, h9.moved hA, va_Nw.same rfl hv h10, va_Nw.same rfl hv h11, va_Nw.same rfl hv h12⟩
  · obtain ⟨h1, h2, h3⟩ := h
    exact ⟨h1.kept (fun a _ hn => ho a (Nat.lt_of_not_le hn)), h2.kept (fun a _ hn => ho a (Nat.lt_of_not_le hn)), h3⟩
/-- the static tables, where the program reads them -/
def x_ST (base : Nat) (roa : Nat → Nat) (U : State) (H : Heap) : Prop :=
  va_Z "SunHouse" "MOST_OF_CAUSE" "[I" (.ref (roa 1)) (fun q => base ≤ q) U H ∧ va_Z "SunHouse" "ORDERS_BEHIND_SET" "[I" (.ref (roa 2)) (fun q => base ≤ q) U H ∧
  va_Z "SunHouse" "EASTWARD" "[I" (.ref (roa 3)) (fun q => base ≤ q) U H ∧ va_Z "SunHouse" "NORTHWARD" "[I" (.ref (roa 4)) (fun q => base ≤ q) U H ∧
  va_Nw (.fieldLinkNest "SunHouse$Roof" 55 "SunHouse" "EASTWARD" "[I" "SunHouse") U ∧ va_Nw (.fieldLinkNest "SunHouse$Roof" 58 "SunHouse" "NORTHWARD" "[I" "SunHouse") U
def x_XF (base : Nat) (roa : Nat → Nat) (U : State) (H : Heap) : Prop := x_XG base U H ∧ x_ST base roa U H
theorem x_X3 (base : Nat) (roa : Nat → Nat) : m_X3 base (x_XF base roa) := by
  obtain ⟨g1, g2, g3⟩ := x_XG3 base
  refine ⟨fun u U H hW h => ?_, fun u U H hv h => ?_, fun U H H1 ho hs h => ?_⟩
  · obtain ⟨h0, h1, h2, h3, h4, h5, h6⟩ := h
    exact ⟨g1 u U H hW h0, h1.moved hW.alike, h2.moved hW.alike, h3.moved hW.alike, h4.moved hW.alike, va_Nw.warmF hW h5, va_Nw.warmF hW h6⟩
  · obtain ⟨h0, h1, h2, h3, h4, h5, h6⟩ := h
    have hA : u.vm.Alike U.vm := by rw [hv]; exact Vm.Alike.refl _
    exact ⟨g2 u U H hv h0, h1.moved hA, h2.moved hA, h3.moved hA, h4.moved hA, va_Nw.same rfl hv h5, va_Nw.same rfl hv h6⟩
  · obtain ⟨h0, h1, h2, h3, h4, h5⟩ := h
    have hk : ∀ a : Nat, a < H.size → ¬ base ≤ a → H1[a]? = H[a]? := fun a _ hn => ho a (Nat.lt_of_not_le hn)
    exact ⟨g3 U H H1 ho hs h0, h1.kept hk, h2.kept hk, h3.kept hk, h4.kept hk, h5⟩
theorem x_gM : Cond.fieldLink "SunHouse" 131 "SunHouse" "MOST_OF_CAUSE" "[I" ∈ q_W := q_w_ok (pl := 721) (by decide +kernel)
theorem x_gO : Cond.fieldLink "SunHouse" 322 "SunHouse" "ORDERS_BEHIND_SET" "[I" ∈ q_W := q_w_ok (pl := 1309) (by decide +kernel)
theorem x_Stat (l : Launch) (base : Nat) (roa : Nat → Nat) : m_Stat l base roa (x_XF base roa) := by
  intro mid pc idx a hq p e R s m args below meth c H locs cells slots Z ls rest hx hb hown hts hXF hS hdg kk
  obtain ⟨-, h1, h2, h3, h4, h5, h6⟩ := hXF
  have hm := q_s3_mem hq
  rw [q_cls] at hown
  unfold q_stt at hm
  simp only [List.mem_cons, List.not_mem_nil, or_false, Prod.mk.injEq] at hm
  rcases hm with ⟨e1, rfl, rfl⟩ | ⟨e1, rfl, rfl⟩ | ⟨e1, rfl, rfl⟩ | ⟨e1, rfl, rfl⟩
  · rw [e1] at hown
    exact va_gets hx hb (own := "SunHouse") h1 hS hown (hts _ x_gM) (fun x h => h) hdg kk
  · rw [e1] at hown
    exact va_getsN hx hb (own := "SunHouse$Roof") h3 hS hown (va_Nw.use rfl h5) (fun x h => h) hdg kk
  · rw [e1] at hown
    exact va_getsN hx hb (own := "SunHouse$Roof") h4 hS hown (va_Nw.use rfl h6) (fun x h => h) hdg kk
  · rw [e1] at hown
    exact va_gets hx hb (own := "SunHouse") h2 hS hown (hts _ x_gO) (fun x h => h) hdg kk
/-- where the words of the two throws stand in the tables -/
def x_wnd : List Cond := (lw_tbl.drop 1229).take 114 ++ ((lw_tbl.drop 109).take 16 ++ lw_tbl.drop 1881)
theorem x_wnd_ok {w : Cond} (h : w ∈ x_wnd) : w ∈ lw_tbl := by
  rcases List.mem_append.mp h with h | h
  · exact List.mem_of_mem_drop (List.mem_of_mem_take h)
  · rcases List.mem_append.mp h with h | h
    · exact List.mem_of_mem_drop (List.mem_of_mem_take h)
    · exact List.mem_of_mem_drop h
theorem x_atA0 : ∀ w ∈ (vx_atS "SunHouse" 153 x_IAE x_up).filter goodWord, w ∈ q_W := fun w hw => List.mem_filter.mpr ⟨x_wnd_ok ((by decide +kernel : ∀ w ∈ (vx_atS "SunHouse" 153 x_IAE x_up).filter goodWord, w ∈ x_wnd) w hw), (List.mem_filter.mp hw).2⟩
theorem x_atA1 : ∀ w ∈ (vx_atS "SunHouse" 153 x_IAE x_up).filter (fun w => !goodWord w), w ∈ [Cond.castable x_IAE x_IAE, Cond.declares x_dR, Cond.declares x_dE, Cond.declares x_dT] := by decide +kernel
theorem x_atA2 : ∀ w ∈ Cond.classLink "SunHouse" 149 x_IAE :: Cond.initialized x_IAE :: vx_atS "SunHouse" 153 x_IAE x_up, vx_ot w = true := by decide +kernel
theorem x_atS0 : ∀ w ∈ (vx_atS "SunHouse" 389 x_ISE x_up).filter goodWord, w ∈ q_W := fun w hw => List.mem_filter.mpr ⟨x_wnd_ok ((by decide +kernel : ∀ w ∈ (vx_atS "SunHouse" 389 x_ISE x_up).filter goodWord, w ∈ x_wnd) w hw), (List.mem_filter.mp hw).2⟩
theorem x_atS1 : ∀ w ∈ (vx_atS "SunHouse" 389 x_ISE x_up).filter (fun w => !goodWord w), w ∈ [Cond.castable x_ISE x_ISE, Cond.declares x_dR, Cond.declares x_dE, Cond.declares x_dT] := by decide +kernel
theorem x_atS2 : ∀ w ∈ Cond.classLink "SunHouse" 385 x_ISE :: Cond.initialized x_ISE :: vx_atS "SunHouse" 389 x_ISE x_up, vx_ot w = true := by decide +kernel
theorem x_kA : Cond.classLink "SunHouse" 149 x_IAE ∈ q_W := q_w_ok (pl := 1229) (by decide +kernel)
theorem x_kS : Cond.classLink "SunHouse" 385 x_ISE ∈ q_W := q_w_ok (pl := 1326) (by decide +kernel)
theorem x_iA : Cond.initialized x_IAE ∈ q_W := q_w_ok (pl := 112) (by decide +kernel)
theorem x_iS : Cond.initialized x_ISE ∈ q_W := q_w_ok (pl := 116) (by decide +kernel)
theorem x_lA : Cond.classLink "SunHouseLaw" 13 x_IAE ∈ q_W := q_w_ok (pl := 1224) (by decide +kernel)
theorem x_lS : Cond.classLink "SunHouseLaw" 22 x_ISE ∈ q_W := q_w_ok (pl := 1320) (by decide +kernel)
theorem x_th_mem {mid pc : Nat} {E : String} : ∀ {L : List (Nat × Nat × String)}, q_th3 L mid pc = some E → (mid, pc, E) ∈ L
  | [], h => by simp [q_th3] at h
  | (a, b, E') :: t, h => by
    unfold q_th3 at h
    cases hb : (Nat.beq a mid && Nat.beq b pc) with
    | true =>
      rw [hb] at h
      cases h
      rw [Bool.and_eq_true] at hb
      rw [Nat.eq_of_beq_eq_true hb.1, Nat.eq_of_beq_eq_true hb.2]
      exact List.mem_cons_self
    | false =>
      rw [hb] at h
      exact List.mem_cons_of_mem _ (x_th_mem h)
set_option maxHeartbeats 4000000 in
theorem x_ThrowG (l : Launch) (hfl : l.stackTraces = false) (base : Nat) : m_Throw l base (x_XG base) := by
  intro mid pc E hth p e R s m args below meth c H locs mc ms ls Qc XC hx hb hown hts hXF hbase hnt hlocks hf10 hl640 hmR hsR hm1 hs6 hsz hS hXC
  obtain ⟨h1, h2, ⟨a3, h3⟩, ⟨a4, h4⟩, ⟨a5, h5⟩, ⟨a6, h6⟩, h7, h8, h9, h10, h11, h12⟩ := hXF
  have hatA : ∀ w ∈ vx_atS "SunHouse" 153 x_IAE x_up, w.before args s = true := vx_hat (fun w hw => hts w (x_atA0 w hw)) x_atA1 (vx_c (va_Nw.use rfl h7) (vx_c (va_Nw.use rfl h10) (vx_c (va_Nw.use rfl h11) (vx_c (va_Nw.use rfl h12) vx_n))))
  have hatS : ∀ w ∈ vx_atS "SunHouse" 389 x_ISE x_up, w.before args s = true := vx_hat (fun w hw => hts w (x_atS0 w hw)) x_atS1 (vx_c (va_Nw.use rfl h8) (vx_c (va_Nw.use rfl h10) (vx_c (va_Nw.use rfl h11) (vx_c (va_Nw.use rfl h12) vx_n))))
  have hup : ∀ n ∈ x_up, Bundle.fit n = true := by decide +kernel
  have hR1 : x_up.length + 3 < R.frames := by show 2 + 3 < _; omega
  have hR2 : (([] : List Value).map fun v => v.category).sum + (13 * (x_up.length + 1) + 43) ≤ R.locals := by show 0 + (13 * (2 + 1) + 43) ≤ _; omega
  have hm := x_th_mem hth
  unfold q_tht at hm
  simp only [List.mem_cons, List.not_mem_nil, or_false, Prod.mk.injEq] at hm
  rcases hm with ⟨rfl, rfl, rfl⟩ | ⟨rfl, rfl, rfl⟩ | ⟨rfl, rfl, rfl⟩ | ⟨rfl, rfl, rfl⟩
  · exact vx_throwS (cc := q_b 109) (own := "SunHouse") (cls := x_IAE) (names := x_up) (ik := 149) (is := 151) (ic := 153) hx hb hfl hown (by decide +kernel) hup (hts _ x_kA) (hts _ x_iA) h3 hatA x_atA2 h1 h2 hS hsz (by decide +kernel) (by decide +kernel) (by decide +kernel) (by decide +kernel) (by decide +kernel) (fun x hx => (hnt x hx).elim) hR1 hR2 (by omega) (by omega) hlocks hXC (fun z hz => hS.2.2 z hz) (by omega) (by omega)
  · exact vx_throwSW (cc := q_b 132) (own := "SunHouse") (cls := x_IAE) (names := x_up) (ik := 149) (is := 320) (ic := 153) hx hb hfl hown (by decide +kernel) hup (hts _ x_kA) (hts _ x_iA) h4 hatA x_atA2 h1 h2 hS hsz (by decide +kernel) (by decide +kernel) (by decide +kernel) (by decide +kernel) (by decide +kernel) (fun x hx => (hnt x hx).elim) hR1 hR2 (by omega) (by omega) hlocks hXC (fun z hz => hS.2.2 z hz) (by omega) (by omega)
  · exact vx_throwSW (cc := q_b 142) (own := "SunHouse") (cls := x_IAE) (names := x_up) (ik := 149) (is := 380) (ic := 153) hx hb hfl hown (by decide +kernel) hup (hts _ x_kA) (hts _ x_iA) h5 hatA x_atA2 h1 h2 hS hsz (by decide +kernel) (by decide +kernel) (by decide +kernel) (by decide +kernel) (by decide +kernel) (fun x hx => (hnt x hx).elim) hR1 hR2 (by omega) (by omega) hlocks hXC (fun z hz => hS.2.2 z hz) (by omega) (by omega)
  · exact vx_throwSW (cc := q_b 142) (own := "SunHouse") (cls := x_ISE) (names := x_up) (ik := 385) (is := 387) (ic := 389) hx hb hfl hown (by decide +kernel) hup (hts _ x_kS) (hts _ x_iS) h6 hatS x_atS2 h1 h2 hS hsz (by decide +kernel) (by decide +kernel) (by decide +kernel) (by decide +kernel) (by decide +kernel) (fun x hx => (hnt x hx).elim) hR1 hR2 (by omega) (by omega) hlocks hXC (fun z hz => hS.2.2 z hz) (by omega) (by omega)
theorem m_drop_val (ad : Nat → Nat) (L : ML) (k : Nat) : ml_val ad (m_drop L k) = (ml_val ad L).filter (fun q => !(q.1 == k) && !(q.1 + 1 == k && q.2.category == 2)) := by
  simp only [ml_val, m_drop, List.filter_map, Function.comp_def, m_cat]
set_option maxHeartbeats 4000000 in
theorem x_CatchG (l : Launch) (base : Nat) : m_Catch l (x_XG base) := by
  intro mid pc E hh hq p e R s m args below meth c H locs cells slots Z ls rest q ce L ad hx hb hown hts hXF htab hl hce hcv hcl kk
  obtain ⟨-, -, -, -, -, -, h7, h8, h9, -⟩ := hXF
  have hm := q_h5_mem hq
  unfold q_htt at hm
  simp only [List.mem_cons, List.not_mem_nil, or_false, Prod.mk.injEq] at hm
  rcases hm with ⟨rfl, rfl, rfl, rfl⟩ | ⟨rfl, rfl, rfl, rfl⟩ | ⟨rfl, rfl, rfl, rfl⟩ | ⟨rfl, rfl, rfl, rfl⟩
  · refine vx_catch (own := "SunHouseLaw") (name := x_IAE) (E := x_IAE) hown [] ⟨0, 9, 12, 13⟩ [] (by rw [htab]; rfl) (fun z hz => by cases hz) (by decide) (by decide) (hts _ x_lA) (va_Nw.use rfl h7) hce hcv hcl ?_
    refine lv_astore (i := 4) (nL := q_nl 271) (cc := q_b 271) hx hb (by decide +kernel) hl (by decide +kernel) rfl (fun ls' hl' => kk ls' ⟨hl'.1, hl'.2.1, fun z hz => hl'.2.2 z (List.mem_cons_of_mem _ (by rw [m_drop_val] at hz; exact hz))⟩)
  · refine vx_catch (own := "SunHouseLaw") (name := x_IAE) (E := x_IAE) hown [] ⟨0, 11, 14, 13⟩ [] (by rw [htab]; rfl) (fun z hz => by cases hz) (by decide) (by decide) (hts _ x_lA) (va_Nw.use rfl h7) hce hcv hcl ?_
    refine lv_astore (i := 5) (nL := q_nl 272) (cc := q_b 272) hx hb (by decide +kernel) hl (by decide +kernel) rfl (fun ls' hl' => kk ls' ⟨hl'.1, hl'.2.1, fun z hz => hl'.2.2 z (List.mem_cons_of_mem _ (by rw [m_drop_val] at hz; exact hz))⟩)
  · refine vx_catch (own := "SunHouseLaw") (name := x_IAE) (E := x_IAE) hown [] ⟨0, 9, 12, 13⟩ [⟨0, 9, 16, 22⟩] (by rw [htab]; rfl) (fun z hz => by cases hz) (by decide) (by decide) (hts _ x_lA) (va_Nw.use rfl h7) hce hcv hcl ?_
    refine lv_astore (i := 4) (nL := q_nl 273) (cc := q_b 273) hx hb (by decide +kernel) hl (by decide +kernel) rfl (fun ls' hl' => kk ls' ⟨hl'.1, hl'.2.1, fun z hz => hl'.2.2 z (List.mem_cons_of_mem _ (by rw [m_drop_val] at hz; exact hz))⟩)
  · refine vx_catch (own := "SunHouseLaw") (name := x_ISE) (E := x_ISE) hown [⟨0, 9, 12, 13⟩] ⟨0, 9, 16, 22⟩ [] (by rw [htab]; rfl) (fun z hz => by
      rw [List.mem_singleton] at hz
      subst hz
      exact Or.inr ⟨by decide, x_IAE, hts _ x_lA, h9⟩) (by decide) (by decide) (hts _ x_lS) (va_Nw.use rfl h8) hce hcv hcl ?_
    refine lv_astore (i := 4) (nL := q_nl 273) (cc := q_b 273) hx hb (by decide +kernel) hl (by decide +kernel) rfl (fun ls' hl' => kk ls' ⟨hl'.1, hl'.2.1, fun z hz => hl'.2.2 z (List.mem_cons_of_mem _ (by rw [m_drop_val] at hz; exact hz))⟩)
theorem x_Throw (l : Launch) (hfl : l.stackTraces = false) (base : Nat) (roa : Nat → Nat) : m_Throw l base (x_XF base roa) := by
  intro mid pc E hth p e R s m args below meth c H locs mc ms ls Qc XC hx hb hown hts hXF
  exact x_ThrowG l hfl base mid pc E hth p e R s m args below meth c H locs mc ms ls Qc XC hx hb hown hts hXF.1
theorem x_Catch (l : Launch) (base : Nat) (roa : Nat → Nat) : m_Catch l (x_XF base roa) := by
  intro mid pc E hh hq p e R s m args below meth c H locs cells slots Z ls rest q ce L ad hx hb hown hts hXF
  exact x_CatchG l base mid pc E hh hq p e R s m args below meth c H locs cells slots Z ls rest q ce L ad hx hb hown hts hXF.1
end
section
/-! THE CLAIM OUT OF ONE WALK OF THE LAW'S BODY. Your part is whole_start (and what it stands on); all else here is the same for every law, but numbers. -/
def R_law : String := "SunHouseLaw"
def lw_P (b : Addr) (xs : List Int32) (args : Array Value) (s : State) : Prop := args = #[.ref b] ∧ s.IntsAt b xs ∧ xs.length ≤ 3072 ∧ (Jvm.Cond.and given_1 narrow_1).before args s = true
def lw_Q (_ : Array Value) (s : State) (o : Outcome) (t : State) : Prop := o = .returned (some (.int 1)) ∧ Framed s o t [] 601024 7293034
def lw_Z (below : List Frame) (a : Array Value) (s : State) : State → Prop := fun t => ∃ o, t.status = .running ∧ Ended t below o ∧ lw_Q a s o t
/-- the law's own end, with 1 on the stack, nothing written that was there before, its room as the claim has it -/
theorem lw_ret {p : Program} {l : Launch} {e : Env} {s : State} {m : MethodId} {below : List Frame} {meth : Method} {c : Code} {b : Nat} (hx : p.tables.exec = Jvm.exec) (hb : c.code = code) (hr : meth.sig.returnType = ret) (hlocks : meth.locks = false) {pc : Nat} {H : Heap} {ls : Array Slot} (hdg : decode code pc = .ok (.ireturn, 1)) : W p l e room_1 s m #[Value.ref b] below meth c H [] 601024 7293034 (lw_Z below #[Value.ref b] s) (F0 m pc ls [.int 1]) := by
  intro T hT X
  obtain ⟨fs, hret, hrun, hended, hW, hframe⟩ := X.leave (v := some (.int 1)) (hlocks := hlocks) (fun h => by rw [hr] at h; cases h)
  have hmeth' : T.vm.method? m = some meth := X.method'
  refine ⟨T.setFrames fs, ?_, .returned (some (.int 1)), hrun, hended, rfl, ⟨_, rfl⟩, hW, hframe⟩
  jvm_step X.here [X.here.top, hx, hb, hdg, hmeth', hr, ret, narrow_b1]
  (try refine ⟨rfl, ?_⟩); (try refine ⟨rfl, ?_⟩)
  first | (intro acts; rw [hret _ acts rfl rfl rfl]) | rw [hret _ _ rfl rfl rfl]
  exact Steps.refl _
/-- what holds at the law's entry: the machine, the code, the tables' words (any of lw_tbl by 'hts w (by decide +kernel)'), the script of L ints xs at the cell b, what the Statement gives of the start (any of its parts by flat_of_before) -/
def lw_At (p : Program) (s : State) (m : MethodId) (meth : Method) (c : Code) (b L : Nat) (xs : Nat → Int32) : Prop :=
  p.tables.exec = Jvm.exec ∧ c.code = code ∧ meth.sig.returnType = ret ∧ c.maxLocals = 8 ∧ s.vm.findClass R_law = some m.cls ∧ (∀ w ∈ lw_tbl, w.before #[Value.ref b] s = true) ∧ va_X b L xs s s.heap ∧ b < s.heap.size ∧ meth.locks = false ∧ (Jvm.Cond.and given_1 narrow_1).before #[Value.ref b] s = true
theorem x_inst : ((List.range 13).all fun k => match vwCl[k]? with
  | some q => q_w (Cond.instantiable q.1 q.2.2) (([422, 177, 514, 126, 132, 367, 214, 272, 322, 251, 494, 118, 1343] : List Nat).getD k 0)
  | none => true) = true := by decide +kernel
theorem x_nest : ((List.range q_N.length).all fun k => match q_N[k]? with
  | some q => decide (lw_tbl[([323, 368, 492, 495, 515, 691, 700, 1126, 645, 654, 1080, 1086, 133, 178, 215, 252, 273, 1121, 640, 663, 586, 597, 896, 874, 883, 984, 1139, 1014, 1024, 957, 963] : List Nat).getD k 0]? = some (Cond.methodLinkNest q.1 q.2.1 q.2.2.1 q.2.2.2))
  | none => true) = true := by decide +kernel
theorem x_nest_in {q : String × Nat × MethodName × String} (hq : q ∈ q_N) : Cond.methodLinkNest q.1 q.2.1 q.2.2.1 q.2.2.2 ∈ lw_tbl := by
  obtain ⟨k, hk⟩ := List.getElem?_of_mem hq
  have h := List.all_eq_true.mp x_nest k (List.mem_range.mpr (List.getElem?_eq_some_iff.mp hk).1)
  rw [hk] at h
  exact List.mem_of_getElem? (of_decide_eq_true h)
theorem x_ao8 : Cond.arrayOver (.object "SunHouse$Shelf") ∈ lw_tbl := List.mem_of_getElem? (i := 321) (by decide +kernel)
theorem x_ao7 : Cond.arrayOver (.object "SunHouse$Seeker") ∈ lw_tbl := List.mem_of_getElem? (i := 212) (by decide +kernel)
theorem x_lU : Cond.laysStatic Bundle.tN "UNASSIGNED_STACK" Bundle.steD ∈ lw_tbl := List.mem_of_getElem? (i := 1256) (by decide +kernel)
theorem x_lN : Cond.laysStatic Bundle.tN "SUPPRESSED_SENTINEL" Bundle.listD ∈ lw_tbl := List.mem_of_getElem? (i := 1258) (by decide +kernel)
theorem x_iT : Cond.initialized Bundle.tN ∈ lw_tbl := List.mem_of_getElem? (i := 109) (by decide +kernel)
theorem x_s1 : Cond.stringRef "SunHouse" 151 "no such part, or no such current" ∈ lw_tbl := List.mem_of_getElem? (i := 1269) (by decide +kernel)
theorem x_s2 : Cond.stringRef "SunHouse" 320 "no such part, or no such cause" ∈ lw_tbl := List.mem_of_getElem? (i := 1308) (by decide +kernel)
theorem x_s3 : Cond.stringRef "SunHouse" 380 "no such shelf" ∈ lw_tbl := List.mem_of_getElem? (i := 1325) (by decide +kernel)
theorem x_s4 : Cond.stringRef "SunHouse" 387 "no row, or no such place in it" ∈ lw_tbl := List.mem_of_getElem? (i := 1335) (by decide +kernel)
theorem x_cA : Cond.castable x_IAE x_IAE ∈ lw_tbl := List.mem_of_getElem? (i := 1231) (by decide +kernel)
theorem x_cS : Cond.castable x_ISE x_ISE ∈ lw_tbl := List.mem_of_getElem? (i := 1328) (by decide +kernel)
theorem x_wR : Cond.declares x_dR ∈ lw_tbl := List.mem_of_getElem? (i := 1233) (by decide +kernel)
theorem x_wE : Cond.declares x_dE ∈ lw_tbl := List.mem_of_getElem? (i := 1235) (by decide +kernel)
theorem x_wT : Cond.declares x_dT ∈ lw_tbl := List.mem_of_getElem? (i := 1237) (by decide +kernel)
theorem x_nU : (Cond.isRef (.static Bundle.tN "UNASSIGNED_STACK" Bundle.steD)) ∈ flatC (Jvm.Cond.and given_1 narrow_1) := by decide +kernel
theorem x_nN : (Cond.isRef (.static Bundle.tN "SUPPRESSED_SENTINEL" Bundle.listD)) ∈ flatC (Jvm.Cond.and given_1 narrow_1) := by decide +kernel
theorem x_nC : (Cond.not (.castable x_ISE x_IAE)) ∈ flatC (Jvm.Cond.and given_1 narrow_1) := by decide +kernel
def x_tA (cI cL c8 c7 : ClassId) : Nat → ClassId := fun k => if k = 100 then cI else if k = 101 then cL else if k = 110 then c8 else c7
theorem x_str {args : Array Value} {s : State} {cur : ClassId} {k : Nat} {tx : String} (hcur : s.vm.findClass "SunHouse" = some cur) (h : (Cond.stringRef "SunHouse" k tx).before args s = true) : ∃ a, vk_R "SunHouse" k tx a s := by
  have h1 : (Cond.stringRef "SunHouse" k tx).before #[] s = true := by simpa only [Cond.before, Cond.holds, Cond.value] using h
  obtain ⟨k', cf, i, a, -, -, -, -, -, hev⟩ := Cond.stringRef_spec (idx := []) (first := s) (o := none) (args := #[]) hcur h1
  exact ⟨a, h1, hev⟩
def x_roa (b t1 t2 t3 t4 : Nat) (k : Nat) : Nat := match k with
  | 0 => b
  | 1 => t1
  | 2 => t2
  | 3 => t3
  | _ => t4
theorem x_Tlt {ty : FieldType} {t N : Nat} {f : Nat → Value} {A : Nat → Prop} {U : State} {H : Heap} (h : va_T ty t N f A U H) : t < H.size := by
  obtain ⟨cell, h1, _⟩ := h
  exact (Array.getElem?_eq_some_iff.mp h1).1
theorem x_iSH : Cond.initialized "SunHouse" ∈ lw_tbl := List.mem_of_getElem? (i := 95) (by decide +kernel)
theorem x_l1 : Cond.laysStatic "SunHouse" "MOST_OF_CAUSE" "[I" ∈ lw_tbl := List.mem_of_getElem? (i := 722) (by decide +kernel)
theorem x_y1a : Cond.arrayOf (.static "SunHouse" "MOST_OF_CAUSE" "[I") .int ∈ flatC (Jvm.Cond.and given_1 narrow_1) := by decide +kernel
theorem x_y1l : Cond.eq (.length (.static "SunHouse" "MOST_OF_CAUSE" "[I")) (.int (Int32.ofNat 4)) ∈ flatC (Jvm.Cond.and given_1 narrow_1) := by decide +kernel
theorem x_y1e : ∀ j : Nat, j < 4 → Cond.eq (.elem (.static "SunHouse" "MOST_OF_CAUSE" "[I") (.int (Int32.ofNat j))) (.int (x_t 1 j)) ∈ flatC (Jvm.Cond.and given_1 narrow_1) := by decide +kernel
theorem x_l2 : Cond.laysStatic "SunHouse" "ORDERS_BEHIND_SET" "[I" ∈ lw_tbl := List.mem_of_getElem? (i := 1310) (by decide +kernel)
theorem x_y2a : Cond.arrayOf (.static "SunHouse" "ORDERS_BEHIND_SET" "[I") .int ∈ flatC (Jvm.Cond.and given_1 narrow_1) := by decide +kernel
theorem x_y2l : Cond.eq (.length (.static "SunHouse" "ORDERS_BEHIND_SET" "[I")) (.int (Int32.ofNat 4)) ∈ flatC (Jvm.Cond.and given_1 narrow_1) := by decide +kernel
theorem x_y2e : ∀ j : Nat, j < 4 → Cond.eq (.elem (.static "SunHouse" "ORDERS_BEHIND_SET" "[I") (.int (Int32.ofNat j))) (.int (x_t 2 j)) ∈ flatC (Jvm.Cond.and given_1 narrow_1) := by decide +kernel
theorem x_l3 : Cond.laysStatic "SunHouse" "EASTWARD" "[I" ∈ lw_tbl := List.mem_of_getElem? (i := 880) (by decide +kernel)
theorem x_y3a : Cond.arrayOf (.static "SunHouse" "EASTWARD" "[I") .int ∈ flatC (Jvm.Cond.and given_1 narrow_1) := by decide +kernel
theorem x_y3l : Cond.eq (.length (.static "SunHouse" "EASTWARD" "[I")) (.int (Int32.ofNat 8)) ∈ flatC (Jvm.Cond.and given_1 narrow_1) := by decide +kernel
theorem x_y3e : ∀ j : Nat, j < 8 → Cond.eq (.elem (.static "SunHouse" "EASTWARD" "[I") (.int (Int32.ofNat j))) (.int (x_t 3 j)) ∈ flatC (Jvm.Cond.and given_1 narrow_1) := by decide +kernel
theorem x_l4 : Cond.laysStatic "SunHouse" "NORTHWARD" "[I" ∈ lw_tbl := List.mem_of_getElem? (i := 882) (by decide +kernel)
theorem x_y4a : Cond.arrayOf (.static "SunHouse" "NORTHWARD" "[I") .int ∈ flatC (Jvm.Cond.and given_1 narrow_1) := by decide +kernel
theorem x_y4l : Cond.eq (.length (.static "SunHouse" "NORTHWARD" "[I")) (.int (Int32.ofNat 8)) ∈ flatC (Jvm.Cond.and given_1 narrow_1) := by decide +kernel
theorem x_y4e : ∀ j : Nat, j < 8 → Cond.eq (.elem (.static "SunHouse" "NORTHWARD" "[I") (.int (Int32.ofNat j))) (.int (x_t 4 j)) ∈ flatC (Jvm.Cond.and given_1 narrow_1) := by decide +kernel
theorem x_nE : Cond.fieldLinkNest "SunHouse$Roof" 55 "SunHouse" "EASTWARD" "[I" "SunHouse" ∈ lw_tbl := List.mem_of_getElem? (i := 879) (by decide +kernel)
theorem x_nO : Cond.fieldLinkNest "SunHouse$Roof" 58 "SunHouse" "NORTHWARD" "[I" "SunHouse" ∈ lw_tbl := List.mem_of_getElem? (i := 881) (by decide +kernel)
/-- the machine at the law's entry -/
theorem x_entry {p : Program} {s : State} {m : MethodId} {meth : Method} {c : Code} {b L : Nat} {xs : Nat → Int32} (C0 : lw_At p s m meth c b L xs) :
    ∃ (D : va_G) (tA : Nat → ClassId) (tys : List (ClassId × FieldType)) (t1 t2 t3 t4 : Nat), m_G s.heap.size (x_roa b t1 t2 t3 t4) (x_ro L xs) tA D tys (x_XF s.heap.size (x_roa b t1 t2 t3 t4)) s s.heap := by
  obtain ⟨hx, hb, hr, hml, hown, hts, hX, hbl, hlocks, hgv⟩ := C0
  have hq : ∀ w ∈ q_W, w.before #[Value.ref b] s = true := fun w hw => hts w (List.mem_filter.mp hw).1
  have hfl := flat_of_before _ hgv
  have h2 : ∀ k : Nat, ∃ z : ClassId × (Nat → Nat), ∀ q : vw_C, vwCl[k]? = some q → u_Kn s q.1 q.2.1 q.2.2 z.1 z.2 := by
    intro k
    cases hk : vwCl[k]? with
    | none => exact ⟨(0, fun _ => 0), fun q h => by cases h⟩
    | some q =>
      have hlt : k < 13 := (List.getElem?_eq_some_iff.mp hk).1
      have hi := List.all_eq_true.mp x_inst k (List.mem_range.mpr hlt)
      rw [hk] at hi
      obtain ⟨C, T, N⟩ := q
      obtain ⟨-, -, hws, -⟩ := q_cl_ok hk
      obtain ⟨cC, iS, hu⟩ := u_known hq hws (hq _ (q_w_ok hi))
      exact ⟨(cC, iS), fun q' h' => by cases h'; exact hu⟩
  have hD : ∀ (k : Nat) (q : vw_C), vwCl[k]? = some q → u_Kn s q.1 q.2.1 q.2.2 (h2 k).choose.1 (h2 k).choose.2 := fun k q hk => (h2 k).choose_spec q hk
  obtain ⟨cI, kI, compI, i1, i2, i3⟩ := Cond.arrayClass_spec (hq _ q_ai_ok.1)
  obtain ⟨cL, kL, compL, l1, l2, l3⟩ := Cond.arrayClass_spec (hq _ q_ai_ok.2)
  obtain ⟨comp8, c8, k8, a1, a2, a3, a4, a5⟩ := Cond.arrayOver_spec (hts _ x_ao8)
  obtain ⟨comp7, c7, k7, b1, b2, b3, b4, b5⟩ := Cond.arrayOver_spec (hts _ x_ao7)
  have hcur : s.vm.findClass "SunHouse" = some (h2 11).choose.1 := (hD 11 _ (show vwCl[11]? = some (RX11, TX11, 10) from rfl)).2.1
  obtain ⟨t1, e1, T1⟩ := va_Tof (tm := .static "SunHouse" "MOST_OF_CAUSE" "[I") (ty := .int) (N := 4) (f := fun j => Value.int (x_t 1 j)) (A := fun q => s.heap.size ≤ q) (by decide) (hfl _ x_y1a) (va_eqt (hfl _ x_y1l)) (fun j hj => va_eqt (hfl _ (x_y1e j hj))) (fun a ha => Nat.not_le.mpr ha)
  obtain ⟨t2, e2, T2⟩ := va_Tof (tm := .static "SunHouse" "ORDERS_BEHIND_SET" "[I") (ty := .int) (N := 4) (f := fun j => Value.int (x_t 2 j)) (A := fun q => s.heap.size ≤ q) (by decide) (hfl _ x_y2a) (va_eqt (hfl _ x_y2l)) (fun j hj => va_eqt (hfl _ (x_y2e j hj))) (fun a ha => Nat.not_le.mpr ha)
  obtain ⟨t3, e3, T3⟩ := va_Tof (tm := .static "SunHouse" "EASTWARD" "[I") (ty := .int) (N := 8) (f := fun j => Value.int (x_t 3 j)) (A := fun q => s.heap.size ≤ q) (by decide) (hfl _ x_y3a) (va_eqt (hfl _ x_y3l)) (fun j hj => va_eqt (hfl _ (x_y3e j hj))) (fun a ha => Nat.not_le.mpr ha)
  obtain ⟨t4, e4, T4⟩ := va_Tof (tm := .static "SunHouse" "NORTHWARD" "[I") (ty := .int) (N := 8) (f := fun j => Value.int (x_t 4 j)) (A := fun q => s.heap.size ≤ q) (by decide) (hfl _ x_y4a) (va_eqt (hfl _ x_y4l)) (fun j hj => va_eqt (hfl _ (x_y4e j hj))) (fun a ha => Nat.not_le.mpr ha)
  refine ⟨(fun k => (h2 k).choose.1, fun k => (h2 k).choose.2), x_tA cI cL c8 c7, [(cI, .int), (cL, .long), (c8, .object "SunHouse$Shelf"), (c7, .object "SunHouse$Seeker")], t1, t2, t3, t4, ⟨hD, ?_⟩, ⟨rfl, rfl, ?_⟩, ?_, ?_, ?_, ⟨⟨?_, ?_, ?_, ?_, ?_, ?_, ?_, ?_, ?_, ?_, ?_, ?_⟩, ⟨?_, ?_, ?_, ?_, ?_, ?_⟩⟩, Nat.le_refl _⟩
  · intro k q hk
    match k, hk with
    | 0, hk => cases hk; exact ⟨fun n z => ⟨fun k h => (by cases h), kI, i2, compI, i3⟩, i1⟩
    | 1, hk => cases hk; exact ⟨fun n z => ⟨fun k h => (by cases h), kL, l2, compL, l3⟩, l1⟩
    | 2, hk => cases hk; exact ⟨fun n z => ⟨fun k h => (by cases h), k8, a3, comp8, a4⟩, k8, comp8, a3, a4, a1, a5⟩
    | 3, hk => cases hk; exact ⟨fun n z => ⟨fun k h => (by cases h), k7, b3, comp7, b4⟩, k7, comp7, b3, b4, b1, b5⟩
    | k + 4, hk => cases hk
  · intro ci hci
    have hc2 : ci = 7 ∨ ci = 8 := by
      unfold q_ra at hci
      rw [Bool.or_eq_true] at hci
      rcases hci with h | h
      · exact Or.inl (Nat.eq_of_beq_eq_true h)
      · exact Or.inr (Nat.eq_of_beq_eq_true h)
    rcases hc2 with rfl | rfl
    · exact ⟨3, _, _, _, rfl, rfl⟩
    · exact ⟨2, _, _, _, rfl, rfl⟩
  · intro a n f ha hf
    have hcs : a = 0 ∨ a = 1 ∨ a = 2 ∨ a = 3 ∨ a = 4 ∨ 5 ≤ a := by omega
    rcases hcs with rfl | rfl | rfl | rfl | rfl | h5
    · cases (show some (L, xs) = some (n, f) from hf)
      obtain ⟨cell, k1, k2, k3, k4, k5⟩ := hX
      exact ⟨⟨cell, k1, k2, k3, Nat.le_of_eq k4.symm, by rw [k4], k5, Nat.not_le.mpr hbl⟩, hbl, Nat.not_le.mpr hbl⟩
    · cases (show some (4, x_t 1) = some (n, f) from hf)
      exact ⟨T1, x_Tlt T1, Nat.not_le.mpr (x_Tlt T1)⟩
    · cases (show some (4, x_t 2) = some (n, f) from hf)
      exact ⟨T2, x_Tlt T2, Nat.not_le.mpr (x_Tlt T2)⟩
    · cases (show some (8, x_t 3) = some (n, f) from hf)
      exact ⟨T3, x_Tlt T3, Nat.not_le.mpr (x_Tlt T3)⟩
    · cases (show some (8, x_t 4) = some (n, f) from hf)
      exact ⟨T4, x_Tlt T4, Nat.not_le.mpr (x_Tlt T4)⟩
    · unfold x_ro at hf
      rw [if_neg (by omega), if_neg (by omega), if_neg (by omega), if_neg (by omega), if_neg (by omega)] at hf
      cases hf
  · exact fun q hq2 => va_Nw.of rfl (hts _ (x_nest_in hq2))
  · intro ci C T N hci hcl
    have hc2 : ci = 7 ∨ ci = 8 := by
      unfold q_ra at hci
      rw [Bool.or_eq_true] at hci
      rcases hci with h | h
      · exact Or.inl (Nat.eq_of_beq_eq_true h)
      · exact Or.inr (Nat.eq_of_beq_eq_true h)
    rcases hc2 with rfl | rfl
    · cases hcl; exact va_AO.of (hts _ x_ao7)
    · cases hcl; exact va_AO.of (hts _ x_ao8)
  · exact vx_Zqof (hts _ x_lU) (hts _ x_iT) (hfl _ x_nU) (fun a ha => Nat.not_le.mpr ha)
  · exact vx_Zqof (hts _ x_lN) (hts _ x_iT) (hfl _ x_nN) (fun a ha => Nat.not_le.mpr ha)
  · exact x_str hcur (hts _ x_s1)
  · exact x_str hcur (hts _ x_s2)
  · exact x_str hcur (hts _ x_s3)
  · exact x_str hcur (hts _ x_s4)
  · exact va_Nw.of rfl (hts _ x_cA)
  · exact va_Nw.of rfl (hts _ x_cS)
  · exact va_Nc.of (hfl _ x_nC)
  · exact va_Nw.of rfl (hts _ x_wR)
  · exact va_Nw.of rfl (hts _ x_wE)
  · exact va_Nw.of rfl (hts _ x_wT)
  · exact va_Zref (hts _ x_l1) (hts _ x_iSH) e1 (fun a ha => Nat.not_le.mpr ha)
  · exact va_Zref (hts _ x_l2) (hts _ x_iSH) e2 (fun a ha => Nat.not_le.mpr ha)
  · exact va_Zref (hts _ x_l3) (hts _ x_iSH) e3 (fun a ha => Nat.not_le.mpr ha)
  · exact va_Zref (hts _ x_l4) (hts _ x_iSH) e4 (fun a ha => Nat.not_le.mpr ha)
  · exact va_Nw.of rfl (hts _ x_nE)
  · exact va_Nw.of rfl (hts _ x_nO)
set_option maxHeartbeats 4000000 in
/-- the law's end -/
theorem x_end {p : Program} {e : Env} {s : State} {m : MethodId} {below : List Frame} {meth : Method} {c : Code} (l : Launch) (hflags : l.flags = flags0) {b L : Nat} {xs : Nat → Int32} (C0 : lw_At p s m meth c b L xs)
    {k : Nat} {w' : MWd} (h : m_run (x_ro L xs) k 60 274 0 [(0, .inr (.inr (some 0)))] [] (8, 0, 0, fun _ => (0, 0), fun _ _ => .inl 0) = some (.inl (some (.inl 1)), w')) (hc : mcx w' ≤ 601024) (hs : msl w' ≤ 7293034) :
    W p l e room_1 s m #[Value.ref b] below meth c s.heap [] 0 0 (lw_Z below #[Value.ref b] s) (entryFrame m ([Value.ref b] : List Value).toArray 8) := by
  obtain ⟨D, tA, tys, t1, t2, t3, t4, hG⟩ := x_entry C0
  obtain ⟨hx, hb, hr, hml, hown, hts, hX, hbl, hlocks, hgv⟩ := C0
  have hfl : l.stackTraces = false := by unfold Launch.stackTraces; rw [hflags]; decide +kernel
  have hok := m_sound (l := l) (roa := x_roa b t1 t2 t3 t4) (tA := tA) (D := D) (tys := tys) (x_X3 s.heap.size _) (x_Throw l hfl s.heap.size _) (x_Catch l s.heap.size _) (x_Stat l s.heap.size _) _ _ _ _ _ _ _ _ _ h
  rw [lg_entry_eq]
  have hl := m_ent_has (base := s.heap.size) (roa := x_roa b t1 t2 t3 t4) (cm := 274) (As := [.inr (.inr (some 0))]) (by decide +kernel)
  refine hok p e room_1 s m #[Value.ref b] below meth c s.heap [] 0 0 (mcx w') (msl w') _ _ hx hb hml hown (fun w hw => hts w (List.mem_filter.mp hw).1) (fun hi => absurd hi (by decide +kernel)) hG hl ?_ va_S.rf (Nat.le_refl _) (Nat.le_refl _) (fun _ => Nat.le_refl _) (by decide) (by decide) (Nat.le_trans hc (by decide)) (Nat.le_trans hs (by decide)) (Nat.zero_add _) (Nat.zero_add _) ?_ ?_ ?_
  · intro k q hk
    simp [m_ws] at hk
  · intro v hv i len pc ls H locs st hret hd hn hP hS
    cases hv
    refine va_forget (fun q hq => hS.2.2 q hq) ?_
    refine W.widen hc hs ?_
    unfold m_ret at hret
    split at hret
    · split at hret <;> cases hret
    · split at hret
      · cases hret
        have hd3 : decode code pc = .ok (.ireturn, 1) := by have e : 1 = len := hn.resolve_right (by decide); subst e; exact hd
        exact lw_ret hx hb hr hlocks hd3
      · split at hret
        · cases hret
          have hd3 : decode code pc = .ok (.ireturn, 1) := by have e : 1 = len := hn.resolve_right (by decide); subst e; exact hd
          exact lw_ret hx hb hr hlocks hd3
        · cases hret
      · cases hret
    · split at hret <;> cases hret
    · split at hret <;> cases hret
    · cases hret
  · intro E hE
    cases hE
  · intro pc E hh hq
    exact absurd hq (by rw [q_htt_no (by decide +kernel)]; exact fun h => by cases h)
end
