/-! THE WORLD BEHIND THE CONSTRUCTORS, in whole numbers -/
def x_r0 : Nat → Int32 := fun _ => 0
theorem x_d0 : s_drv x_r0 := by
  refine ⟨?_, ?_, ?_, ?_⟩ <;> decide
def x_w3 : MWd := s_w x_r0 x_A3
def x_toI : SV → Int
  | .inl (.inl y) => y.toInt
  | .inl (.inr (.inl y)) => y.toInt
  | _ => 0
def x_i (a k : Nat) : Int := if a < 214 ∧ k < (e_sh a).2 then x_toI (s_mem x_A3.2.2.2 a k) else 0
/-- the static tables -/
def x_t (a k : Nat) : Int32 := Int32.ofInt ((([[], [100, 50, 50, 40], [6, 2, 2, 6], [1, 1, 0, -1, -1, -1, 0, 1], [0, 1, 1, 1, 0, -1, -1, -1]] : List (List Int)).getD a []).getD k 0)
def x_M (L : Nat) (xs : Nat → Int32) : EM := fun a k => if a = 0 then (xs k).toInt else if a < 5 then (x_t a k).toInt else if a = 5 then (if k = 1 then (L : Int) else 0) else if a < 8 then 0 else x_i a k
def x_ro (L : Nat) (xs : Nat → Int32) : MRo := fun a => if a = 0 then some (L, xs) else if a = 1 then some (4, x_t 1) else if a = 2 then some (4, x_t 2) else if a = 3 then some (8, x_t 3) else if a = 4 then some (8, x_t 4) else none
theorem x_M8 {L : Nat} {xs : Nat → Int32} {a k : Nat} (h : 8 ≤ a) : x_M L xs a k = x_i a k := by
  unfold x_M
  rw [if_neg (by omega), if_neg (by omega), if_neg (by omega), if_neg (by omega)]
/-- a cell of an object is of its kind, with what the trees' world says -/
def x_vb (t : Nat) (x : Int) : SV → Bool
  | .inl (.inl y) => (Nat.beq t 0 || (Nat.beq t 3 && (decide (x = 0) || decide (x = 1)))) && decide (y.toInt = x)
  | .inl (.inr (.inl y)) => Nat.beq t 1 && decide (y.toInt = x)
  | .inl (.inr (.inr none)) => Nat.beq t 2 && decide (x = -1)
  | .inl (.inr (.inr (some a))) => Nat.beq t 2 && decide (x = (a : Int))
  | .inr _ => false
theorem x_vb_ok {t : Nat} {x : Int} {v : SV} {ρ : Nat → Int32} (h : x_vb t x v = true) : e_v t x (s_val ρ v) := by
  match v, h with
  | .inl (.inl y), h =>
    unfold x_vb at h
    simp only [Bool.and_eq_true, Bool.or_eq_true, decide_eq_true_eq] at h
    obtain ⟨h1 | ⟨h1, h2⟩, h3⟩ := h
    · rw [Nat.eq_of_beq_eq_true h1]
      exact ⟨y, rfl, h3⟩
    · rw [Nat.eq_of_beq_eq_true h1]
      exact ⟨h2, y, rfl, h3⟩
  | .inl (.inr (.inl y)), h =>
    unfold x_vb at h
    simp only [Bool.and_eq_true, decide_eq_true_eq] at h
    rw [Nat.eq_of_beq_eq_true h.1]
    exact ⟨y, rfl, h.2⟩
  | .inl (.inr (.inr none)), h =>
    unfold x_vb at h
    simp only [Bool.and_eq_true, decide_eq_true_eq] at h
    rw [Nat.eq_of_beq_eq_true h.1]
    exact Or.inl ⟨h.2, rfl⟩
  | .inl (.inr (.inr (some a))), h =>
    unfold x_vb at h
    simp only [Bool.and_eq_true, decide_eq_true_eq] at h
    rw [Nat.eq_of_beq_eq_true h.1]
    exact Or.inr ⟨a, h.2, rfl⟩
/-- rows of ints and of longs stand as they were made -/
def x_row (a : Nat) : Bool := match s_cell x_A3.2.2.2 a with
  | some c => c.2.isEmpty && decide (c.1 = e_sh a)
  | none => false
def x_obj (a : Nat) : Bool := (List.range (e_sh a).2).all fun k => x_vb (e_ty a k) (if e_ty a k = 2 then e_gr a k else x_i a k) (s_mem x_A3.2.2.2 a k) && decide (-2147483648 ≤ x_i a k) && decide (x_i a k ≤ 2147483647)
def x_isr (a : Nat) : Bool := Nat.beq (e_sh a).1 100 || Nat.beq (e_sh a).1 101
set_option maxRecDepth 100000 in
theorem x_cells : ((List.range 214).all fun a => Nat.ble a 7 || (if x_isr a = true then x_row a else x_obj a)) = true := by decide +kernel
theorem x_cell {a : Nat} (h8 : 8 ≤ a) (h : a < 214) : (x_isr a = true ∧ x_row a = true) ∨ (x_isr a = false ∧ x_obj a = true) := by
  have h1 := List.all_eq_true.mp x_cells a (List.mem_range.mpr h)
  rw [Bool.or_eq_true] at h1
  rcases h1 with h1 | h1
  · have := Nat.le_of_ble_eq_true h1; omega
  · cases hr : x_isr a with
    | true => rw [hr, if_pos rfl] at h1; exact Or.inl ⟨rfl, h1⟩
    | false => rw [hr, if_neg (by decide)] at h1; exact Or.inr ⟨rfl, h1⟩
theorem x_row_ok {a : Nat} (h : x_isr a = true) (hr : x_row a = true) (k : Nat) : s_mem x_A3.2.2.2 a k = .inl (s_dflt (e_sh a).1 k) := by
  unfold x_row at hr
  unfold s_mem
  split at hr
  · rename_i c hc
    rw [hc]
    simp only [Bool.and_eq_true, decide_eq_true_eq] at hr
    unfold s_get
    obtain ⟨c1, c2⟩ := c
    obtain ⟨hr1, hr2⟩ := hr
    dsimp only at hr1 hr2 ⊢
    rw [List.isEmpty_iff.mp hr1, hr2]
    rfl
  · cases hr
theorem x_i0 {a : Nat} (h8 : 8 ≤ a) (h : (e_sh a).1 = 100) (k : Nat) : x_i a k = 0 := by
  unfold x_i
  by_cases c : a < 214 ∧ k < (e_sh a).2
  · rw [if_pos c]
    rcases x_cell h8 c.1 with ⟨h1, h2⟩ | ⟨h1, h2⟩
    · rw [x_row_ok h1 h2, h]
      rfl
    · exfalso
      unfold x_isr at h1
      rw [h] at h1
      exact absurd h1 (by decide)
  · rw [if_neg c]
theorem x_i32 {a : Nat} (h8 : 8 ≤ a) (k : Nat) : -2147483648 ≤ x_i a k ∧ x_i a k ≤ 2147483647 := by
  by_cases c : a < 214 ∧ k < (e_sh a).2
  · rcases x_cell h8 c.1 with ⟨h1, h2⟩ | ⟨h1, h2⟩
    · have e : x_i a k = 0 := by
        unfold x_i
        rw [if_pos c, x_row_ok h1 h2]
        unfold x_isr at h1
        rw [Bool.or_eq_true] at h1
        rcases h1 with h1 | h1
        · rw [Nat.eq_of_beq_eq_true h1]; rfl
        · rw [Nat.eq_of_beq_eq_true h1]; rfl
      rw [e]
      decide
    · unfold x_obj at h2
      have h3 := List.all_eq_true.mp h2 k (List.mem_range.mpr c.2)
      simp only [Bool.and_eq_true, decide_eq_true_eq] at h3
      exact ⟨h3.1.2, h3.2⟩
  · unfold x_i
    rw [if_neg c]
    decide
theorem x_shp : ((List.range 214).all fun a => Nat.ble a 7 || decide (s_shp x_A3.2.2.2 a = e_sh a)) = true := by decide +kernel
theorem x_tb (a k : Nat) : -2147483648 ≤ (x_t a k).toInt ∧ (x_t a k).toInt ≤ 2147483647 := e_rng _
theorem x_wr {L : Nat} {xs : Nat → Int32} (hL : L ≤ 3072) : e_wr (x_ro L xs) (x_M L xs) x_w3 := by
  have m50 : x_M L xs 5 0 = 0 := rfl
  refine ⟨rfl, fun a h8 h => ?_, fun a k h8 h hk => ?_, by rw [m50]; decide, by rw [m50]; rfl, by rw [m50]; rfl, fun a ha hs => ?_⟩
  · have h1 := List.all_eq_true.mp x_shp a (List.mem_range.mpr h)
    rw [Bool.or_eq_true] at h1
    rcases h1 with h1 | h1
    · have := Nat.le_of_ble_eq_true h1; omega
    · exact of_decide_eq_true h1
  · rw [x_M8 h8]
    show e_v (e_ty a k) _ (s_val x_r0 (s_mem x_A3.2.2.2 a k))
    rcases x_cell h8 h with ⟨h1, h2⟩ | ⟨h1, h2⟩
    · have hi : x_i a k = x_toI (s_mem x_A3.2.2.2 a k) := if_pos ⟨h, hk⟩
      rw [hi, x_row_ok h1 h2]
      unfold x_isr at h1
      rw [Bool.or_eq_true] at h1
      rcases h1 with h1 | h1
      · have e := Nat.eq_of_beq_eq_true h1
        have et : e_ty a k = 0 := by unfold e_ty; rw [e]; rfl
        rw [et, e]
        exact ⟨0, rfl, rfl⟩
      · have e := Nat.eq_of_beq_eq_true h1
        have et : e_ty a k = 1 := by unfold e_ty; rw [e]; rfl
        rw [et, e]
        exact ⟨0, rfl, rfl⟩
    · unfold x_obj at h2
      have h3 := List.all_eq_true.mp h2 k (List.mem_range.mpr hk)
      simp only [Bool.and_eq_true, decide_eq_true_eq] at h3
      exact x_vb_ok h3.1.1
  · have h5 : a = 0 ∨ a = 1 ∨ a = 2 ∨ a = 3 ∨ a = 4 := by
      have key : ∀ k : Fin 8, (e_sh k.val).1 = 100 → k.val < 5 := by decide +kernel
      have := key ⟨a, ha⟩ hs
      dsimp only at this
      omega
    rcases h5 with rfl | rfl | rfl | rfl | rfl
    · refine ⟨L, xs, rfl, ?_, by omega, fun k _ => rfl⟩
      unfold e_sz
      rw [if_pos rfl]
      show ((L : Int)).toNat = L
      omega
    · exact ⟨4, x_t 1, rfl, rfl, by decide, fun k _ => rfl⟩
    · exact ⟨4, x_t 2, rfl, rfl, by decide, fun k _ => rfl⟩
    · exact ⟨8, x_t 3, rfl, rfl, by decide, fun k _ => rfl⟩
    · exact ⟨8, x_t 4, rfl, rfl, by decide, fun k _ => rfl⟩
theorem x_mi : (a_miL.all fun q => Nat.ble 8 q.1 && q.2.all fun s => (List.range (s.2.1 + 1)).all fun k => decide (k < s.1) || (decide (s.2.2.1 ≤ x_i q.1 k) && decide (x_i q.1 k ≤ s.2.2.2))) = true := by decide +kernel
theorem x_aM {L : Nat} {xs : Nat → Int32} : a_M (x_M L xs) := by
  intro id k h5
  have h32 : -2147483648 ≤ x_M L xs id k ∧ x_M L xs id k ≤ 2147483647 := by
    unfold x_M
    by_cases c0 : id = 0
    · rw [if_pos c0]; exact e_rng _
    · rw [if_neg c0]
      rcases Nat.lt_or_ge id 5 with c1 | c1
      · rw [if_pos c1]; exact e_rng _
      · rw [if_neg (Nat.not_lt.mpr c1), if_neg h5]
        rcases Nat.lt_or_ge id 8 with c2 | c2
        · rw [if_pos c2]; decide
        · rw [if_neg (Nat.not_lt.mpr c2)]; exact x_i32 (by omega) k
  refine ⟨?_, ?_, fun s hs h1 h2 => ?_⟩
  · unfold a_lo; split <;> omega
  · unfold a_hi; split <;> omega
  · unfold a_mi at hs
    cases hq : q_find a_miL id with
    | none => rw [hq] at hs; cases hs
    | some l =>
      rw [hq] at hs
      have hm := List.all_eq_true.mp x_mi _ (q_find_mem hq)
      rw [Bool.and_eq_true] at hm
      have hs1 := List.all_eq_true.mp hm.2 s hs
      have hk := List.all_eq_true.mp hs1 k (List.mem_range.mpr (by omega))
      rw [x_M8 (Nat.le_of_ble_eq_true hm.1)]
      simp only [Bool.and_eq_true, Bool.or_eq_true, decide_eq_true_eq] at hk
      rcases hk with hk | hk
      · omega
      · exact hk
theorem x_J {L : Nat} {xs : Nat → Int32} : r_J (x_M L xs) := by
  have e1 : ∀ i, r_G (x_M L xs) i = 0 := fun i => (x_M8 (by decide)).trans (x_i0 (by decide) (by decide +kernel) _)
  have e7 : ∀ j, x_M L xs 197 j = 0 := fun j => (x_M8 (by decide)).trans (x_i0 (by decide) (by decide +kernel) _)
  have e9 : x_M L xs 192 9 = 0 := (x_M8 (by decide)).trans (by decide +kernel)
  have e20 : x_M L xs 192 20 = -1 := (x_M8 (by decide)).trans (by decide +kernel)
  refine ⟨x_aM, fun j hj => by rw [e7]; decide, ?_, fun h => absurd e9 h, e20⟩
  refine ⟨by rw [e1]; decide, by rw [e1]; decide, fun x x0 x1 => by rw [e1] at x1; omega, by rw [e1]; decide, by rw [e1]; decide, fun h _ _ => ?_, by rw [e1]; decide, by rw [e1]; decide⟩
  rw [e1, e1]
  decide
theorem x_rels : ((p_P.all fun q => decide (x_i q.1 q.2.1 = x_i 193 q.2.2) && decide (x_i (q.1 + 68) q.2.1 = x_i 194 q.2.2)) && decide (x_i 8 2 = x_i 192 9)) = true := by decide +kernel
theorem x_R {L : Nat} {xs : Nat → Int32} : p_R (x_M L xs) := by
  have h := x_rels
  rw [Bool.and_eq_true] at h
  obtain ⟨h1, h2⟩ := h
  have h3 : ∀ q ∈ p_P, x_i q.1 q.2.1 = x_i 193 q.2.2 ∧ x_i (q.1 + 68) q.2.1 = x_i 194 q.2.2 := fun q hq => by
    have := List.all_eq_true.mp h1 q hq
    simpa only [Bool.and_eq_true, decide_eq_true_eq] using this
  refine ⟨fun q hq => ?_, fun q hq => ?_, ?_⟩
  · have b := p_bd q hq
    rw [x_M8 (by omega), x_M8 (by decide)]
    exact (h3 q hq).1
  · rw [x_M8 (by omega), x_M8 (by decide)]
    exact (h3 q hq).2
  · rw [x_M8 (by decide), x_M8 (by decide)]
    exact of_decide_eq_true h2
theorem x_h0 : (x_i 10 0 = 0 ∧ x_i 78 0 = 0 ∧ x_i 165 0 = 0) ∧ ∀ d : Fin 8, x_i (146 + 2 * d.val) 0 = 0 ∧ x_i (146 + 2 * d.val) 1 = 0 := by decide +kernel
theorem x_HR {L : Nat} {xs : Nat → Int32} : h_R (x_M L xs) := by
  obtain ⟨⟨a1, a2, a3⟩, a4⟩ := x_h0
  have e1 : ∀ i, r_G (x_M L xs) i = 0 := fun i => (x_M8 (by decide)).trans (x_i0 (by decide) (by decide +kernel) _)
  have e2 : ∀ i, r_Gi (x_M L xs) i = 0 := fun i => (x_M8 (by decide)).trans (x_i0 (by decide) (by decide +kernel) _)
  refine ⟨x_R, ⟨?_, by rw [e1]; decide, fun q hq => ?_⟩, ⟨?_, by rw [e2]; decide, fun q hq => ?_⟩, fun d hd => Or.inl ⟨?_, ?_, ?_⟩, ?_⟩
  · rw [e1]
    exact (x_M8 (by decide)).trans a1
  · rw [e1] at hq
    omega
  · rw [e2]
    exact (x_M8 (by decide)).trans a2
  · rw [e2] at hq
    omega
  · exact (x_M8 (by decide)).trans (x_i0 (by decide) (by decide +kernel) _)
  · exact (x_M8 (by omega)).trans (a4 ⟨d, hd⟩).1
  · exact (x_M8 (by omega)).trans (a4 ⟨d, hd⟩).2
  · exact (x_M8 (by decide)).trans a3
theorem x_t1 : (x_t 1 0).toInt = 100 ∧ (x_t 1 1).toInt = 50 ∧ (x_t 1 2).toInt = 50 ∧ (x_t 1 3).toInt = 40 := by decide +kernel
theorem x_h1 : x_i 26 6 = 0 ∧ x_i 94 6 = 0 := by decide +kernel
theorem x_HQ {L : Nat} {xs : Nat → Int32} : h_Q (x_M L xs) := by
  have e1 : ∀ i, r_G (x_M L xs) i = 0 := fun i => (x_M8 (by decide)).trans (x_i0 (by decide) (by decide +kernel) _)
  have e2 : ∀ i, r_Gi (x_M L xs) i = 0 := fun i => (x_M8 (by decide)).trans (x_i0 (by decide) (by decide +kernel) _)
  have e3 : ∀ k, x_M L xs 1 k = (x_t 1 k).toInt := fun k => rfl
  obtain ⟨t0, t1, t2, t3⟩ := x_t1
  refine ⟨⟨(e3 0).trans t0, (e3 1).trans t1, (e3 2).trans t2, (e3 3).trans t3⟩, fun q hq => ?_, fun q hq => ?_, ⟨?_, fun h => absurd (e1 _) h, fun i _ => ?_⟩, ⟨?_, fun h => absurd (e2 _) h, fun i _ => ?_⟩⟩
  · rw [e1] at hq
    omega
  · rw [e2] at hq
    omega
  · rw [e1]
    exact (x_M8 (by decide)).trans x_h1.1
  · rw [e1]
    exact (x_M8 (by decide)).trans (x_i0 (by decide) (by decide +kernel) _)
  · rw [e2]
    exact (x_M8 (by decide)).trans x_h1.2
  · rw [e2]
    exact (x_M8 (by decide)).trans (x_i0 (by decide) (by decide +kernel) _)
theorem x_HRC {L : Nat} {xs : Nat → Int32} : h_RC (x_M L xs) := ⟨x_HR, x_HQ⟩
theorem x_hk : x_i 192 22 = 0 ∧ x_i 192 23 = -1 ∧ x_i 192 24 = -1 := by decide +kernel
theorem x_HZ {L : Nat} {xs : Nat → Int32} : h_Z (x_M L xs) := by
  have e1 : ∀ i, r_G (x_M L xs) i = 0 := fun i => (x_M8 (by decide)).trans (x_i0 (by decide) (by decide +kernel) _)
  have e2 : ∀ i, r_Gi (x_M L xs) i = 0 := fun i => (x_M8 (by decide)).trans (x_i0 (by decide) (by decide +kernel) _)
  refine ⟨fun q hq => ?_, fun q hq => ?_, ⟨(x_M8 (by decide)).trans x_hk.1, (x_M8 (by decide)).trans x_hk.2.1, (x_M8 (by decide)).trans x_hk.2.2⟩, (x_M8 (by decide)).trans (x_i0 (by decide) (by decide +kernel) _)⟩
  · rw [e1] at hq
    omega
  · rw [e2] at hq
    omega
theorem x_HRD {L : Nat} {xs : Nat → Int32} : h_RD (x_M L xs) := ⟨x_HRC, x_HZ⟩
/-- from the law's loop to its end -/
theorem x_fin {L : Nat} {xs : Nat → Int32} (hL : L ≤ 3072) : ∃ k w', m_run (x_ro L xs) k 60 274 23 (sl_val x_r0 x_L1) [] x_w3 = some (.inl (some (.inl 1)), w') ∧ mcx w' ≤ 601024 ∧ msl w' ≤ 7293034 := by
  obtain ⟨M', hE, h5, h6⟩ := l_loop (n := (L : Int)) ⟨by omega, by omega⟩ _ 0 0 0 0 (x_M L xs) x_J x_HRD rfl (Int.le_of_eq (rfl : (0 : Int) = x_M L xs 5 0)) (Nat.le_refl _) (by decide) (by omega)
  have m50 : x_M L xs 5 0 = 0 := rfl
  rw [m50] at h6
  have hq : e_lb 274 23 = some ([(0, 2), (1, 2), (2, 2), (3, 2), (4, 0)], e_t274_23) := rfl
  have hLr : e_lr (q_nl (e_vm 274)) [(0, 2), (1, 2), (2, 2), (3, 2), (4, 0)] [0, 8, 192, 213, 0, 0, 0, 0] (sl_val x_r0 x_L1) := by
    refine ⟨by decide +kernel, fun i t hi => ?_⟩
    have hm := q_find_mem hi
    simp only [List.mem_cons, Prod.mk.injEq, List.not_mem_nil, or_false] at hm
    rcases hm with ⟨rfl, rfl⟩ | ⟨rfl, rfl⟩ | ⟨rfl, rfl⟩ | ⟨rfl, rfl⟩ | ⟨rfl, rfl⟩
    · exact ⟨.inr (.inr (some 0)), rfl, Or.inr ⟨0, rfl, rfl⟩⟩
    · exact ⟨.inr (.inr (some 8)), rfl, Or.inr ⟨8, rfl, rfl⟩⟩
    · exact ⟨.inr (.inr (some 192)), rfl, Or.inr ⟨192, rfl, rfl⟩⟩
    · exact ⟨.inr (.inr (some 213)), rfl, Or.inr ⟨213, rfl, rfl⟩⟩
    · exact ⟨.inl 0, rfl, 0, rfl, rfl⟩
  obtain ⟨k, o, w', hk, hw, ho⟩ := e_V_ok (x_ro L xs) e_mok_all (fun v => (e_eok_all v).1) (fun v => (e_eok_all v).2) hE hq (d := 60) (by decide +kernel) hLr (x_wr (xs := xs) hL)
  have hrt : e_rt (e_vm 274) = some 3 := by decide +kernel
  have hth : e_thr 274 = false := by decide +kernel
  rw [hrt, hth] at ho
  have hvm : e_vm 274 = 274 := by decide +kernel
  rw [hvm] at hk
  obtain ⟨-, -, -, -, hcx, hsl, -⟩ := hw
  rcases ho with ⟨ov, rfl, v, rfl, hv⟩ | ⟨h, -⟩
  · obtain ⟨-, y, rfl, hy⟩ := hv
    have hy1 : y = 1 := Int32.toInt_inj.mp (by rw [hy]; rfl)
    subst hy1
    refine ⟨k, w', hk, ?_, ?_⟩
    · unfold e_C0 at hcx
      dsimp only at hcx h5 h6
      omega
    · unfold e_S0 at hsl
      dsimp only at hsl h5 h6
      omega
  · cases h
theorem x_go {L : Nat} {xs : Nat → Int32} (hL : L ≤ 3072) : ∃ k w', m_run (x_ro L xs) k 60 274 0 [(0, .inr (.inr (some 0)))] [] (8, 0, 0, fun _ => (0, 0), fun _ _ => .inl 0) = some (.inl (some (.inl 1)), w') ∧ mcx w' ≤ 601024 ∧ msl w' ≤ 7293034 := by
  obtain ⟨k, w', hk, h1, h2⟩ := x_fin (xs := xs) hL
  obtain ⟨k2, hk2⟩ := x_pre (ro := x_ro L xs) x_d0 trivial ⟨k, hk⟩
  exact ⟨k2, w', hk2, h1, h2⟩
