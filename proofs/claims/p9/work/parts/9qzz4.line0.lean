/-! where line 0 begins: kept by all that ask of the bench -/
theorem gz_pd : ∀ (P : List Nat) (as : List Int) (i k : Nat), (P.all fun t => !Nat.beq t 1) = true → i < P.length → (e_pd P as ++ List.replicate k 0).getD i 0 = as.getD i 0
  | [], _, _, _, _, h => absurd h (Nat.not_lt_zero _)
  | t :: P, [], i, k, _, _ => by
    show (([] : List Int) ++ List.replicate k 0).getD i 0 = ([] : List Int).getD i 0
    rw [List.nil_append, List.getD_eq_getElem?_getD, List.getD_eq_getElem?_getD, List.getElem?_replicate]
    split
    · rfl
    · rfl
  | t :: P, a :: as, i, k, hP, hi => by
    rw [List.all_cons, Bool.and_eq_true] at hP
    have h1 : ¬ t = 1 := fun e => by
      have := hP.1
      rw [e] at this
      cases this
    have e : e_pd (t :: P) (a :: as) = a :: e_pd P as := by
      show (if t = 1 then a :: 0 :: e_pd P as else a :: e_pd P as) = _
      rw [if_neg h1]
    rw [e]
    match i, hi with
    | 0, _ => rfl
    | i + 1, hi => exact gz_pd P as i k hP.2 (by simp at hi; omega)
theorem gz_R4 {u : Nat} (h : gz_R u ≠ 99) : u = 147 ∨ u = 270 ∨ u = 74 ∨ u = 75 := by
  unfold gz_R at h
  split at h
  · rename_i c; exact Or.inl (Nat.eq_of_beq_eq_true c)
  · split at h
    · rename_i c; exact Or.inr (Or.inl (Nat.eq_of_beq_eq_true c))
    · split at h
      · rename_i c; exact Or.inr (Or.inr (Or.inl (Nat.eq_of_beq_eq_true c)))
      · split at h
        · rename_i c; exact Or.inr (Or.inr (Or.inr (Nat.eq_of_beq_eq_true c)))
        · exact absurd rfl h
theorem gz_170 {a : Int} (h : e_isO 0 a) : a = 170 := by
  have h2 : ∀ i : Fin 214, (e_sh i.val).1 = 0 → i.val = 170 ∨ i.val < 8 := by decide +kernel
  obtain ⟨h8, hN, hs⟩ := h
  have hN : a.toNat < 214 := hN
  have := h2 ⟨a.toNat, hN⟩ hs
  have : a.toNat = 170 ∨ a.toNat < 8 := this
  omega
theorem gz_rc4 {as : List Int} (h : e_rok 4 as = true) : as.getD 0 0 = 170 := by
  unfold e_rok at h
  rw [show q_rc (e_vm 4) = some 0 from by decide +kernel] at h
  exact gz_170 (of_decide_eq_true h)
theorem gz_rc1 {as : List Int} (h : e_rok 1 as = true) : as.getD 0 0 = 170 := by
  unfold e_rok at h
  rw [show q_rc (e_vm 1) = some 0 from by decide +kernel] at h
  exact gz_170 (of_decide_eq_true h)
theorem gz_Lp {u : Nat} {as : List Int} (h : gz_R u = 99 ∨ gz_q (as.getD (gz_R u) 0)) (hr : e_rok u as = true) : gz_L u (e_pad u as) := by
  refine ⟨?_, fun e => ?_⟩
  · rcases h with h | h
    · exact Or.inl h
    · by_cases c : gz_R u = 99
      · exact Or.inl c
      · have e : (e_pad u as).getD (gz_R u) 0 = as.getD (gz_R u) 0 := by
          rcases gz_R4 c with rfl | rfl | rfl | rfl <;> exact gz_pd _ _ _ _ (by decide +kernel) (by decide +kernel)
        exact Or.inr (by rw [e]; exact h)
  · subst e
    have e : (e_pad 4 as).getD 0 0 = as.getD 0 0 := gz_pd _ _ _ _ (by decide +kernel) (by decide +kernel)
    rw [e]
    exact gz_rc4 hr
section GZR
variable {S B : List Nat}
def gz_ok (S B : List Nat) : Bool := S.all (fun v => ((e_prog.getD (v / 16) []).getD (v % 16) []).all (fun x => gz_t S B true v x.2.2))
theorem gz_tree (h : gz_ok S B = true) {v : Nat} (hv : fz_S S v = true) (pc : Nat) : gz_t S B true v (e_tr v pc) = true := by
  obtain ⟨w, hw, hb⟩ := List.any_eq_true.mp hv
  have e := Nat.eq_of_beq_eq_true hb
  subst e
  have h1 := List.all_eq_true.mp h w hw
  unfold e_tr
  cases hl : e_lb w pc with
  | none => rfl
  | some q => exact List.all_eq_true.mp h1 _ (q_find_mem hl)
theorem gz_run (h : gz_ok S B = true) (H1 : fz_S S 1000 = true → ∀ as M r, E_C 1 as M = some r → gz_P B M r.2) : ∀ (n v pc : Nat) (L : List Int) (M : EM) (r : Int × EM), fz_S S v = true → gz_L v L → e_run n v pc L M = some r → gz_P B M r.2 := by
  intro n
  induction n with
  | zero => intro v pc L M r _ _ e; cases e
  | succ n ih =>
    intro v pc L M r hv hL e
    rw [e_run] at e
    refine gz_tv (S := S) (lf := true) (Q := gz_P B) (fun _ _ _ h => h) (fun _ _ _ a b => gz_tr a b) (fun u as M' r' hu hR h' => ?_) (fun pc' L' M' r' hL' h' => ih _ _ _ _ _ hv hL' h') _ _ (Nat.le_refl _) L M r hL (gz_tree h hv pc) e
    split at h'
    · rename_i hr
      rcases hu with hu | ⟨hu, h1000⟩
      · exact ih _ _ _ _ _ hu (gz_Lp hR hr) h'
      · subst hu
        exact H1 h1000 as M' r' ((if_pos hr).trans (E_V_of h'))
    · cases h'
theorem gz_call (h : gz_ok S B = true) (H1 : fz_S S 1000 = true → ∀ as M r, E_C 1 as M = some r → gz_P B M r.2) {u : Nat} {as : List Int} {M M' : EM} {r : Int} (hu : fz_S S u = true) (hR : gz_R u = 99 ∨ gz_q (as.getD (gz_R u) 0)) (e : E_C u as M = some (r, M')) : gz_P B M M' := by
  unfold E_C at e
  split at e
  · rename_i hr
    obtain ⟨n, hn⟩ := E_V_ex e
    exact gz_run h H1 n u 0 _ M _ hu (gz_Lp hR hr) (hn n (Nat.le_refl _))
  · cases e
end GZR
/-- one line more -/
def gz_Q (M M' : EM) : Prop := (∀ j, M 14 j ≤ 2147483647) → (∀ j, M' 14 j = M 14 j) ∧ M' 170 5 = e_w (M 170 5 + 1) ∧ (e_w (M 170 5 + 1) ≠ 0 → M' 171 0 = M 171 0)
def gz_S5 : List Nat := [5, 146, 147]
theorem gz_S5_ok : gz_ok gz_S5 [5] = true := by decide +kernel
theorem gz_140 {T : List Int} {M : EM} {r : Int × EM} (h : E_V 4 140 (170 :: T) M = some r) : gz_Q M r.2 := by
  obtain ⟨i, hi⟩ : ∃ i, e_w (M 170 5 + 1) = i := ⟨_, rfl⟩
  obtain ⟨N, hN⟩ : ∃ N, e_up M 170 5 i = N := ⟨_, rfl⟩
  have n5 : N 170 5 = i := by rw [← hN, c_up_s]
  have l := p_lay (a := 171) (i := i) (v := N 170 0) (M := N) (by decide +kernel)
  have e : E_V 4 140 (170 :: T) M = some (0, if 0 ≤ i ∧ i < ((e_sh (171 : Int).toNat).2 : Int) then e_up N (171 : Int).toNat i.toNat (N 170 0) else N) := by
    rw [E_V_eq]
    show e_tv E_C (E_V 4) e_t4_140 (170 :: T) M = _
    unfold e_t4_140
    simp [e_tv, e_ev, e_sv, e_b1, e_b2, x_o1, x_o2, bx_F5, bx_F0, bx_P5, bx_G8, hi, hN, n5, l]
  rw [e] at h
  cases h
  intro _
  rw [hi]
  have f : ∀ id k, id ≠ 170 → N id k = M id k := fun id k h => by rw [← hN, c_up_n (by omega)]
  show (∀ j, (if 0 ≤ i ∧ i < ((e_sh (171 : Int).toNat).2 : Int) then e_up N (171 : Int).toNat i.toNat (N 170 0) else N) 14 j = M 14 j) ∧ (if 0 ≤ i ∧ i < ((e_sh (171 : Int).toNat).2 : Int) then e_up N (171 : Int).toNat i.toNat (N 170 0) else N) 170 5 = i ∧ (i ≠ 0 → (if 0 ≤ i ∧ i < ((e_sh (171 : Int).toNat).2 : Int) then e_up N (171 : Int).toNat i.toNat (N 170 0) else N) 171 0 = M 171 0)
  by_cases c : 0 ≤ i ∧ i < ((e_sh (171 : Int).toNat).2 : Int)
  · rw [if_pos c]
    exact ⟨fun j => (c_up_n (by omega)).trans (f _ _ (by decide)), (c_up_n (by omega)).trans n5, fun h0 => (c_up_n (by omega)).trans (f _ _ (by decide))⟩
  · rw [if_neg c]
    exact ⟨fun j => f _ _ (by decide), n5, fun _ => f _ _ (by decide)⟩
theorem gz_t4 : ((e_prog.getD 0 []).getD 4 []).all (fun x => Nat.beq x.1 140 || gz_t gz_S5 [5] false 4 x.2.2) = true := by decide +kernel
theorem gz_tree4 {pc : Nat} (h : pc ≠ 140) : gz_t gz_S5 [5] false 4 (e_tr 4 pc) = true := by
  unfold e_tr
  cases hl : e_lb 4 pc with
  | none => rfl
  | some q =>
    have h1 := List.all_eq_true.mp gz_t4 _ (q_find_mem hl)
    rw [Bool.or_eq_true] at h1
    rcases h1 with c | c
    · exact absurd (Nat.eq_of_beq_eq_true c) h
    · exact c
theorem gz_run4 : ∀ (n pc : Nat) (L : List Int) (M : EM) (r : Int × EM), gz_L 4 L → e_run n 4 pc L M = some r → gz_Q M r.2 := by
  intro n
  induction n with
  | zero => intro pc L M r _ e; cases e
  | succ n ih =>
    intro pc L M r hL e
    by_cases c : pc = 140
    · subst c
      have e' := E_V_of e
      have h0 := hL.2 rfl
      match L, h0 with
      | [], h0 => cases h0
      | a :: T, h0 =>
        have h0 : a = 170 := h0
        subst h0
        exact gz_140 e'
    · rw [e_run] at e
      refine gz_tv (v := 4) (S := gz_S5) (B := [5]) (lf := false) (Q := gz_Q) (fun h => by cases h) (fun M M1 M2 a b => ?_) (fun u as M' r' hu hR h' => ?_) (fun pc' L' M' r' hL' h' => ih _ _ _ _ hL' h') _ _ (Nat.le_refl _) L M r hL (gz_tree4 c) e
      · intro p
        obtain ⟨a1, a2, a3⟩ := a p
        obtain ⟨b1, b2, b3⟩ := b (fun j => by rw [a2 j]; exact p j)
        have a5 := a3 5 (by decide)
        rw [a5] at b2 b3
        exact ⟨fun j => (b1 j).trans (a2 j), b2, fun h => (b3 h).trans a1⟩
      · split at h'
        · rename_i hr
          rcases hu with hu | ⟨hu, h1000⟩
          · exact gz_run gz_S5_ok (fun h => absurd h (by decide)) n u 0 _ M' r' hu (gz_Lp hR hr) h'
          · exact absurd h1000 (by decide)
        · cases h'
theorem gz_4 {as : List Int} {M : EM} {r : Int × EM} (e : E_C 4 as M = some r) : gz_Q M r.2 := by
  unfold E_C at e
  split at e
  · rename_i hr
    obtain ⟨n, hn⟩ := E_V_ex e
    exact gz_run4 n 0 _ M _ (gz_Lp (Or.inl (by decide)) hr) (hn n (Nat.le_refl _))
  · cases e
