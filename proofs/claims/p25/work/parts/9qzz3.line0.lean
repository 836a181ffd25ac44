section
/-! what no method of the bench's users writes: where line 0 begins, and how many members a PART has: a check of trees -/
def gz_q (a : Int) : Prop := a ≠ 171 ∧ a ≠ 14
/-- the argument that is a row to be written -/
def gz_R (v : Nat) : Nat := if Nat.beq v 147 then 0 else if Nat.beq v 270 then 0 else if Nat.beq v 74 then 2 else if Nat.beq v 75 then 3 else 99
/-- fields of this kind never are those rows -/
def gz_key (key : Nat) : Bool := Nat.beq (e_fty key) 2 && (List.range 214).all fun a => !Nat.beq (e_sh a).1 (key / 64) || (decide (e_gr a (key % 64) ≠ 171) && decide (e_gr a (key % 64) ≠ 14))
def gz_safe (v : Nat) : e_X → Bool
  | .mulR _ key => gz_key key.toNat
  | .var i => Nat.beq i (gz_R v) && !Nat.beq i 99
  | _ => false
def gz_one : e_X → Bool
  | .num _ => true
  | .var _ => true
  | .mulR _ _ => true
  | .mulL k _ => decide (0 ≤ k)
  | _ => false
def gz_at (v : Nat) : Nat → e_X → Bool
  | 0, .add a _ => gz_safe v a
  | 0, x => gz_safe v x
  | n + 1, .add a b => gz_one a && gz_at v n b
  | _, _ => false
def gz_cl (S : List Nat) (v u : Nat) (x : e_X) : Bool := (fz_S S u || (Nat.beq u 1 && fz_S S 1000)) && (Nat.beq (gz_R u) 99 || gz_at v (gz_R u) x)
def gz_e (S : List Nat) (v : Nat) : e_X → Bool
  | .add a b => gz_e S v a && gz_e S v b
  | .mulL k a => gz_e S v a && (if 5000 ≤ k then gz_cl S v (k.toNat - 5000) a else true)
  | .mulR a _ => gz_e S v a
  | .sub c (.add a b) => gz_e S v c && gz_e S v a && gz_e S v b
  | _ => true
def gz_b (B : List Nat) (key : Nat) : Bool := Nat.ble 6400 key || B.any (fun k => Nat.beq k key)
def gz_s (S B : List Nat) (v : Nat) (s : e_X) : Bool := match s with
  | .mulL k e => gz_e S v (.mulL k e) && (if k = 64 then gz_at v 0 e else if k = 65 ∨ k = 66 ∨ k = 68 then false else if k = 67 then (match e with
    | .mulR (.add o x) key => gz_e S v o && gz_e S v x && !gz_b B key.toNat
    | _ => true) else if k < 300 then (!Nat.beq v 4 || (!Nat.beq k.toNat 100 && !Nat.beq k.toNat 200)) && (!Nat.beq k.toNat (100 + gz_R v) && !Nat.beq k.toNat (200 + gz_R v)) else true)
  | .mulR e key => gz_e S v e && !gz_b B key.toNat
  | _ => true
def gz_t (S B : List Nat) (lf : Bool) (v : Nat) : e_X → Bool
  | .mulL k e => if k < 0 then gz_t S B lf v e else if k = 4 then gz_e S v e else lf && gz_e S v e
  | .sub c (.add a b) => gz_e S v c && gz_t S B lf v a && gz_t S B lf v b
  | .add s t => gz_s S B v s && gz_t S B lf v t
  | .mulR (.add x (.add (.num _) _)) _ => gz_e S v x
  | .neg (.add (.mulR (.add ai as) w) (.add t (.add h0 h1))) => gz_e S v ai && gz_e S v as && gz_cl S v w.toNat as && gz_t S B lf v t && gz_t S B lf v h0 && gz_t S B lf v h1
  | _ => true
def gz_P (B : List Nat) (M M' : EM) : Prop := (∀ j, M 14 j ≤ 2147483647) → M' 171 0 = M 171 0 ∧ (∀ j, M' 14 j = M 14 j) ∧ ∀ k ∈ B, M' 170 k = M 170 k
/-- locals: the row, and the bench -/
def gz_L (v : Nat) (L : List Int) : Prop := (gz_R v = 99 ∨ gz_q (L.getD (gz_R v) 0)) ∧ (v = 4 → L.getD 0 0 = 170)
section GZ
variable {S B : List Nat} {v : Nat}
theorem gz_rf {M : EM} : gz_P B M M := fun _ => ⟨rfl, fun _ => rfl, fun _ _ => rfl⟩
theorem gz_tr {M M1 M2 : EM} (h : gz_P B M M1) (k : gz_P B M1 M2) : gz_P B M M2 := fun p => by
  obtain ⟨a1, a2, a3⟩ := h p
  obtain ⟨b1, b2, b3⟩ := k (fun j => by rw [a2 j]; exact p j)
  exact ⟨b1.trans a1, fun j => (b2 j).trans (a2 j), fun k hk => (b3 k hk).trans (a3 k hk)⟩
theorem gz_up {M : EM} {a : Int} {i : Nat} {x : Int} (h : gz_q a) (h8 : 8 ≤ a) (h170 : a ≠ 170) : gz_P B M (e_up M a.toNat i x) := fun _ => by
  obtain ⟨h1, h2⟩ := h
  exact ⟨c_up_n (by omega), fun j => c_up_n (by omega), fun k _ => c_up_n (by omega)⟩
theorem gz_st {x : List Int} {M M' : EM} (hq : gz_q (x.getD 0 0)) (h : e_st 100 x M = some M') : gz_P B M M' := by
  unfold e_st at h
  split at h
  · rename_i a i v
    split at h
    · rename_i hc
      cases h
      have hsh := hc.2.2.2.1
      refine gz_up hq hc.1 (fun e => ?_)
      subst e
      exact absurd hsh (by decide +kernel)
    · cases h
  · cases h
theorem gz_st1 {x : List Int} {M M' : EM} (h : e_st 101 x M = some M') : gz_P B M M' := by
  unfold e_st at h
  split at h
  · rename_i a i v
    split at h
    · rename_i hc
      cases h
      have hsh := hc.2.2.2.1
      have h1 : a ≠ 171 := fun e => by subst e; exact absurd hsh (by decide +kernel)
      have h2 : a ≠ 14 := fun e => by subst e; exact absurd hsh (by decide +kernel)
      have h3 : a ≠ 170 := fun e => by subst e; exact absurd hsh (by decide +kernel)
      exact gz_up ⟨h1, h2⟩ hc.1 h3
    · cases h
  · cases h
theorem gz_pf {key : Nat} {x : List Int} {M M' : EM} (hb : gz_b B key = false) (h : e_pf key x M = some M') : gz_P B M M' := by
  unfold gz_b at hb
  simp only [Bool.or_eq_false_iff] at hb
  have h64 : key < 6400 := by
    rcases Nat.lt_or_ge key 6400 with c | c
    · exact c
    · have := hb.1
      rw [Nat.ble_eq_true_of_le c] at this
      cases this
  unfold e_pf at h
  split at h
  · rename_i a v
    split at h
    · rename_i hc
      cases h
      obtain ⟨⟨h8, hN, hsh⟩, -⟩ := hc
      refine fun _ => ⟨c_up_n (fun e => ?_), fun j => c_up_n (fun e => ?_), fun k hk => c_up_n (fun e => ?_)⟩
      · rw [← e.1, show (e_sh 171).1 = 100 from by decide +kernel] at hsh
        omega
      · rw [← e.1, show (e_sh 14).1 = 100 from by decide +kernel] at hsh
        omega
      · rw [← e.1, show (e_sh 170).1 = 0 from by decide +kernel] at hsh
        have hkey : k = key := by omega
        have : B.any (fun k => Nat.beq k key) = true := List.any_eq_true.mpr ⟨k, hk, by rw [hkey]; exact Nat.beq_refl key⟩
        rw [hb.2] at this
        cases this
    · cases h
  · cases h
variable {K J : Nat → List Int → EM → EO}
theorem gz_one_ok {L : List Int} {x : e_X} {M : EM} {r : List Int × EM} (h : gz_one x = true) (e : e_ev K L x M = some r) : ∃ a, r.1 = [a] := by
  cases x with
  | num v =>
    simp only [e_ev, Option.some.injEq] at e
    subst e
    exact ⟨_, rfl⟩
  | var i =>
    simp only [e_ev, Option.some.injEq] at e
    subst e
    exact ⟨_, rfl⟩
  | mulR a k =>
    simp only [e_ev, Option.bind_eq_some_iff] at e
    obtain ⟨x, hx, y, hy, e⟩ := e
    cases e
    exact ⟨_, rfl⟩
  | mulL k a =>
    have h0 : 0 ≤ k := of_decide_eq_true h
    unfold e_ev at e
    rw [if_neg (by omega)] at e
    simp only [Option.bind_eq_some_iff] at e
    obtain ⟨x, hx, e⟩ := e
    split at e
    · simp only [Option.bind_eq_some_iff] at e
      obtain ⟨y, hy, e⟩ := e
      cases e
      exact ⟨_, rfl⟩
    · simp only [Option.bind_eq_some_iff] at e
      obtain ⟨y, hy, e⟩ := e
      cases e
      exact ⟨_, rfl⟩
  | add a b => cases h
  | sub a b => cases h
  | neg a => cases h
theorem gz_key_ok {key : Nat} {x : List Int} {M : EM} {y : Int} (h : gz_key key = true) (e : e_gf key x M = some y) : gz_q y := by
  unfold gz_key at h
  rw [Bool.and_eq_true] at h
  obtain ⟨h1, h2⟩ := h
  have h1 := Nat.eq_of_beq_eq_true h1
  unfold e_gf at e
  split at e
  · rename_i a
    split at e
    · rename_i hc
      cases e
      have h3 := List.all_eq_true.mp h2 a.toNat (List.mem_range.mpr hc.2.1)
      rw [hc.2.2, Nat.beq_refl] at h3
      simp only [Bool.not_true, Bool.false_or, Bool.and_eq_true, decide_eq_true_eq] at h3
      exact h3
    · cases e
  · cases e
theorem gz_safe_ok {L : List Int} {x : e_X} {M : EM} {r : List Int × EM} (hL : gz_L v L) (h : gz_safe v x = true) (e : e_ev K L x M = some r) : ∃ a, r.1 = [a] ∧ gz_q a := by
  cases x with
  | mulR o key =>
    simp only [e_ev, Option.bind_eq_some_iff] at e
    obtain ⟨x, hx, y, hy, e⟩ := e
    cases e
    exact ⟨_, rfl, gz_key_ok h hy⟩
  | var i =>
    simp only [gz_safe, Bool.and_eq_true, Bool.not_eq_true'] at h
    have h1 := Nat.eq_of_beq_eq_true h.1
    simp only [e_ev, Option.some.injEq] at e
    subst e
    refine ⟨_, rfl, ?_⟩
    rcases hL.1 with c | c
    · have h2 := h.2
      rw [h1, c] at h2
      cases h2
    · rw [h1]; exact c
  | num _ => cases h
  | mulL _ _ => cases h
  | add _ _ => cases h
  | sub _ _ => cases h
  | neg _ => cases h
theorem gz_at_ok {L : List Int} (hL : gz_L v L) : ∀ (n : Nat) (x : e_X) (M : EM) (r : List Int × EM), gz_at v n x = true → e_ev K L x M = some r → gz_q (r.1.getD n 0) := by
  intro n
  induction n with
  | zero =>
    intro x M r h e
    have base : ∀ x M r, gz_safe v x = true → e_ev K L x M = some r → gz_q (r.1.getD 0 0) := fun x M r h e => by
      obtain ⟨a, h1, h2⟩ := gz_safe_ok hL h e
      rw [h1]
      exact h2
    cases x with
    | add a b =>
      simp only [gz_at] at h
      simp only [e_ev, Option.bind_eq_some_iff] at e
      obtain ⟨x, hx, y, hy, e⟩ := e
      cases e
      obtain ⟨z, h1, h2⟩ := gz_safe_ok hL h hx
      show gz_q ((x.1 ++ y.1).getD 0 0)
      rw [h1]
      exact h2
    | num _ => exact base _ _ _ h e
    | var _ => exact base _ _ _ h e
    | mulR _ _ => exact base _ _ _ h e
    | mulL _ _ => exact base _ _ _ h e
    | sub _ _ => exact base _ _ _ h e
    | neg _ => exact base _ _ _ h e
  | succ n ih =>
    intro x M r h e
    cases x with
    | add a b =>
      simp only [gz_at, Bool.and_eq_true] at h
      simp only [e_ev, Option.bind_eq_some_iff] at e
      obtain ⟨x, hx, y, hy, e⟩ := e
      cases e
      obtain ⟨z, h1⟩ := gz_one_ok h.1 hx
      have h2 := ih b _ y h.2 hy
      show gz_q ((x.1 ++ y.1).getD (n + 1) 0)
      rw [h1]
      exact h2
    | num _ => cases h
    | var _ => cases h
    | mulR _ _ => cases h
    | mulL _ _ => cases h
    | sub _ _ => cases h
    | neg _ => cases h
def gz_H (S B : List Nat) (K : Nat → List Int → EM → EO) : Prop := ∀ u as M r, fz_S S u = true ∨ (u = 1 ∧ fz_S S 1000 = true) → gz_R u = 99 ∨ gz_q (as.getD (gz_R u) 0) → K u as M = some r → gz_P B M r.2
theorem gz_cl_ok {L : List Int} (hK : gz_H S B K) (hL : gz_L v L) {u : Nat} {x : e_X} {M : EM} {r : List Int × EM} {r' : Int × EM} (h : gz_cl S v u x = true) (e : e_ev K L x M = some r) (k : K u r.1 r.2 = some r') : gz_P B r.2 r'.2 := by
  simp only [gz_cl, Bool.and_eq_true, Bool.or_eq_true] at h
  refine hK u r.1 r.2 r' ?_ ?_ k
  · rcases h.1 with c | c
    · exact Or.inl c
    · exact Or.inr ⟨Nat.eq_of_beq_eq_true c.1, c.2⟩
  · rcases h.2 with c | c
    · exact Or.inl (Nat.eq_of_beq_eq_true c)
    · exact Or.inr (gz_at_ok hL _ x M r c e)
theorem gz_ev {L : List Int} (hK : gz_H S B K) (hL : gz_L v L) : ∀ (x : e_X) (M : EM) (r : List Int × EM), gz_e S v x = true → e_ev K L x M = some r → gz_P B M r.2
  | .num v, M, r, _, e => by
    simp only [e_ev, Option.some.injEq] at e
    subst e
    exact gz_rf
  | .var i, M, r, _, e => by
    simp only [e_ev, Option.some.injEq] at e
    subst e
    exact gz_rf
  | .add a b, M, r, h, e => by
    simp only [gz_e, Bool.and_eq_true] at h
    simp only [e_ev, Option.bind_eq_some_iff] at e
    obtain ⟨x, hx, y, hy, e⟩ := e
    cases e
    exact gz_tr (gz_ev hK hL a M x h.1 hx) (gz_ev hK hL b _ y h.2 hy)
  | .mulL k a, M, r, h, e => by
    simp only [gz_e, Bool.and_eq_true] at h
    unfold e_ev at e
    split at e
    · exact gz_ev hK hL a M r h.1 e
    · simp only [Option.bind_eq_some_iff] at e
      obtain ⟨x, hx, e⟩ := e
      have p := gz_ev hK hL a M x h.1 hx
      split at e
      · rename_i h5
        have h2 := h.2
        rw [if_pos h5] at h2
        simp only [Option.bind_eq_some_iff] at e
        obtain ⟨y, hy, e⟩ := e
        cases e
        exact gz_tr p (gz_cl_ok hK hL h2 hx hy)
      · simp only [Option.bind_eq_some_iff] at e
        obtain ⟨y, hy, e⟩ := e
        cases e
        exact p
  | .mulR a k, M, r, h, e => by
    simp only [gz_e] at h
    simp only [e_ev, Option.bind_eq_some_iff] at e
    obtain ⟨x, hx, y, hy, e⟩ := e
    cases e
    exact gz_ev hK hL a M x h hx
  | .sub c (.add a b), M, r, h, e => by
    simp only [gz_e, Bool.and_eq_true] at h
    simp only [e_ev, Option.bind_eq_some_iff] at e
    obtain ⟨x, hx, e⟩ := e
    have p := gz_ev hK hL c M x h.1.1 hx
    split at e
    · exact gz_tr p (gz_ev hK hL b _ r h.2 e)
    · exact gz_tr p (gz_ev hK hL a _ r h.1.2 e)
  | .sub c (.num _), M, r, _, e => by simp [e_ev] at e
  | .sub c (.var _), M, r, _, e => by simp [e_ev] at e
  | .sub c (.sub _ _), M, r, _, e => by simp [e_ev] at e
  | .sub c (.neg _), M, r, _, e => by simp [e_ev] at e
  | .sub c (.mulL _ _), M, r, _, e => by simp [e_ev] at e
  | .sub c (.mulR _ _), M, r, _, e => by simp [e_ev] at e
  | .neg _, M, r, _, e => by simp [e_ev] at e
theorem gz_set {L : List Int} {i : Nat} {x : Int} (hL : gz_L v L) (h0 : v = 4 → i ≠ 0) (hR : i ≠ gz_R v) : gz_L v (L.set i x) := by
  have g : ∀ j, i ≠ j → (L.set i x).getD j 0 = L.getD j 0 := fun j hj => by
    rw [List.getD_eq_getElem?_getD, List.getD_eq_getElem?_getD, List.getElem?_set_ne hj]
  refine ⟨?_, fun h => (g 0 (h0 h)).trans (hL.2 h)⟩
  rcases hL.1 with c | c
  · exact Or.inl c
  · exact Or.inr (by rw [g _ hR]; exact c)
theorem gz_sv (hK : gz_H S B K) {s : e_X} {L : List Int} {M : EM} {r : List Int × EM} (hL : gz_L v L) (h : gz_s S B v s = true) (e : e_sv K s L M = some r) : gz_P B M r.2 ∧ gz_L v r.1 := by
  unfold e_sv at e
  split at e
  · rename_i k x
    unfold gz_s at h
    simp only [Bool.and_eq_true] at h
    obtain ⟨h1, h2⟩ := h
    have h0 : gz_e S v x = true := by
      unfold gz_e at h1
      exact (Bool.and_eq_true _ _ ▸ h1).1
    try dsimp only at e
    split at e
    · rename_i k64
      rw [if_pos k64] at h2
      obtain ⟨y, hy, e⟩ := Option.bind_eq_some_iff.mp e
      obtain ⟨z, hz, e⟩ := Option.bind_eq_some_iff.mp e
      cases e
      exact ⟨gz_tr (gz_ev hK hL _ _ _ h0 hy) (gz_st (gz_at_ok hL 0 x _ _ h2 hy) hz), hL⟩
    rename_i k64
    rw [if_neg k64] at h2
    split at e
    · rename_i c
      rw [if_pos (Or.inl c)] at h2
      cases h2
    rename_i k65
    split at e
    · rename_i c
      rw [if_pos (Or.inr (Or.inl c))] at h2
      cases h2
    rename_i k66
    split at e
    · rename_i k67
      rw [if_neg (by omega), if_pos k67] at h2
      split at e
      · rename_i o y key
        try dsimp only at h2
        simp only [Bool.and_eq_true, Bool.not_eq_true'] at h2
        try dsimp only at e
        simp only [Option.bind_eq_some_iff] at e
        obtain ⟨y1, hy, u, hu, q, hq, z, hz, w, hw, e⟩ := e
        cases e
        exact ⟨gz_tr (gz_ev hK hL _ _ _ h2.1.1 hy) (gz_tr (gz_ev hK hL _ _ _ h2.1.2 hq) (gz_pf h2.2 hw)), hL⟩
      · cases e
    rename_i k67
    split at e
    · rename_i c
      rw [if_pos (Or.inr (Or.inr c))] at h2
      cases h2
    rename_i k68
    rw [if_neg (by omega), if_neg k67] at h2
    split at e
    · rename_i c
      rw [if_pos (by omega)] at h2
      simp only [Bool.and_eq_true, Bool.not_eq_true', Bool.or_eq_true] at h2
      obtain ⟨y, hy, e⟩ := Option.bind_eq_some_iff.mp e
      cases e
      exact ⟨(gz_ev hK hL _ _ _ h0 hy : gz_P B M y.2), gz_set hL (fun hv e => by
        rcases h2.1 with c4 | c4
        · rw [hv] at c4; cases c4
        · have h3 := c4.1
          rw [show k.toNat = 100 by omega] at h3
          cases h3) (fun e => by
        have h3 := h2.2.1
        rw [show k.toNat = 100 + gz_R v by omega, Nat.beq_refl] at h3
        cases h3)⟩
    split at e
    · rename_i c1 c
      rw [if_pos (by omega)] at h2
      simp only [Bool.and_eq_true, Bool.not_eq_true', Bool.or_eq_true] at h2
      split at e
      · cases e
        exact ⟨gz_rf, gz_set hL (fun hv e => by
          rcases h2.1 with c4 | c4
          · rw [hv] at c4; cases c4
          · have h3 := c4.2
            rw [show k.toNat = 200 by omega] at h3
            cases h3) (fun e => by
          have h3 := h2.2.2
          rw [show k.toNat = 200 + gz_R v by omega, Nat.beq_refl] at h3
          cases h3)⟩
      · cases e
    split at e
    · obtain ⟨y, hy, e⟩ := Option.bind_eq_some_iff.mp e
      cases e
      exact ⟨(gz_ev hK hL _ _ _ h1 hy : gz_P B M y.2), hL⟩
    · cases e
  · rename_i x key
    unfold gz_s at h
    simp only [Bool.and_eq_true, Bool.not_eq_true'] at h
    try dsimp only at e
    obtain ⟨y, hy, e⟩ := Option.bind_eq_some_iff.mp e
    obtain ⟨z, hz, e⟩ := Option.bind_eq_some_iff.mp e
    cases e
    exact ⟨gz_tr (gz_ev hK hL _ _ _ h.1 hy) (gz_pf h.2 hz), hL⟩
  · cases e
variable {Q : EM → EM → Prop} {lf : Bool}
theorem gz_tv (hq0 : lf = true → ∀ M M', gz_P B M M' → Q M M') (hq1 : ∀ M M1 M2, gz_P B M M1 → Q M1 M2 → Q M M2) (hK : gz_H S B K) (hJ : ∀ pc L M r, gz_L v L → J pc L M = some r → Q M r.2) : ∀ (k : Nat) (t : e_X), SizeOf.sizeOf t ≤ k → ∀ (L : List Int) (M : EM) (r : Int × EM), gz_L v L → gz_t S B lf v t = true → e_tv K J t L M = some r → Q M r.2 := by
  intro k
  induction k with
  | zero => intro t ht; cases t <;> simp at ht
  | succ k ih =>
    intro t ht L M r hL h e
    unfold e_tv at e
    split at e
    · rename_i k1 x
      simp at ht
      unfold gz_t at h
      try dsimp only at e
      split at e
      · rename_i h0
        rw [if_pos h0] at h
        exact ih x (by omega) L M r hL h e
      rename_i h0
      rw [if_neg h0] at h
      split at e
      · rename_i h1
        rw [if_neg (by omega), Bool.and_eq_true] at h
        obtain ⟨y, hy, e⟩ := Option.bind_eq_some_iff.mp e
        cases e
        exact hq0 h.1 _ _ (gz_ev hK hL _ _ _ h.2 hy)
      split at e
      · rename_i h1 h2
        rw [if_neg (by omega), Bool.and_eq_true] at h
        cases e
        exact hq0 h.1 _ _ gz_rf
      split at e
      · rename_i h1 h2 h3
        rw [if_neg (by omega), Bool.and_eq_true] at h
        obtain ⟨y, hy, e⟩ := Option.bind_eq_some_iff.mp e
        cases e
        have g5 : ∀ x, gz_P B M (e_up M 5 0 x) := fun x _ => ⟨c_up_n (by omega), fun j => c_up_n (by omega), fun k _ => c_up_n (by omega)⟩
        exact hq0 h.1 _ _ (g5 _)
      split at e
      · rename_i h1 h2 h3 h4
        rw [if_pos h4] at h
        obtain ⟨y, hy, e⟩ := Option.bind_eq_some_iff.mp e
        exact hJ _ _ _ _ hL e
      · cases e
    · rename_i c a b
      simp at ht
      simp only [gz_t, Bool.and_eq_true] at h
      try dsimp only at e
      obtain ⟨y, hy, e⟩ := Option.bind_eq_some_iff.mp e
      have p := gz_ev hK hL _ _ _ h.1.1 hy
      split at e
      · exact hq1 _ _ _ p (ih b (by omega) _ _ _ hL h.2 e)
      · exact hq1 _ _ _ p (ih a (by omega) _ _ _ hL h.1.2 e)
    · rename_i s t
      simp at ht
      simp only [gz_t, Bool.and_eq_true] at h
      try dsimp only at e
      obtain ⟨y, hy, e⟩ := Option.bind_eq_some_iff.mp e
      obtain ⟨p, hL2⟩ := gz_sv hK hL h.1 hy
      exact hq1 _ _ _ p (ih t (by omega) _ _ _ hL2 h.2 e)
    · rename_i x lo cs kk
      simp only [gz_t] at h
      try dsimp only at e
      obtain ⟨y, hy, e⟩ := Option.bind_eq_some_iff.mp e
      exact hq1 _ _ _ (gz_ev hK hL _ _ _ h hy) (hJ _ _ _ _ hL e)
    · rename_i ai as w t h0 h1
      simp at ht
      simp only [gz_t, Bool.and_eq_true] at h
      obtain ⟨⟨⟨⟨⟨g1, g2⟩, g3⟩, g4⟩, g5⟩, g6⟩ := h
      try dsimp only at e
      obtain ⟨y, hy, e⟩ := Option.bind_eq_some_iff.mp e
      obtain ⟨q, hq, e⟩ := Option.bind_eq_some_iff.mp e
      obtain ⟨z, hz, e⟩ := Option.bind_eq_some_iff.mp e
      have p := gz_tr (gz_ev hK hL _ _ _ g1 hy) (gz_tr (gz_ev hK hL _ _ _ g2 hq) (gz_cl_ok hK hL g3 hq hz))
      split at e
      · exact hq1 _ _ _ p (ih h0 (by omega) _ _ _ hL g5 e)
      split at e
      · exact hq1 _ _ _ p (ih h1 (by omega) _ _ _ hL g6 e)
      obtain ⟨w', hw, e⟩ := Option.bind_eq_some_iff.mp e
      exact hq1 _ _ _ (gz_tr p (gz_st1 hw)) (ih t (by omega) _ _ _ hL g4 e)
    · cases e
end GZ
end
section
/-! where line 0 begins: kept by all that ask of the bench -/
theorem gz_pd : ∀ (P : List Nat) (as : List Int) (i k : Nat), (P.all fun t => !Nat.beq t 1) = true → i < P.length → (e_pd P as ++ List.replicate k 0).getD i 0 = as.getD i 0
  | [], _, _, _, _, h => absurd h (Nat.not_lt_zero _)
  | t :: P, [], i, k, _, _ => by
    show (([] : List Int) ++ List.replicate k 0).getD i 0 = ([] : List Int).getD i 0
    rw [List.nil_append, List.getD_eq_getElem?_getD, List.getD_eq_getElem?_getD, List.getElem?_replicate]
    split
    · rfl
    · rfl
  | t :: P, a :: as, i, k, hP, hi => by
    rw [List.all_cons, Bool.and_eq_true] at hP
    have h1 : ¬ t = 1 := fun e => by
      have := hP.1
      rw [e] at this
      cases this
    have e : e_pd (t :: P) (a :: as) = a :: e_pd P as := by
      show (if t = 1 then a :: 0 :: e_pd P as else a :: e_pd P as) = _
      rw [if_neg h1]
    rw [e]
    match i, hi with
    | 0, _ => rfl
    | i + 1, hi => exact gz_pd P as i k hP.2 (by simp at hi; omega)
theorem gz_R4 {u : Nat} (h : gz_R u ≠ 99) : u = 147 ∨ u = 270 ∨ u = 74 ∨ u = 75 := by
  unfold gz_R at h
  split at h
  · rename_i c; exact Or.inl (Nat.eq_of_beq_eq_true c)
  · split at h
    · rename_i c; exact Or.inr (Or.inl (Nat.eq_of_beq_eq_true c))
    · split at h
      · rename_i c; exact Or.inr (Or.inr (Or.inl (Nat.eq_of_beq_eq_true c)))
      · split at h
        · rename_i c; exact Or.inr (Or.inr (Or.inr (Nat.eq_of_beq_eq_true c)))
        · exact absurd rfl h
theorem gz_170 {a : Int} (h : e_isO 0 a) : a = 170 := by
  have h2 : ∀ i : Fin 214, (e_sh i.val).1 = 0 → i.val = 170 ∨ i.val < 8 := by decide +kernel
  obtain ⟨h8, hN, hs⟩ := h
  have hN : a.toNat < 214 := hN
  have := h2 ⟨a.toNat, hN⟩ hs
  have : a.toNat = 170 ∨ a.toNat < 8 := this
  omega
theorem gz_rc4 {as : List Int} (h : e_rok 4 as = true) : as.getD 0 0 = 170 := by
  unfold e_rok at h
  rw [show q_rc (e_vm 4) = some 0 from by decide +kernel] at h
  exact gz_170 (of_decide_eq_true h)
theorem gz_rc1 {as : List Int} (h : e_rok 1 as = true) : as.getD 0 0 = 170 := by
  unfold e_rok at h
  rw [show q_rc (e_vm 1) = some 0 from by decide +kernel] at h
  exact gz_170 (of_decide_eq_true h)
theorem gz_Lp {u : Nat} {as : List Int} (h : gz_R u = 99 ∨ gz_q (as.getD (gz_R u) 0)) (hr : e_rok u as = true) : gz_L u (e_pad u as) := by
  refine ⟨?_, fun e => ?_⟩
  · rcases h with h | h
    · exact Or.inl h
    · by_cases c : gz_R u = 99
      · exact Or.inl c
      · have e : (e_pad u as).getD (gz_R u) 0 = as.getD (gz_R u) 0 := by
          rcases gz_R4 c with rfl | rfl | rfl | rfl <;> exact gz_pd _ _ _ _ (by decide +kernel) (by decide +kernel)
        exact Or.inr (by rw [e]; exact h)
  · subst e
    have e : (e_pad 4 as).getD 0 0 = as.getD 0 0 := gz_pd _ _ _ _ (by decide +kernel) (by decide +kernel)
    rw [e]
    exact gz_rc4 hr
section GZR
variable {S B : List Nat}
def gz_ok (S B : List Nat) : Bool := S.all (fun v => ((e_prog.getD (v / 16) []).getD (v % 16) []).all (fun x => gz_t S B true v x.2.2))
theorem gz_tree (h : gz_ok S B = true) {v : Nat} (hv : fz_S S v = true) (pc : Nat) : gz_t S B true v (e_tr v pc) = true := by
  obtain ⟨w, hw, hb⟩ := List.any_eq_true.mp hv
  have e := Nat.eq_of_beq_eq_true hb
  subst e
  have h1 := List.all_eq_true.mp h w hw
  unfold e_tr
  cases hl : e_lb w pc with
  | none => rfl
  | some q => exact List.all_eq_true.mp h1 _ (q_find_mem hl)
theorem gz_run (h : gz_ok S B = true) (H1 : fz_S S 1000 = true → ∀ as M r, E_C 1 as M = some r → gz_P B M r.2) : ∀ (n v pc : Nat) (L : List Int) (M : EM) (r : Int × EM), fz_S S v = true → gz_L v L → e_run n v pc L M = some r → gz_P B M r.2 := by
  intro n
  induction n with
  | zero => intro v pc L M r _ _ e; cases e
  | succ n ih =>
    intro v pc L M r hv hL e
    rw [e_run] at e
    refine gz_tv (S := S) (lf := true) (Q := gz_P B) (fun _ _ _ h => h) (fun _ _ _ a b => gz_tr a b) (fun u as M' r' hu hR h' => ?_) (fun pc' L' M' r' hL' h' => ih _ _ _ _ _ hv hL' h') _ _ (Nat.le_refl _) L M r hL (gz_tree h hv pc) e
    split at h'
    · rename_i hr
      rcases hu with hu | ⟨hu, h1000⟩
      · exact ih _ _ _ _ _ hu (gz_Lp hR hr) h'
      · subst hu
        exact H1 h1000 as M' r' ((if_pos hr).trans (E_V_of h'))
    · cases h'
theorem gz_call (h : gz_ok S B = true) (H1 : fz_S S 1000 = true → ∀ as M r, E_C 1 as M = some r → gz_P B M r.2) {u : Nat} {as : List Int} {M M' : EM} {r : Int} (hu : fz_S S u = true) (hR : gz_R u = 99 ∨ gz_q (as.getD (gz_R u) 0)) (e : E_C u as M = some (r, M')) : gz_P B M M' := by
  unfold E_C at e
  split at e
  · rename_i hr
    obtain ⟨n, hn⟩ := E_V_ex e
    exact gz_run h H1 n u 0 _ M _ hu (gz_Lp hR hr) (hn n (Nat.le_refl _))
  · cases e
end GZR
/-- one line more -/
def gz_Q (M M' : EM) : Prop := (∀ j, M 14 j ≤ 2147483647) → (∀ j, M' 14 j = M 14 j) ∧ M' 170 5 = e_w (M 170 5 + 1) ∧ (e_w (M 170 5 + 1) ≠ 0 → M' 171 0 = M 171 0)
def gz_S5 : List Nat := [5, 146, 147]
theorem gz_S5_ok : gz_ok gz_S5 [5] = true := by decide +kernel
theorem gz_140 {T : List Int} {M : EM} {r : Int × EM} (h : E_V 4 140 (170 :: T) M = some r) : gz_Q M r.2 := by
  obtain ⟨i, hi⟩ : ∃ i, e_w (M 170 5 + 1) = i := ⟨_, rfl⟩
  obtain ⟨N, hN⟩ : ∃ N, e_up M 170 5 i = N := ⟨_, rfl⟩
  have n5 : N 170 5 = i := by rw [← hN, c_up_s]
  have l := p_lay (a := 171) (i := i) (v := N 170 0) (M := N) (by decide +kernel)
  have e : E_V 4 140 (170 :: T) M = some (0, if 0 ≤ i ∧ i < ((e_sh (171 : Int).toNat).2 : Int) then e_up N (171 : Int).toNat i.toNat (N 170 0) else N) := by
    rw [E_V_eq]
    show e_tv E_C (E_V 4) e_t4_140 (170 :: T) M = _
    unfold e_t4_140
    simp [zq_a, zq_b, zq_c, zq_d, zq_e, zq_f, zq_g, zq_h, zq_i, zq_j, zq_k, zq_l, zq_m, zq_n, zq_o, zq_p, zq_q, zq_r, zq_s, zq_t, zq_u, zq_v, zq_w, zq_x, zq_y, zq_z, zq_A, zq_B, zq_C, zq_D, zq_E, zq_F, zq_G, zq_H, zq_I, zq_J, zq_K, zq_L, ↓zq_M, ↓zq_N, ↓zq_O, ↓zq_P, ↓zq_Q, ↓zq_R, zq_S, zq_T, zq_U, zq_V, zq_W, zq_X, zq_Y, zq_Z, zq_0, zq_1, zq_2, zq_3, zq_4, zq_5, ↓zq_6, ↓zq_7, ↓zq_8, ↓zq_9, ↓zq_aa, zq_ab, zq_ac, zq_ad, zq_ae, zq_af, zq_ag, ↓zq_ah, ↓zq_ai, ↓zq_aj, zq_ak, ↓zq_al, ↓zq_am, e_b1, e_b2, x_o1, x_o2, bx_F5, bx_F0, bx_P5, bx_G8, hi, hN, n5, l]
  rw [e] at h
  cases h
  intro _
  rw [hi]
  have f : ∀ id k, id ≠ 170 → N id k = M id k := fun id k h => by rw [← hN, c_up_n (by omega)]
  show (∀ j, (if 0 ≤ i ∧ i < ((e_sh (171 : Int).toNat).2 : Int) then e_up N (171 : Int).toNat i.toNat (N 170 0) else N) 14 j = M 14 j) ∧ (if 0 ≤ i ∧ i < ((e_sh (171 : Int).toNat).2 : Int) then e_up N (171 : Int).toNat i.toNat (N 170 0) else N) 170 5 = i ∧ (i ≠ 0 → (if 0 ≤ i ∧ i < ((e_sh (171 : Int).toNat).2 : Int) then e_up N (171 : Int).toNat i.toNat (N 170 0) else N) 171 0 = M 171 0)
  by_cases c : 0 ≤ i ∧ i < ((e_sh (171 : Int).toNat).2 : Int)
  · rw [if_pos c]
    exact ⟨fun j => (c_up_n (by omega)).trans (f _ _ (by decide)), (c_up_n (by omega)).trans n5, fun h0 => (c_up_n (by omega)).trans (f _ _ (by decide))⟩
  · rw [if_neg c]
    exact ⟨fun j => f _ _ (by decide), n5, fun _ => f _ _ (by decide)⟩
theorem gz_t4 : ((e_prog.getD 0 []).getD 4 []).all (fun x => Nat.beq x.1 140 || gz_t gz_S5 [5] false 4 x.2.2) = true := by decide +kernel
theorem gz_tree4 {pc : Nat} (h : pc ≠ 140) : gz_t gz_S5 [5] false 4 (e_tr 4 pc) = true := by
  unfold e_tr
  cases hl : e_lb 4 pc with
  | none => rfl
  | some q =>
    have h1 := List.all_eq_true.mp gz_t4 _ (q_find_mem hl)
    rw [Bool.or_eq_true] at h1
    rcases h1 with c | c
    · exact absurd (Nat.eq_of_beq_eq_true c) h
    · exact c
theorem gz_run4 : ∀ (n pc : Nat) (L : List Int) (M : EM) (r : Int × EM), gz_L 4 L → e_run n 4 pc L M = some r → gz_Q M r.2 := by
  intro n
  induction n with
  | zero => intro pc L M r _ e; cases e
  | succ n ih =>
    intro pc L M r hL e
    by_cases c : pc = 140
    · subst c
      have e' := E_V_of e
      have h0 := hL.2 rfl
      match L, h0 with
      | [], h0 => cases h0
      | a :: T, h0 =>
        have h0 : a = 170 := h0
        subst h0
        exact gz_140 e'
    · rw [e_run] at e
      refine gz_tv (v := 4) (S := gz_S5) (B := [5]) (lf := false) (Q := gz_Q) (fun h => by cases h) (fun M M1 M2 a b => ?_) (fun u as M' r' hu hR h' => ?_) (fun pc' L' M' r' hL' h' => ih _ _ _ _ hL' h') _ _ (Nat.le_refl _) L M r hL (gz_tree4 c) e
      · intro p
        obtain ⟨a1, a2, a3⟩ := a p
        obtain ⟨b1, b2, b3⟩ := b (fun j => by rw [a2 j]; exact p j)
        have a5 := a3 5 (by decide)
        rw [a5] at b2 b3
        exact ⟨fun j => (b1 j).trans (a2 j), b2, fun h => (b3 h).trans a1⟩
      · split at h'
        · rename_i hr
          rcases hu with hu | ⟨hu, h1000⟩
          · exact gz_run gz_S5_ok (fun h => absurd h (by decide)) n u 0 _ M' r' hu (gz_Lp hR hr) h'
          · exact absurd h1000 (by decide)
        · cases h'
theorem gz_4 {as : List Int} {M : EM} {r : Int × EM} (e : E_C 4 as M = some r) : gz_Q M r.2 := by
  unfold E_C at e
  split at e
  · rename_i hr
    obtain ⟨n, hn⟩ := E_V_ex e
    exact gz_run4 n 0 _ M _ (gz_Lp (Or.inl (by decide)) hr) (hn n (Nat.le_refl _))
  · cases e
end
section
/-! where line 0 begins: SPREAD keeps it; so do all calls -/
theorem gz_146 {a i : Int} {N : EM} (h : 8 ≤ a ∧ a.toNat < e_N ∧ (e_sh a.toNat).1 = 100) : ∃ v, E_C 146 [a, i] N = some (v, N) ∧ ((∀ j, N a.toNat j ≤ 2147483647) → v ≤ 2147483647) := by
  refine ⟨_, c_at a i N (Or.inr ⟨by omega, h.2.1, h.2.2⟩), fun p => ?_⟩
  split
  · exact p _
  · decide
theorem gz_101 {p x3 x4 x5 : Int} (h5 : x5 ≤ 2147483647) : ∀ (d : Nat) (x6 : Int) (N : EM) (r : Int × EM), N 170 5 = x6 → 0 ≤ x6 → (x5 - x6).toNat = d → (∀ j, N 14 j ≤ 2147483647) → E_V 1 101 [170, p, 10, x3, x4, x5, x6] N = some r → r.2 171 0 = N 171 0 ∧ ∀ j, r.2 14 j = N 14 j := by
  intro d
  induction d with
  | zero =>
    intro x6 N r n5 h0 hd pre h
    have q : ¬ x6 < x5 := by omega
    have e : E_V 1 101 [170, p, 10, x3, x4, x5, x6] N = some (0, N) := by
      rw [E_V_eq]
      show e_tv E_C (E_V 1) e_t1_101 [170, p, 10, x3, x4, x5, x6] N = _
      unfold e_t1_101
      simp [e_tv, e_ev, e_sv, e_b1, e_b2, x_o1, x_o2, q]
    rw [e] at h
    cases h
    exact ⟨rfl, fun _ => rfl⟩
  | succ d ih =>
    intro x6 N r n5 h0 hd pre h
    have q : x6 < x5 := by omega
    have w : e_w (x6 + 1) = x6 + 1 := a_w_id (by omega) (by omega)
    obtain ⟨v, hv, -⟩ := gz_146 (a := 15) (i := e_w (e_w (x4 * 8) + x6)) (N := N) (by decide +kernel)
    cases h4 : E_C 4 [170, v] N with
    | none =>
      have e : E_V 1 101 [170, p, 10, x3, x4, x5, x6] N = none := by
        rw [E_V_eq]
        show e_tv E_C (E_V 1) e_t1_101 [170, p, 10, x3, x4, x5, x6] N = _
        unfold e_t1_101
        simp [e_tv, e_ev, e_sv, e_b1, e_b2, x_o1, x_o2, w_P5, q, hv, h4]
      rw [e] at h
      cases h
    | some s =>
      have e : E_V 1 101 [170, p, 10, x3, x4, x5, x6] N = E_V 1 101 [170, p, 10, x3, x4, x5, x6 + 1] s.2 := by
        rw [E_V_eq]
        show e_tv E_C (E_V 1) e_t1_101 [170, p, 10, x3, x4, x5, x6] N = _
        unfold e_t1_101
        simp [e_tv, e_ev, e_sv, e_b1, e_b2, x_o1, x_o2, w_P5, q, w, hv, h4]
      rw [e] at h
      obtain ⟨a1, a2, a3⟩ := gz_4 h4 pre
      rw [n5, w] at a2 a3
      obtain ⟨b1, b2⟩ := ih (x6 + 1) s.2 r a2 (by omega) (by omega) (fun j => by rw [a1 j]; exact pre j) h
      exact ⟨b1.trans (a3 (by omega)), fun j => (b2 j).trans (a1 j)⟩
theorem gz_10 {p : Int} {M : EM} {r : Int × EM} (h : E_V 1 0 [170, p, 0, 0, 0, 0, 0] M = some r) : gz_P [] M r.2 := by
  intro pre
  obtain ⟨Z, hZ⟩ : ∃ Z, bx_cl M = Z := ⟨_, rfl⟩
  have cl : E_C 3 [170] M = some (0, Z) := by rw [← hZ]; exact bx_clear M
  have z5 : Z 170 5 = 0 := by
    rw [← hZ]
    unfold bx_cl bx_fl
    rw [if_neg (by omega), c_up_s]
  have z171 : Z 171 0 = M 171 0 := by
    rw [← hZ]
    unfold bx_cl bx_fl
    rw [if_neg (by omega), c_up_n (by omega), c_up_n (by omega), c_up_n (by omega)]
  have z14 : ∀ j, Z 14 j = M 14 j := fun j => by
    rw [← hZ]
    unfold bx_cl bx_fl
    rw [if_neg (by omega), c_up_n (by omega), c_up_n (by omega), c_up_n (by omega)]
  -- what stands behind the choice of the inner PART
  have go1 : ∀ x3 y : Int, ∀ (s : Int × EM), E_C 4 [170, y] (e_up Z 170 7 0) = some s → s.2 171 0 = M 171 0 ∧ ∀ j, s.2 14 j = M 14 j := fun x3 y s hs => by
    obtain ⟨a1, a2, a3⟩ := gz_4 hs (fun j => by rw [c_up_n (by omega), z14 j]; exact pre j)
    have u5 : (e_up Z 170 7 0) 170 5 = 0 := (c_up_n (by omega)).trans z5
    rw [u5] at a3
    exact ⟨(a3 (by decide)).trans ((c_up_n (by omega)).trans z171), fun j => (a1 j).trans ((c_up_n (by omega)).trans (z14 j))⟩
  have go2 : ∀ x3 y m : Int, ∀ (s : Int × EM), m ≤ 2147483647 → E_V 1 101 [170, p, 10, x3, y, m, 0] (e_up Z 170 7 1) = some s → s.2 171 0 = M 171 0 ∧ ∀ j, s.2 14 j = M 14 j := fun x3 y m s hm hs => by
    obtain ⟨b1, b2⟩ := gz_101 hm _ 0 (e_up Z 170 7 1) s ((c_up_n (by omega)).trans z5) (by decide) rfl (fun j => by rw [c_up_n (by omega), z14 j]; exact pre j) hs
    exact ⟨b1.trans ((c_up_n (by omega)).trans z171), fun j => (b2 j).trans ((c_up_n (by omega)).trans (z14 j))⟩
  suffices hh : r.2 171 0 = M 171 0 ∧ ∀ j, r.2 14 j = M 14 j from ⟨hh.1, hh.2, fun k hk => absurd hk List.not_mem_nil⟩
  obtain ⟨kp, tp, -⟩ := gz_146 (a := 11) (i := p) (N := Z) (by decide +kernel)
  by_cases c3 : kp = 3
  · subst c3
    obtain ⟨y, t15, -⟩ := gz_146 (a := 15) (i := e_w (p * 8)) (N := Z) (by decide +kernel)
    obtain ⟨ky, ty, -⟩ := gz_146 (a := 11) (i := y) (N := Z) (by decide +kernel)
    by_cases c : ky = 2
    · subst c
      obtain ⟨m, t14, hm⟩ := gz_146 (a := 14) (i := y) (N := e_up Z 170 7 1) (by decide +kernel)
      have e : E_V 1 0 [170, p, 0, 0, 0, 0, 0] M = E_V 1 101 [170, p, 10, 1, y, m, 0] (e_up Z 170 7 1) := by
        rw [E_V_eq]
        show e_tv E_C (E_V 1) e_t1_0 [170, p, 0, 0, 0, 0, 0] M = _
        unfold e_t1_0
        simp [e_tv, e_ev, e_sv, e_b1, e_b2, x_o1, x_o2, bx_G3, bx_F7, bx_P7, w_H0, w_P1, w_P4, w_P5, cl, tp, t15, ty, t14, c_up_s]
      rw [e] at h
      exact go2 _ _ _ _ (hm (fun j => by show (e_up Z 170 7 1) 14 j ≤ _; rw [c_up_n (by omega), z14 j]; exact pre j)) h
    · cases h4 : E_C 4 [170, y] (e_up Z 170 7 0) with
      | none =>
        have e : E_V 1 0 [170, p, 0, 0, 0, 0, 0] M = none := by
          rw [E_V_eq]
          show e_tv E_C (E_V 1) e_t1_0 [170, p, 0, 0, 0, 0, 0] M = _
          unfold e_t1_0
          simp [e_tv, e_ev, e_sv, e_b1, e_b2, x_o1, x_o2, bx_G3, bx_F7, bx_P7, w_H0, w_P1, w_P5, cl, tp, t15, ty, c, h4, c_up_s]
        rw [e] at h
        cases h
      | some s =>
        have e : E_V 1 0 [170, p, 0, 0, 0, 0, 0] M = some (0, s.2) := by
          rw [E_V_eq]
          show e_tv E_C (E_V 1) e_t1_0 [170, p, 0, 0, 0, 0, 0] M = _
          unfold e_t1_0
          simp [e_tv, e_ev, e_sv, e_b1, e_b2, x_o1, x_o2, bx_G3, bx_F7, bx_P7, w_H0, w_P1, w_P5, cl, tp, t15, ty, c, h4, c_up_s]
        rw [e] at h
        cases h
        exact go1 0 y s h4
  · obtain ⟨y, hy⟩ : ∃ y, y = p := ⟨_, rfl⟩
    by_cases c : kp = 2
    · subst c
      obtain ⟨m, t14, hm⟩ := gz_146 (a := 14) (i := p) (N := e_up Z 170 7 1) (by decide +kernel)
      have e : E_V 1 0 [170, p, 0, 0, 0, 0, 0] M = E_V 1 101 [170, p, 10, 0, p, m, 0] (e_up Z 170 7 1) := by
        rw [E_V_eq]
        show e_tv E_C (E_V 1) e_t1_0 [170, p, 0, 0, 0, 0, 0] M = _
        unfold e_t1_0
        simp [e_tv, e_ev, e_sv, e_b1, e_b2, x_o1, x_o2, bx_G3, bx_F7, bx_P7, w_H0, w_P1, w_P4, cl, tp, t14, c_up_s]
      rw [e] at h
      exact go2 _ _ _ _ (hm (fun j => by show (e_up Z 170 7 1) 14 j ≤ _; rw [c_up_n (by omega), z14 j]; exact pre j)) h
    · cases h4 : E_C 4 [170, p] (e_up Z 170 7 0) with
      | none =>
        have e : E_V 1 0 [170, p, 0, 0, 0, 0, 0] M = none := by
          rw [E_V_eq]
          show e_tv E_C (E_V 1) e_t1_0 [170, p, 0, 0, 0, 0, 0] M = _
          unfold e_t1_0
          simp [e_tv, e_ev, e_sv, e_b1, e_b2, x_o1, x_o2, bx_G3, bx_F7, bx_P7, w_H0, w_P1, cl, tp, c3, c, h4, c_up_s]
        rw [e] at h
        cases h
      | some s =>
        have e : E_V 1 0 [170, p, 0, 0, 0, 0, 0] M = some (0, s.2) := by
          rw [E_V_eq]
          show e_tv E_C (E_V 1) e_t1_0 [170, p, 0, 0, 0, 0, 0] M = _
          unfold e_t1_0
          simp [e_tv, e_ev, e_sv, e_b1, e_b2, x_o1, x_o2, bx_G3, bx_F7, bx_P7, w_H0, w_P1, cl, tp, c3, c, h4, c_up_s]
        rw [e] at h
        cases h
        exact go1 0 p s h4
theorem gz_1 {as : List Int} {M : EM} {r : Int × EM} (h : E_C 1 as M = some r) : gz_P [] M r.2 := by
  unfold E_C at h
  split at h
  · rename_i hr
    have h0 := gz_rc1 hr
    match as, h0 with
    | [], h0 => cases h0
    | [a], h0 =>
      have h0 : a = 170 := h0
      subst h0
      exact gz_10 (p := 0) h
    | a :: p :: t, h0 =>
      have h0 : a = 170 := h0
      subst h0
      exact gz_10 (p := p) h
  · cases h
def gz_A : List Nat := [5, 6, 7, 8, 9, 10, 11, 12, 13, 14, 15, 16, 17, 18, 19, 20, 21, 22, 23, 24, 25, 26, 29, 30, 31, 32, 37, 38, 41, 42, 43, 44, 45, 46, 74, 75, 77, 78, 81, 82, 84, 85, 86, 105, 106, 109, 110, 111, 112, 113, 115, 116, 123, 124, 131, 132, 133, 134, 135, 139, 146, 147, 149, 150, 151, 152, 154, 155, 156, 158, 159, 160, 164, 165, 166, 266, 270, 271, 272, 273, 142, 1000]
theorem gz_A_ok : gz_ok gz_A [] = true := by decide +kernel
/-- calls that ask of the bench leave alone where line 0 begins -/
theorem gz_c {u : Nat} {as : List Int} {M M' : EM} {r : Int} (hu : fz_S gz_A u = true) (hR : gz_R u = 99) (J : r_J M) (e : E_C u as M = some (r, M')) (h : M 171 0 = 0) : M' 171 0 = 0 := by
  have p := gz_call gz_A_ok (fun _ as M r h => gz_1 h) hu (Or.inl hR) e (fun j => ?_)
  · exact p.1.trans h
  · exact (c_M32 J.1 (by decide) (by decide +kernel)).2
end
