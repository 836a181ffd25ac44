/-! fields of the reference that no method of a row writes: a check of their trees -/
def fz_S (S : List Nat) (u : Nat) : Bool := S.any (fun v => Nat.beq v u)
def fz_b (B : List Nat) (key : Nat) : Bool := B.any (fun k => Nat.beq (768 + k) key)
def fz_e (S : List Nat) : e_X → Bool
  | .add a b => fz_e S a && fz_e S b
  | .mulL k a => fz_e S a && (if 5000 ≤ k then fz_S S (k.toNat - 5000) else true)
  | .mulR a _ => fz_e S a
  | .sub c (.add a b) => fz_e S c && fz_e S a && fz_e S b
  | _ => true
def fz_s (S B : List Nat) (s : e_X) : Bool := match s with
  | .mulL k e => fz_e S (.mulL k e) && (if k = 67 then (match e with
    | .mulR (.add o x) key => fz_e S o && fz_e S x && !fz_b B key.toNat
    | _ => true) else if k = 68 then (match e with
    | .add ai x => fz_e S ai && fz_e S x
    | _ => true) else true)
  | .mulR e key => fz_e S e && !fz_b B key.toNat
  | _ => true
def fz_t (S B : List Nat) : e_X → Bool
  | .mulL k e => if k < 0 then fz_t S B e else fz_e S e
  | .sub c (.add a b) => fz_e S c && fz_t S B a && fz_t S B b
  | .add s t => fz_s S B s && fz_t S B t
  | .mulR (.add x (.add (.num _) _)) _ => fz_e S x
  | .neg (.add (.mulR (.add ai as) v) (.add t (.add h0 h1))) => fz_e S ai && fz_e S as && fz_S S v.toNat && fz_t S B t && fz_t S B h0 && fz_t S B h1
  | _ => true
def fz_P (B : List Nat) (M M' : EM) : Prop := ∀ k ∈ B, M' 192 k = M 192 k
section FZ
variable {S B : List Nat}
theorem fz_rf {M : EM} : fz_P B M M := fun _ _ => rfl
theorem fz_tr {M M1 M2 : EM} (h : fz_P B M M1) (k : fz_P B M1 M2) : fz_P B M M2 := fun j hj => (k j hj).trans (h j hj)
theorem fz_st {kd : Nat} {x : List Int} {M M' : EM} (hk : kd = 100 ∨ kd = 101) (h : e_st kd x M = some M') : fz_P B M M' := by
  unfold e_st at h
  split at h
  · rename_i a i v
    split at h
    · rename_i hc
      cases h
      have hsh := hc.2.2.2.1
      refine fun k _ => c_up_n (fun e => ?_)
      rw [← e.1] at hsh
      rw [show (e_sh 192).1 = 12 from by decide +kernel] at hsh
      omega
    · cases h
  · cases h
theorem fz_cp {x : List Int} {M M' : EM} (h : e_cp x M = some M') : fz_P B M M' := by
  unfold e_cp at h
  split at h
  · rename_i a0 sp a dp n
    split at h
    · rename_i hc
      cases h
      have hsh := hc.1.2.2
      refine fun k _ => if_neg (fun e => ?_)
      rw [← e.1] at hsh
      exact absurd hsh (by decide +kernel)
    · cases h
  · cases h
theorem fz_pf {key : Nat} {x : List Int} {M M' : EM} (hb : fz_b B key = false) (h : e_pf key x M = some M') : fz_P B M M' := by
  unfold e_pf at h
  split at h
  · rename_i a v
    split at h
    · rename_i hc
      cases h
      have hsh := hc.1.2.2
      refine fun k hk => c_up_n (fun e => ?_)
      rw [← e.1] at hsh
      rw [show (e_sh 192).1 = 12 from by decide +kernel] at hsh
      have hkey : 768 + k = key := by omega
      have : fz_b B key = true := List.any_eq_true.mpr ⟨k, hk, by rw [hkey]; exact Nat.beq_refl key⟩
      rw [hb] at this
      cases this
    · cases h
  · cases h
variable {K J : Nat → List Int → EM → EO}
theorem fz_ev {L : List Int} (hK : ∀ u as M r, fz_S S u = true → K u as M = some r → fz_P B M r.2) : ∀ (x : e_X) (M : EM) (r : List Int × EM), fz_e S x = true → e_ev K L x M = some r → fz_P B M r.2
  | .num v, M, r, _, e => by
    simp only [e_ev, Option.some.injEq] at e
    subst e
    exact fz_rf
  | .var i, M, r, _, e => by
    simp only [e_ev, Option.some.injEq] at e
    subst e
    exact fz_rf
  | .add a b, M, r, h, e => by
    simp only [fz_e, Bool.and_eq_true] at h
    simp only [e_ev, Option.bind_eq_some_iff] at e
    obtain ⟨x, hx, y, hy, e⟩ := e
    cases e
    exact fz_tr (fz_ev hK a M x h.1 hx) (fz_ev hK b _ y h.2 hy)
  | .mulL k a, M, r, h, e => by
    simp only [fz_e, Bool.and_eq_true] at h
    unfold e_ev at e
    split at e
    · exact fz_ev hK a M r h.1 e
    · simp only [Option.bind_eq_some_iff] at e
      obtain ⟨x, hx, e⟩ := e
      have p := fz_ev hK a M x h.1 hx
      split at e
      · rename_i h5
        have h2 := h.2
        rw [if_pos h5] at h2
        simp only [Option.bind_eq_some_iff] at e
        obtain ⟨y, hy, e⟩ := e
        cases e
        exact fz_tr p (hK _ _ _ _ h2 hy)
      · simp only [Option.bind_eq_some_iff] at e
        obtain ⟨y, hy, e⟩ := e
        cases e
        exact p
  | .mulR a k, M, r, h, e => by
    simp only [fz_e] at h
    simp only [e_ev, Option.bind_eq_some_iff] at e
    obtain ⟨x, hx, y, hy, e⟩ := e
    cases e
    exact fz_ev hK a M x h hx
  | .sub c (.add a b), M, r, h, e => by
    simp only [fz_e, Bool.and_eq_true] at h
    simp only [e_ev, Option.bind_eq_some_iff] at e
    obtain ⟨x, hx, e⟩ := e
    have p := fz_ev hK c M x h.1.1 hx
    split at e
    · exact fz_tr p (fz_ev hK b _ r h.2 e)
    · exact fz_tr p (fz_ev hK a _ r h.1.2 e)
  | .sub c (.num _), M, r, _, e => by simp [e_ev] at e
  | .sub c (.var _), M, r, _, e => by simp [e_ev] at e
  | .sub c (.sub _ _), M, r, _, e => by simp [e_ev] at e
  | .sub c (.neg _), M, r, _, e => by simp [e_ev] at e
  | .sub c (.mulL _ _), M, r, _, e => by simp [e_ev] at e
  | .sub c (.mulR _ _), M, r, _, e => by simp [e_ev] at e
  | .neg _, M, r, _, e => by simp [e_ev] at e
theorem fz_sv (hK : ∀ u as M r, fz_S S u = true → K u as M = some r → fz_P B M r.2) {s : e_X} {L : List Int} {M : EM} {r : List Int × EM} (h : fz_s S B s = true) (e : e_sv K s L M = some r) : fz_P B M r.2 := by
  unfold e_sv at e
  split at e
  · rename_i k x
    unfold fz_s at h
    simp only [Bool.and_eq_true] at h
    obtain ⟨h1, h2⟩ := h
    have h0 : fz_e S x = true := by
      unfold fz_e at h1
      exact (Bool.and_eq_true _ _ ▸ h1).1
    try dsimp only at e
    split at e
    · obtain ⟨y, hy, e⟩ := Option.bind_eq_some_iff.mp e
      obtain ⟨z, hz, e⟩ := Option.bind_eq_some_iff.mp e
      cases e
      exact fz_tr (fz_ev hK _ _ _ h0 hy) (fz_st (Or.inl rfl) hz)
    split at e
    · obtain ⟨y, hy, e⟩ := Option.bind_eq_some_iff.mp e
      obtain ⟨z, hz, e⟩ := Option.bind_eq_some_iff.mp e
      cases e
      exact fz_tr (fz_ev hK _ _ _ h0 hy) (fz_st (Or.inr rfl) hz)
    split at e
    · obtain ⟨y, hy, e⟩ := Option.bind_eq_some_iff.mp e
      obtain ⟨z, hz, e⟩ := Option.bind_eq_some_iff.mp e
      cases e
      exact fz_tr (fz_ev hK _ _ _ h0 hy) (fz_cp hz)
    split at e
    · rename_i k67
      rw [if_pos k67] at h2
      split at e
      · rename_i o y key
        try dsimp only at h2
        simp only [Bool.and_eq_true, Bool.not_eq_true'] at h2
        try dsimp only at e
        simp only [Option.bind_eq_some_iff] at e
        obtain ⟨y1, hy, u, hu, q, hq, z, hz, w, hw, e⟩ := e
        cases e
        exact fz_tr (fz_ev hK _ _ _ h2.1.1 hy) (fz_tr (fz_ev hK _ _ _ h2.1.2 hq) (fz_pf h2.2 hw))
      · cases e
    rename_i k67
    rw [if_neg k67] at h2
    split at e
    · rename_i k68
      rw [if_pos k68] at h2
      split at e
      · rename_i ai y
        try dsimp only at h2
        simp only [Bool.and_eq_true] at h2
        try dsimp only at e
        simp only [Option.bind_eq_some_iff] at e
        obtain ⟨y1, hy, u, hu, q, hq, z, hz, w, hw, e⟩ := e
        cases e
        exact fz_tr (fz_ev hK _ _ _ h2.1 hy) (fz_tr (fz_ev hK _ _ _ h2.2 hq) (fz_st (Or.inl rfl) hw))
      · cases e
    split at e
    · obtain ⟨y, hy, e⟩ := Option.bind_eq_some_iff.mp e
      cases e
      exact (fz_ev hK _ _ _ h0 hy : fz_P B M y.2)
    split at e
    · split at e
      · cases e
        exact fz_rf
      · cases e
    split at e
    · obtain ⟨y, hy, e⟩ := Option.bind_eq_some_iff.mp e
      cases e
      exact (fz_ev hK _ _ _ h1 hy : fz_P B M y.2)
    · cases e
  · rename_i x key
    unfold fz_s at h
    simp only [Bool.and_eq_true, Bool.not_eq_true'] at h
    try dsimp only at e
    obtain ⟨y, hy, e⟩ := Option.bind_eq_some_iff.mp e
    obtain ⟨z, hz, e⟩ := Option.bind_eq_some_iff.mp e
    cases e
    exact fz_tr (fz_ev hK _ _ _ h.1 hy) (fz_pf h.2 hz)
  · cases e
theorem fz_tv (h5 : ∀ M : EM, ∀ v, fz_P B M (e_up M 5 0 v)) (hK : ∀ u as M r, fz_S S u = true → K u as M = some r → fz_P B M r.2) (hJ : ∀ pc L M r, J pc L M = some r → fz_P B M r.2) : ∀ (k : Nat) (t : e_X), SizeOf.sizeOf t ≤ k → ∀ (L : List Int) (M : EM) (r : Int × EM), fz_t S B t = true → e_tv K J t L M = some r → fz_P B M r.2 := by
  intro k
  induction k with
  | zero => intro t ht; cases t <;> simp at ht
  | succ k ih =>
    intro t ht L M r h e
    unfold e_tv at e
    split at e
    · rename_i k1 x
      simp at ht
      unfold fz_t at h
      try dsimp only at e
      split at e
      · rename_i h0
        rw [if_pos h0] at h
        exact ih x (by omega) L M r h e
      rename_i h0
      rw [if_neg h0] at h
      split at e
      · obtain ⟨y, hy, e⟩ := Option.bind_eq_some_iff.mp e
        cases e
        exact fz_ev hK _ _ _ h hy
      split at e
      · cases e
        exact fz_rf
      split at e
      · obtain ⟨y, hy, e⟩ := Option.bind_eq_some_iff.mp e
        cases e
        exact h5 _ _
      split at e
      · obtain ⟨y, hy, e⟩ := Option.bind_eq_some_iff.mp e
        exact hJ _ _ _ _ e
      · cases e
    · rename_i c a b
      simp at ht
      simp only [fz_t, Bool.and_eq_true] at h
      try dsimp only at e
      obtain ⟨y, hy, e⟩ := Option.bind_eq_some_iff.mp e
      have p := fz_ev hK _ _ _ h.1.1 hy
      split at e
      · exact fz_tr p (ih b (by omega) _ _ _ h.2 e)
      · exact fz_tr p (ih a (by omega) _ _ _ h.1.2 e)
    · rename_i s t
      simp at ht
      simp only [fz_t, Bool.and_eq_true] at h
      try dsimp only at e
      obtain ⟨y, hy, e⟩ := Option.bind_eq_some_iff.mp e
      exact fz_tr (fz_sv hK h.1 hy) (ih t (by omega) _ _ _ h.2 e)
    · rename_i x lo cs kk
      simp only [fz_t] at h
      try dsimp only at e
      obtain ⟨y, hy, e⟩ := Option.bind_eq_some_iff.mp e
      exact fz_tr (fz_ev hK _ _ _ h hy) (hJ _ _ _ _ e)
    · rename_i ai as v t h0 h1
      simp at ht
      simp only [fz_t, Bool.and_eq_true] at h
      obtain ⟨⟨⟨⟨⟨g1, g2⟩, g3⟩, g4⟩, g5⟩, g6⟩ := h
      try dsimp only at e
      obtain ⟨y, hy, e⟩ := Option.bind_eq_some_iff.mp e
      obtain ⟨q, hq, e⟩ := Option.bind_eq_some_iff.mp e
      obtain ⟨z, hz, e⟩ := Option.bind_eq_some_iff.mp e
      have p := fz_tr (fz_ev hK _ _ _ g1 hy) (fz_tr (fz_ev hK _ _ _ g2 hq) (hK _ _ _ _ g3 hz))
      split at e
      · exact fz_tr p (ih h0 (by omega) _ _ _ g5 e)
      split at e
      · exact fz_tr p (ih h1 (by omega) _ _ _ g6 e)
      obtain ⟨w, hw, e⟩ := Option.bind_eq_some_iff.mp e
      exact fz_tr p (fz_tr (fz_st (Or.inr rfl) hw) (ih t (by omega) _ _ _ g4 e))
    · cases e
/-- all trees of the methods of S pass -/
def fz_ok (S B : List Nat) : Bool := S.all (fun v => ((e_prog.getD (v / 16) []).getD (v % 16) []).all (fun x => fz_t S B x.2.2))
theorem fz_tree (h : fz_ok S B = true) {v : Nat} (hv : fz_S S v = true) (pc : Nat) : fz_t S B (e_tr v pc) = true := by
  obtain ⟨w, hw, hb⟩ := List.any_eq_true.mp hv
  have e := Nat.eq_of_beq_eq_true hb
  subst e
  have h1 := List.all_eq_true.mp h w hw
  unfold e_tr
  cases hl : e_lb w pc with
  | none => rfl
  | some q => exact List.all_eq_true.mp h1 _ (q_find_mem hl)
theorem fz_run (h : fz_ok S B = true) : ∀ (n v pc : Nat) (L : List Int) (M : EM) (r : Int × EM), fz_S S v = true → e_run n v pc L M = some r → fz_P B M r.2 := by
  intro n
  induction n with
  | zero => intro v pc L M r _ e; cases e
  | succ n ih =>
    intro v pc L M r hv e
    rw [e_run] at e
    refine fz_tv (S := S) (fun M v k _ => c_up_n (by omega)) (fun u as M' r' hu h' => ?_) (fun pc' L' M' r' h' => ih _ _ _ _ _ hv h') _ _ (Nat.le_refl _) L M r (fz_tree h hv pc) e
    split at h'
    · exact ih _ _ _ _ _ hu h'
    · cases h'
theorem fz_call (h : fz_ok S B = true) {u : Nat} {as : List Int} {M M' : EM} {r : Int} (hu : fz_S S u = true) (e : E_C u as M = some (r, M')) : fz_P B M M' := by
  unfold E_C at e
  split at e
  · obtain ⟨n, hn⟩ := E_V_ex e
    exact fz_run h n u 0 _ M _ hu (hn n (Nat.le_refl _))
  · cases e
end FZ
def fz_A : List Nat := (List.range 77).map (168 + ·) ++ [248, 255, 256, 257, 258, 259, 260, 261, 262, 263, 264, 265, 300, 301, 302, 304, 305, 306, 307, 308, 309]
theorem fz_A_ok : fz_ok fz_A [22, 23, 24] = true := by decide +kernel
theorem fz_W_ok : fz_ok (fz_A ++ [245, 246, 247]) [23, 24] = true := by decide +kernel
theorem fz_F_ok : fz_ok (fz_A ++ [249, 250, 251, 252, 253, 254]) [22] = true := by decide +kernel
/-- most calls leave CAUSES and FAULTS alone -/
theorem rx_Kc {u : Nat} {as : List Int} {M M' : EM} {r : Int} (hu : fz_S fz_A u = true) (e : E_C u as M = some (r, M')) (hK : rx_K M) : rx_K M' := by
  have p := fz_call fz_A_ok hu e
  obtain ⟨k1, k2, k3⟩ := hK
  exact ⟨(p 22 (by decide)).trans k1, (p 23 (by decide)).trans k2, (p 24 (by decide)).trans k3⟩
