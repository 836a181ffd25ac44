section
/-! CAUSES off, FAULTS tried: put back in the end -/
def fx_v (k : Nat) : Int := if Nat.beq k 22 then 0 else -1
def fx_F (B : List Nat) (M : EM) : Prop := ∀ k ∈ B, M 192 k = fx_v k
def fx_P (B : List Nat) (M M' : EM) : Prop := fx_F B M → fx_F B M'
/-- T: a statement behind which all stand as they should; U: one that may break it -/
def fx_t (T U : e_X → Bool) (S B : List Nat) (gf : Bool) : Bool → e_X → Bool
  | st, .mulL k e => if k < 0 then fx_t T U S B gf st e else if k = 4 then (st || !gf) && fz_e S e else st && fz_e S e
  | st, .sub c (.add a b) => fz_e S c && fx_t T U S B gf st a && fx_t T U S B gf st b
  | st, .add s t => if T s = true then fx_t T U S B gf true t else if U s = true then fx_t T U S B gf false t else fz_s S B s && fx_t T U S B gf st t
  | st, .mulR (.add x (.add (.num _) _)) _ => (st || !gf) && fz_e S x
  | _, .neg _ => false
  | _, _ => true
section FX
variable {S B : List Nat}
theorem fx_of {M M' : EM} (h : fz_P B M M') : fx_P B M M' := fun p k hk => (h k hk).trans (p k hk)
theorem fx_rf {M : EM} : fx_P B M M := fun h => h
theorem fx_tr {M M1 M2 : EM} (h : fx_P B M M1) (k : fx_P B M1 M2) : fx_P B M M2 := fun p => k (h p)
theorem fx_st {kd : Nat} {x : List Int} {M M' : EM} (hk : kd = 100 ∨ kd = 101) (h : e_st kd x M = some M') : fx_P B M M' := fx_of (fz_st hk h)
theorem fx_cp {x : List Int} {M M' : EM} (h : e_cp x M = some M') : fx_P B M M' := fx_of (fz_cp h)
theorem fx_pf {key : Nat} {x : List Int} {M M' : EM} (hb : fz_b B key = false) (h : e_pf key x M = some M') : fx_P B M M' := fx_of (fz_pf hb h)
variable {K J : Nat → List Int → EM → EO}
theorem fx_ev {L : List Int} (hK : ∀ u as M r, fz_S S u = true → K u as M = some r → fx_P B M r.2) : ∀ (x : e_X) (M : EM) (r : List Int × EM), fz_e S x = true → e_ev K L x M = some r → fx_P B M r.2
  | .num v, M, r, _, e => by
    simp only [e_ev, Option.some.injEq] at e
    subst e
    exact fx_rf
  | .var i, M, r, _, e => by
    simp only [e_ev, Option.some.injEq] at e
    subst e
    exact fx_rf
  | .add a b, M, r, h, e => by
    simp only [fz_e, Bool.and_eq_true] at h
    simp only [e_ev, Option.bind_eq_some_iff] at e
    obtain ⟨x, hx, y, hy, e⟩ := e
    cases e
    exact fx_tr (fx_ev hK a M x h.1 hx) (fx_ev hK b _ y h.2 hy)
  | .mulL k a, M, r, h, e => by
    simp only [fz_e, Bool.and_eq_true] at h
    unfold e_ev at e
    split at e
    · exact fx_ev hK a M r h.1 e
    · simp only [Option.bind_eq_some_iff] at e
      obtain ⟨x, hx, e⟩ := e
      have p := fx_ev hK a M x h.1 hx
      split at e
      · rename_i h5
        have h2 := h.2
        rw [if_pos h5] at h2
        simp only [Option.bind_eq_some_iff] at e
        obtain ⟨y, hy, e⟩ := e
        cases e
        exact fx_tr p (hK _ _ _ _ h2 hy)
      · simp only [Option.bind_eq_some_iff] at e
        obtain ⟨y, hy, e⟩ := e
        cases e
        exact p
  | .mulR a k, M, r, h, e => by
    simp only [fz_e] at h
    simp only [e_ev, Option.bind_eq_some_iff] at e
    obtain ⟨x, hx, y, hy, e⟩ := e
    cases e
    exact fx_ev hK a M x h hx
  | .sub c (.add a b), M, r, h, e => by
    simp only [fz_e, Bool.and_eq_true] at h
    simp only [e_ev, Option.bind_eq_some_iff] at e
    obtain ⟨x, hx, e⟩ := e
    have p := fx_ev hK c M x h.1.1 hx
    split at e
    · exact fx_tr p (fx_ev hK b _ r h.2 e)
    · exact fx_tr p (fx_ev hK a _ r h.1.2 e)
  | .sub c (.num _), M, r, _, e => by simp [e_ev] at e
  | .sub c (.var _), M, r, _, e => by simp [e_ev] at e
  | .sub c (.sub _ _), M, r, _, e => by simp [e_ev] at e
  | .sub c (.neg _), M, r, _, e => by simp [e_ev] at e
  | .sub c (.mulL _ _), M, r, _, e => by simp [e_ev] at e
  | .sub c (.mulR _ _), M, r, _, e => by simp [e_ev] at e
  | .neg _, M, r, _, e => by simp [e_ev] at e
theorem fx_sv (hK : ∀ u as M r, fz_S S u = true → K u as M = some r → fx_P B M r.2) {s : e_X} {L : List Int} {M : EM} {r : List Int × EM} (h : fz_s S B s = true) (e : e_sv K s L M = some r) : fx_P B M r.2 := by
  unfold e_sv at e
  split at e
  · rename_i k x
    unfold fz_s at h
    simp only [Bool.and_eq_true] at h
    obtain ⟨h1, h2⟩ := h
    have h0 : fz_e S x = true := by
      unfold fz_e at h1
      exact (Bool.and_eq_true _ _ ▸ h1).1
    try dsimp only at e
    split at e
    · obtain ⟨y, hy, e⟩ := Option.bind_eq_some_iff.mp e
      obtain ⟨z, hz, e⟩ := Option.bind_eq_some_iff.mp e
      cases e
      exact fx_tr (fx_ev hK _ _ _ h0 hy) (fx_st (Or.inl rfl) hz)
    split at e
    · obtain ⟨y, hy, e⟩ := Option.bind_eq_some_iff.mp e
      obtain ⟨z, hz, e⟩ := Option.bind_eq_some_iff.mp e
      cases e
      exact fx_tr (fx_ev hK _ _ _ h0 hy) (fx_st (Or.inr rfl) hz)
    split at e
    · obtain ⟨y, hy, e⟩ := Option.bind_eq_some_iff.mp e
      obtain ⟨z, hz, e⟩ := Option.bind_eq_some_iff.mp e
      cases e
      exact fx_tr (fx_ev hK _ _ _ h0 hy) (fx_cp hz)
    split at e
    · rename_i k67
      rw [if_pos k67] at h2
      split at e
      · rename_i o y key
        try dsimp only at h2
        simp only [Bool.and_eq_true, Bool.not_eq_true'] at h2
        try dsimp only at e
        simp only [Option.bind_eq_some_iff] at e
        obtain ⟨y1, hy, u, hu, q, hq, z, hz, w, hw, e⟩ := e
        cases e
        exact fx_tr (fx_ev hK _ _ _ h2.1.1 hy) (fx_tr (fx_ev hK _ _ _ h2.1.2 hq) (fx_pf h2.2 hw))
      · cases e
    rename_i k67
    rw [if_neg k67] at h2
    split at e
    · rename_i k68
      rw [if_pos k68] at h2
      split at e
      · rename_i ai y
        try dsimp only at h2
        simp only [Bool.and_eq_true] at h2
        try dsimp only at e
        simp only [Option.bind_eq_some_iff] at e
        obtain ⟨y1, hy, u, hu, q, hq, z, hz, w, hw, e⟩ := e
        cases e
        exact fx_tr (fx_ev hK _ _ _ h2.1 hy) (fx_tr (fx_ev hK _ _ _ h2.2 hq) (fx_st (Or.inl rfl) hw))
      · cases e
    split at e
    · obtain ⟨y, hy, e⟩ := Option.bind_eq_some_iff.mp e
      cases e
      exact (fx_ev hK _ _ _ h0 hy : fx_P B M y.2)
    split at e
    · split at e
      · cases e
        exact fx_rf
      · cases e
    split at e
    · obtain ⟨y, hy, e⟩ := Option.bind_eq_some_iff.mp e
      cases e
      exact (fx_ev hK _ _ _ h1 hy : fx_P B M y.2)
    · cases e
  · rename_i x key
    unfold fz_s at h
    simp only [Bool.and_eq_true, Bool.not_eq_true'] at h
    try dsimp only at e
    obtain ⟨y, hy, e⟩ := Option.bind_eq_some_iff.mp e
    obtain ⟨z, hz, e⟩ := Option.bind_eq_some_iff.mp e
    cases e
    exact fx_tr (fx_ev hK _ _ _ h.1 hy) (fx_pf h.2 hz)
  · cases e

variable {T U : e_X → Bool} {gf : Bool}
theorem fx_tv (hK : ∀ u as M r, fz_S S u = true → K u as M = some r → fx_P B M r.2) (hT : ∀ s L M r, T s = true → e_sv K s L M = some r → fx_F B r.2) (hJ : ∀ pc L M r, (gf = true → fx_F B M) → J pc L M = some r → fx_F B r.2) : ∀ (k : Nat) (t : e_X), SizeOf.sizeOf t ≤ k → ∀ (st : Bool) (L : List Int) (M : EM) (r : Int × EM), (st = true → fx_F B M) → fx_t T U S B gf st t = true → e_tv K J t L M = some r → fx_F B r.2 := by
  intro k
  induction k with
  | zero => intro t ht; cases t <;> simp at ht
  | succ k ih =>
    intro t ht st L M r hF h e
    unfold e_tv at e
    split at e
    · rename_i k1 x
      simp at ht
      unfold fx_t at h
      try dsimp only at e
      split at e
      · rename_i h0
        rw [if_pos h0] at h
        exact ih x (by omega) st L M r hF h e
      rename_i h0
      rw [if_neg h0] at h
      split at e
      · rename_i h1
        rw [if_neg (by omega), Bool.and_eq_true] at h
        obtain ⟨y, hy, e⟩ := Option.bind_eq_some_iff.mp e
        cases e
        exact fx_ev hK _ _ _ h.2 hy (hF h.1)
      split at e
      · rename_i h1 h2
        rw [if_neg (by omega), Bool.and_eq_true] at h
        cases e
        exact hF h.1
      split at e
      · rename_i h1 h2 h3
        rw [if_neg (by omega), Bool.and_eq_true] at h
        obtain ⟨y, hy, e⟩ := Option.bind_eq_some_iff.mp e
        cases e
        intro k hk
        have c5 : ∀ x, (e_up M 5 0 x) 192 k = M 192 k := fun x => c_up_n (by omega)
        exact (c5 (M 5 0 + 1)).trans (hF h.1 k hk)
      split at e
      · rename_i h1 h2 h3 h4
        rw [if_pos h4, Bool.and_eq_true, Bool.or_eq_true] at h
        obtain ⟨y, hy, e⟩ := Option.bind_eq_some_iff.mp e
        refine hJ _ _ _ _ (fun g => ?_) e
        rcases h.1 with c | c
        · exact hF c
        · rw [g] at c; cases c
      · cases e
    · rename_i c a b
      simp at ht
      simp only [fx_t, Bool.and_eq_true] at h
      try dsimp only at e
      obtain ⟨y, hy, e⟩ := Option.bind_eq_some_iff.mp e
      have p := fx_ev hK _ _ _ h.1.1 hy
      split at e
      · exact ih b (by omega) st _ _ _ (fun g => p (hF g)) h.2 e
      · exact ih a (by omega) st _ _ _ (fun g => p (hF g)) h.1.2 e
    · rename_i s t
      simp at ht
      simp only [fx_t] at h
      try dsimp only at e
      obtain ⟨y, hy, e⟩ := Option.bind_eq_some_iff.mp e
      split at h
      · rename_i hs
        exact ih t (by omega) true _ _ _ (fun _ => hT _ _ _ _ hs hy) h e
      · split at h
        · exact ih t (by omega) false _ _ _ (fun g => by cases g) h e
        · rw [Bool.and_eq_true] at h
          have p := fx_sv hK h.1 hy
          exact ih t (by omega) st _ _ _ (fun g => p (hF g)) h.2 e
    · rename_i x lo cs kk
      simp only [fx_t, Bool.and_eq_true, Bool.or_eq_true] at h
      try dsimp only at e
      obtain ⟨y, hy, e⟩ := Option.bind_eq_some_iff.mp e
      have p := fx_ev hK _ _ _ h.2 hy
      refine hJ _ _ _ _ (fun g => ?_) e
      rcases h.1 with c | c
      · exact p (hF c)
      · rw [g] at c; cases c
    · cases h
    · cases e
def fx_ok (T U : e_X → Bool) (S B : List Nat) (gf : Bool) (v : Nat) : Bool := ((e_prog.getD (v / 16) []).getD (v % 16) []).all (fun x => fx_t T U S B gf gf x.2.2)
theorem fx_tree {v : Nat} (h : fx_ok T U S B gf v = true) (pc : Nat) : fx_t T U S B gf gf (e_tr v pc) = true := by
  unfold e_tr
  cases hl : e_lb v pc with
  | none => cases gf <;> rfl
  | some q => exact List.all_eq_true.mp h _ (q_find_mem hl)
theorem fx_call {v : Nat} (h : fx_ok T U S B gf v = true) (hS : ∀ u as M r, fz_S S u = true → E_C u as M = some r → fx_P B M r.2) (hT : ∀ K : Nat → List Int → EM → EO, (∀ u as M r, K u as M = some r → E_C u as M = some r) → ∀ s L M r, T s = true → e_sv K s L M = some r → fx_F B r.2) {as : List Int} {M : EM} {r : Int × EM} (e : E_C v as M = some r) (hF : gf = true → fx_F B M) : fx_F B r.2 := by
  have run : ∀ (n pc : Nat) (L : List Int) (M : EM) (r : Int × EM), (gf = true → fx_F B M) → e_run n v pc L M = some r → fx_F B r.2 := by
    intro n
    induction n with
    | zero => intro pc L M r _ e; cases e
    | succ n ih =>
      intro pc L M r hF e
      rw [e_run] at e
      have hE : ∀ u as M (r : Int × EM), (if e_rok u as = true then e_run n u 0 (e_pad u as) M else none) = some r → E_C u as M = some r := fun u as M r h' => by
        split at h'
        · rename_i hr
          exact (if_pos hr).trans (E_V_of h')
        · cases h'
      exact fx_tv (fun u as M' r' hu h' => hS u as M' r' hu (hE u as M' r' h')) (fun s L M r h1 h2 => hT _ hE s L M r h1 h2) (fun pc' L' M' r' hF' h' => ih _ _ _ _ hF' h') _ _ (Nat.le_refl _) gf L M r hF (fx_tree h pc) e
  unfold E_C at e
  split at e
  · obtain ⟨n, hn⟩ := E_V_ex e
    exact run n 0 _ M _ hF (hn n (Nat.le_refl _))
  · cases e
end FX
theorem fx_192 {a : Int} (h : e_isO 12 a) : a = 192 := by
  have h2 : ∀ i : Fin 214, (e_sh i.val).1 = 12 → i.val = 192 := by decide +kernel
  obtain ⟨h8, hN, hs⟩ := h
  have hN : a.toNat < 214 := hN
  have := h2 ⟨a.toNat, hN⟩ hs
  have : a.toNat = 192 := this
  omega
theorem fx_A {B : List Nat} (hB : ∀ k ∈ B, k ∈ [22, 23, 24]) {u : Nat} {as : List Int} {M : EM} {r : Int × EM} (hu : fz_S fz_A u = true) (e : E_C u as M = some r) : fx_P B M r.2 := fx_of (fun k hk => fz_call fz_A_ok hu e k (hB k hk))
/-- nothing breaks, nothing mends -/
def fx_0 (_ : e_X) : Bool := false
def fx_T5 : e_X → Bool
  | .mulR (.add (.var 0) (.num 0)) key => decide (key = 790)
  | _ => false
def fx_U5 : e_X → Bool
  | .mulR _ key => decide (key = 790)
  | _ => false
theorem fx_245_ok : fx_ok fx_T5 fx_U5 fz_A [22] false 245 = true := by decide +kernel
theorem fx_245 {as : List Int} {M : EM} {r : Int × EM} (e : E_C 245 as M = some r) : fx_F [22] r.2 := by
  refine fx_call fx_245_ok (fun u as M r hu e => fx_A (by decide) hu e) (fun K _ s L M r hs e => ?_) e (fun g => by cases g)
  unfold fx_T5 at hs
  split at hs
  · have hk := of_decide_eq_true hs
    subst hk
    simp only [e_sv, e_ev, Option.bind_eq_some_iff] at e
    obtain ⟨x, hx, M', hM, e⟩ := e
    cases e
    obtain ⟨y, hy, z, hz, hx⟩ := hx
    cases hy
    cases hz
    cases hx
    unfold e_pf at hM
    simp only [List.singleton_append] at hM
    split at hM
    · rename_i hc
      cases hM
      have h192 := fx_192 (show e_isO 12 _ from hc.1)
      intro k hk
      have : k = 22 := by simpa using hk
      subst this
      rw [h192]
      show (e_up M 192 22 0) 192 22 = 0
      exact c_up_s
    · cases hM
  · cases hs
def fx_S5 : List Nat := fz_A ++ [245]
theorem fx_app {S : List Nat} {X : List Nat} {u : Nat} (h : fz_S (S ++ X) u = true) : fz_S S u = true ∨ u ∈ X := by
  unfold fz_S at h
  rw [List.any_append, Bool.or_eq_true] at h
  rcases h with h | h
  · exact Or.inl h
  · obtain ⟨w, hw, hb⟩ := List.any_eq_true.mp h
    exact Or.inr (Nat.eq_of_beq_eq_true hb ▸ hw)
theorem fx_246_ok : fx_ok fx_0 fx_0 fx_S5 [22] true 246 = true := by decide +kernel
theorem fx_247_ok : fx_ok fx_0 fx_0 fx_S5 [22] true 247 = true := by decide +kernel
theorem fx_S5K (u : Nat) (as : List Int) (M : EM) (r : Int × EM) (hu : fz_S fx_S5 u = true) (e : E_C u as M = some r) : fx_P [22] M r.2 := by
  rcases fx_app hu with h | h
  · exact fx_A (by decide) h e
  · have : u = 245 := by simpa using h
    subst this
    exact fun _ => fx_245 e
/-- noFault -/
theorem fx_250 {as : List Int} {M : EM} {r : Int × EM} (e : E_C 250 as M = some r) : fx_F [23, 24] r.2 := by
  unfold E_C at e
  split at e
  · rename_i hr
    have h0 : as.getD 0 0 = 192 := by
      unfold e_rok at hr
      rw [show q_rc (e_vm 250) = some 12 from by decide +kernel] at hr
      exact fx_192 (of_decide_eq_true hr)
    have ep : E_V 250 0 [192] M = some r := by
      match as, h0 with
      | [], h0 => cases h0
      | [a], h0 =>
        have h0 : a = 192 := h0
        subst h0
        exact e
      | a :: p :: t, h0 =>
        have h0 : a = 192 := h0
        subst h0
        exact e
    have ev : E_V 250 0 [192] M = some (0, e_up (e_up M 192 23 (-1)) 192 24 (-1)) := by
      rw [E_V_eq]
      show e_tv E_C (E_V 250) e_t250_0 [192] M = _
      unfold e_t250_0
      simp [zq_a, zq_b, zq_c, zq_d, zq_e, zq_f, zq_g, zq_h, zq_i, zq_j, zq_k, zq_l, zq_m, zq_n, zq_o, zq_p, zq_q, zq_r, zq_s, zq_t, zq_u, zq_v, zq_w, zq_x, zq_y, zq_z, zq_A, zq_B, zq_C, zq_D, zq_E, zq_F, zq_G, zq_H, zq_I, zq_J, zq_K, zq_L, ↓zq_M, ↓zq_N, ↓zq_O, ↓zq_P, ↓zq_Q, ↓zq_R, zq_S, zq_T, zq_U, zq_V, zq_W, zq_X, zq_Y, zq_Z, zq_0, zq_1, zq_2, zq_3, zq_4, zq_5, ↓zq_6, ↓zq_7, ↓zq_8, ↓zq_9, ↓zq_aa, zq_ab, zq_ac, zq_ad, zq_ae, zq_af, zq_ag, ↓zq_ah, ↓zq_ai, ↓zq_aj, zq_ak, ↓zq_al, ↓zq_am, e_b1, e_b2, x_o1, x_o2, r_F9, r_F10, r_F13, r_F14, r_F15, r_F16, r_F17, r_F18, r_F20, r_F21, r_F22, r_F23, r_F24, r_F27, r_F28, r_F29, r_F30, r_F33, r_F34, r_F35, r_P9, r_P10, r_P13, r_P14, r_P15, r_P16, r_P17, r_P18, r_P20, r_P21, r_P22, r_P23, r_P24, r_P27, r_P28, r_P29, r_P30, r_P33, r_P34, r_P35, r_O0, r_O1, r_O2, r_O3, r_O4, r_O5, r_O6, r_O7, r_O8, r_O11, r_O12, r_O19, r_O25, r_O26, r_O31, r_O32, r_O36, r_O37, r_O38, r_O39]
    rw [ev] at ep
    cases ep
    intro k hk
    have : k = 23 ∨ k = 24 := by simpa using hk
    rcases this with rfl | rfl
    · show (e_up (e_up M 192 23 (-1)) 192 24 (-1)) 192 23 = -1
      exact (c_up_n (by omega)).trans c_up_s
    · show (e_up (e_up M 192 23 (-1)) 192 24 (-1)) 192 24 = -1
      exact c_up_s
  · cases e
def fx_T6 : e_X → Bool
  | .mulL k _ => decide (k = 5250)
  | _ => false
def fx_U6 : e_X → Bool
  | .mulL k _ => decide (k = 5249)
  | _ => false
theorem fx_T6_ok (K : Nat → List Int → EM → EO) (hK : ∀ u as M r, K u as M = some r → E_C u as M = some r) (s : e_X) (L : List Int) (M : EM) (r : List Int × EM) (hs : fx_T6 s = true) (e : e_sv K s L M = some r) : fx_F [23, 24] r.2 := by
  unfold fx_T6 at hs
  split at hs
  · rename_i k x
    have hk := of_decide_eq_true hs
    subst hk
    have e2 : (e_ev K L (.mulL 5250 x) M).bind (fun r => some (L, r.2)) = some r := e
    obtain ⟨y, hy, e3⟩ := Option.bind_eq_some_iff.mp e2
    cases e3
    have hy2 : (e_ev K L x M).bind (fun r => (K 250 r.1 r.2).bind fun q => some ([q.1], q.2)) = some y := hy
    obtain ⟨w, hw, hy3⟩ := Option.bind_eq_some_iff.mp hy2
    obtain ⟨q, hq, hy4⟩ := Option.bind_eq_some_iff.mp hy3
    cases hy4
    exact fx_250 (hK _ _ _ _ hq)
  · cases hs
theorem fx_252_ok : fx_ok fx_T6 fx_U6 fz_A [23, 24] false 252 = true := by decide +kernel
theorem fx_252 {as : List Int} {M : EM} {r : Int × EM} (e : E_C 252 as M = some r) : fx_F [23, 24] r.2 := fx_call fx_252_ok (fun _ _ _ _ hu e => fx_A (by decide) hu e) (fun K hK s L M r hs e => fx_T6_ok K hK s L M r hs e) e (fun g => by cases g)
def fx_S6 : List Nat := (fz_A ++ [251]) ++ [252]
theorem fx_251_ok : fz_ok (fz_A ++ [251]) [22, 23, 24] = true := by decide +kernel
theorem fx_S6K (u : Nat) (as : List Int) (M : EM) (r : Int × EM) (hu : fz_S fx_S6 u = true) (e : E_C u as M = some r) : fx_P [23, 24] M r.2 := by
  rcases fx_app hu with h | h
  · exact fx_of (fun k hk => fz_call fx_251_ok h e k ((by decide : ∀ k ∈ [23, 24], k ∈ [22, 23, 24]) k hk))
  · have : u = 252 := by simpa using h
    subst this
    exact fun _ => fx_252 e
theorem fx_253_ok : fx_ok fx_T6 fx_U6 fx_S6 [23, 24] true 253 = true := by decide +kernel
theorem fx_254_ok : fx_ok fx_T6 fx_U6 fx_S6 [23, 24] true 254 = true := by decide +kernel
/-- without, loss: the CAUSES off are put back -/
theorem rx_Kw {u : Nat} {as : List Int} {M M' : EM} {r : Int} (hu : u = 246 ∨ u = 247) (e : E_C u as M = some (r, M')) (hK : rx_K M) : rx_K M' := by
  obtain ⟨k1, k2, k3⟩ := hK
  have hF : fx_F [22] M := fun k hk => by
    have : k = 22 := by simpa using hk
    subst this
    exact k1
  have a : fx_F [22] M' := by
    rcases hu with rfl | rfl
    · exact fx_call fx_246_ok fx_S5K (fun K _ s L M r hs _ => by cases hs) e (fun _ => hF)
    · exact fx_call fx_247_ok fx_S5K (fun K _ s L M r hs _ => by cases hs) e (fun _ => hF)
  have p : fz_P [23, 24] M M' := by
    rcases hu with rfl | rfl
    · exact fz_call fz_W_ok (by decide) e
    · exact fz_call fz_W_ok (by decide) e
  exact ⟨a 22 (by decide), (p 23 (by decide)).trans k2, (p 24 (by decide)).trans k3⟩
/-- fits, look: no FAULT stays -/
theorem rx_Kf {u : Nat} {as : List Int} {M M' : EM} {r : Int} (hu : u = 253 ∨ u = 254) (e : E_C u as M = some (r, M')) (hK : rx_K M) : rx_K M' := by
  obtain ⟨k1, k2, k3⟩ := hK
  have hF : fx_F [23, 24] M := fun k hk => by
    have : k = 23 ∨ k = 24 := by simpa using hk
    rcases this with rfl | rfl
    · exact k2
    · exact k3
  have a : fx_F [23, 24] M' := by
    rcases hu with rfl | rfl
    · exact fx_call fx_253_ok fx_S6K (fun K hK s L M r hs e => fx_T6_ok K hK s L M r hs e) e (fun _ => hF)
    · exact fx_call fx_254_ok fx_S6K (fun K hK s L M r hs e => fx_T6_ok K hK s L M r hs e) e (fun _ => hF)
  have p : fz_P [22] M M' := by
    rcases hu with rfl | rfl
    · exact fz_call fz_F_ok (by decide) e
    · exact fz_call fz_F_ok (by decide) e
  exact ⟨(p 22 (by decide)).trans k1, a 23 (by decide), a 24 (by decide)⟩
end
section
/-! all that level D relates, and its keepers -/
def h_Z (M : EM) : Prop := hd_D M 0 (r_G M) ∧ hd_D M 68 (r_Gi M) ∧ rx_K M ∧ M 171 0 = 0
def h_RD (M : EM) : Prop := h_RC M ∧ h_Z M
theorem hd_K1 {M M1 : EM} (g : ∀ id i, 192 ≤ id → M1 id i = M id i) (hK : rx_K M) : rx_K M1 := ⟨(g 192 22 (by decide)).trans hK.1, (g 192 23 (by decide)).trans hK.2.1, (g 192 24 (by decide)).trans hK.2.2⟩
theorem hd_0 {W : AW} {M M' : EM} (h : h_av [(171, 0, 0)] W = true) (hf : a_fr W M M') (h0 : M 171 0 = 0) : M' 171 0 = 0 := (h_av_ok h hf (171, 0, 0) List.mem_cons_self 0 (by decide) (by decide)).trans h0
/-- a text taken keeps members and CURVES -/
theorem hd_text {d r1 r2 : Int} {M M1 M2 : EM} (hJ : r_J M) (hB : h_B M 0 (r_G M)) (hD : hd_D M 0 (r_G M)) (hS : h_S M) (h0 : M 165 0 = 0) (k1 : E_C 104 [8, d] M = some (r1, M1)) (J1 : r_J M1) (hfr : ∀ id i, 192 ≤ id → M1 id i = M id i) (k2 : E_C 190 [192, d] M1 = some (r2, M2)) : hd_D M2 0 (r_G M2) := (h_text3 (Q := fun M g => hd_D M 0 g) hd_D_qs hd_D_qc hJ hB hD hS h0 k1 J1 hfr k2).2.2.1
theorem hd_Rall {M : EM} (hR : h_R M) (hQ : h_Q M) (hZ : h_Z M) : hd_all M := ⟨hR.2.1, hQ.2.1, hZ.1, hZ.2.2.2⟩
theorem hd_KW {W : AW} {M M' : EM} (h : h_av [(192, 22, 24)] W = true) (hf : a_fr W M M') (hK : rx_K M) : rx_K M' := by
  have a := h_av_ok h hf (192, 22, 24) List.mem_cons_self
  exact ⟨(a 22 (by decide) (by decide)).trans hK.1, (a 23 (by decide) (by decide)).trans hK.2.1, (a 24 (by decide) (by decide)).trans hK.2.2⟩
theorem hd_dz {M M1 : EM} (hfr : ∀ i, M1 193 i = M 193 i) (hC : h_C M 0 (r_G M)) : ∀ q : Nat, (q : Int) < r_G M1 1198 → r_G M1 (28 * (q : Int)) = 0 → r_G M1 (28 * (q : Int) + 19) = 0 ∨ r_G M1 (28 * (q : Int) + 19) = 1 := by
  have eG : r_G M1 = r_G M := funext fun i => hfr _
  rw [eG]
  intro q h1 h2
  exact (hd_cs_of hC (q : Int) (by omega) h1 h2).2
end
section
/-! PARTING: counting; the class's bench -/
def pt_s (v : Nat → Nat → Int) (b : Nat) : Nat → Nat → Int
  | 0, _ => 0
  | k + 1, c => pt_s v b k c + (if b / 2 ^ k % 2 = 1 then v k c else 0)
theorem pt_s_1 {v : Nat → Nat → Int} {b k c : Nat} (h : b / 2 ^ k % 2 = 1) : pt_s v b (k + 1) c = pt_s v b k c + v k c := by
  show pt_s v b k c + (if b / 2 ^ k % 2 = 1 then v k c else 0) = _
  rw [if_pos h]
theorem pt_s_0 {v : Nat → Nat → Int} {b k c : Nat} (h : ¬ b / 2 ^ k % 2 = 1) : pt_s v b (k + 1) c = pt_s v b k c := by
  show pt_s v b k c + (if b / 2 ^ k % 2 = 1 then v k c else 0) = _
  rw [if_neg h, Int.add_zero]
theorem pt_s_bd {v : Nat → Nat → Int} {b c : Nat} : ∀ k, (∀ j, j < k → -60 ≤ v j c ∧ v j c ≤ 60) → -60 * (k : Int) ≤ pt_s v b k c ∧ pt_s v b k c ≤ 60 * (k : Int) := by
  intro k
  induction k with
  | zero => intro _; exact ⟨by show -60 * ((0 : Nat) : Int) ≤ 0; decide, by show (0 : Int) ≤ 60 * ((0 : Nat) : Int); decide⟩
  | succ k ih =>
    intro h
    have a := ih (fun j hj => h j (by omega))
    have d := h k (by omega)
    by_cases e : b / 2 ^ k % 2 = 1
    · rw [pt_s_1 e]; omega
    · rw [pt_s_0 e]; omega
theorem pt_s_fall {v : Nat → Nat → Int} {b c : Nat} : ∀ k, (∀ j, j < k → v j (c + 1) ≤ v j c) → pt_s v b k (c + 1) ≤ pt_s v b k c := by
  intro k
  induction k with
  | zero => intro _; exact Int.le_refl _
  | succ k ih =>
    intro h
    have a := ih (fun j hj => h j (by omega))
    have d := h k (by omega)
    by_cases e : b / 2 ^ k % 2 = 1
    · rw [pt_s_1 e, pt_s_1 e]; omega
    · rw [pt_s_0 e, pt_s_0 e]; exact a
def pt_u (v : Nat → Nat → Int) (n b : Nat) (u : Int) : Int := (cu_cu (fun c => pt_s v b n c) u 99 : Int) + (cu_cu (fun c => pt_s v (2 ^ n - 1 - b) n c) u 99 : Int)
def pt_B (v : Nat → Nat → Int) (n b : Nat) : Nat := cu_b (fun u => pt_u v n b (u : Int)) 500
def pt_P (v : Nat → Nat → Int) (n b : Nat) : Int := (pt_B v n b : Int) * pt_u v n b (pt_B v n b : Int)
theorem pt_u_bd {v : Nat → Nat → Int} {n b : Nat} {u : Int} : 0 ≤ pt_u v n b u ∧ pt_u v n b u ≤ 198 := by
  have a : cu_cu (fun c => pt_s v b n c) u 99 ≤ 99 := cu_cu_le 99
  have c : cu_cu (fun c => pt_s v (2 ^ n - 1 - b) n c) u 99 ≤ 99 := cu_cu_le 99
  unfold pt_u
  omega
theorem pt_P_bd {v : Nat → Nat → Int} {n b : Nat} : e_w (pt_P v n b) = pt_P v n b ∧ 0 ≤ pt_P v n b ∧ pt_P v n b ≤ 1000000 := by
  have l : pt_B v n b ≤ 500 := cu_b_le _
  have s := pt_u_bd (v := v) (n := n) (b := b) (u := (pt_B v n b : Int))
  exact bx_pw ⟨by omega, by omega⟩ ⟨s.1, by omega⟩
/-- the first of the best -/
def pt_b (P : Nat → Int) : Nat → Int × Nat
  | 0 => (-1, 0)
  | j + 1 => if (pt_b P j).1 < P (2 * (j + 1)) then (P (2 * (j + 1)), 2 * (j + 1)) else pt_b P j
theorem pt_b_1 {P : Nat → Int} {j : Nat} (h : (pt_b P j).1 < P (2 * (j + 1))) : pt_b P (j + 1) = (P (2 * (j + 1)), 2 * (j + 1)) := if_pos h
theorem pt_b_0 {P : Nat → Int} {j : Nat} (h : ¬ (pt_b P j).1 < P (2 * (j + 1))) : pt_b P (j + 1) = pt_b P j := if_neg h
theorem pt_bit : ∀ b : Nat, b < 256 → ∀ k : Nat, k < 8 → e_bit (fun x y => x &&& y) (e_bit (fun x y => x >>> (y &&& 31)) (b : Int) (k : Int)) 1 = if b / 2 ^ k % 2 = 1 then 1 else 0 := by decide +kernel
theorem pt_shl : ∀ n : Nat, n < 9 → e_bit (fun x y => x <<< (y &&& 31)) 1 (n : Int) = ((2 ^ n : Nat) : Int) := by decide +kernel
theorem pt_not : ∀ n : Nat, n < 9 → ∀ b : Nat, b < 2 ^ n → e_bit (fun x y => x &&& y) (((2 ^ n : Nat) : Int) - 1) (e_bit (fun x y => x ^^^ y) (b : Int) (-1)) = ((2 ^ n - 1 - b : Nat) : Int) := by decide +kernel
theorem pt_2n : ∀ n : Nat, n < 9 → 2 ≤ n → 4 ≤ 2 ^ n ∧ 2 ^ n ≤ 256 ∧ 2 * ((2 ^ n - 1) / 2) + 2 = 2 ^ n := by decide +kernel
/-- what the class needs of the bench -/
def pt_K (v : Nat → Nat → Int) (n : Nat) (B : EM) : Prop := B 170 0 = n ∧ ∀ j c : Nat, j < n → c < 100 → B 179 (40 * c + j) = v j c
def pt_v (v : Nat → Nat → Int) (n : Nat) : Prop := (∀ j c, j < n → c < 100 → -60 ≤ v j c ∧ v j c ≤ 60) ∧ ∀ j c, j < n → c < 99 → v j (c + 1) ≤ v j c
section PT
variable {v : Nat → Nat → Int} {n : Nat}
theorem pt_13 {b c : Nat} {bI x2 : Int} {B : EM} (hn8 : n ≤ 8) (hb : bI = b) (hb8 : b < 256) (hc : x2 = c) (hc9 : c < 100) (hK : pt_K v n B) (hv : pt_v v n) : ∀ (t j : Nat) (x3 x4 : Int), x4 = j → j + t = n → x3 = pt_s v b j c → ∃ y4, E_V 28 13 [170, bI, x2, x3, x4] B = E_V 28 2 [170, bI, x2 + 1, pt_s v b n c, y4] (e_up B 180 c (pt_s v b n c)) := by
  intro t
  induction t with
  | zero =>
    intro j x3 x4 h4 hj h3
    have e : j = n := by omega
    subst e
    refine ⟨x4, ?_⟩
    rw [← h3]
    have k0 : B 170 0 = (j : Int) := hK.1
    have q : ¬ (x4 < (j : Int)) := by omega
    have l : E_C 147 [180, x2, x3] B = some (0, e_up B 180 c x3) := w_layN (a := 180) (n := 100) (by decide +kernel) (j := c) hc hc9 _ B
    have w1 : e_w (x2 + 1) = x2 + 1 := a_w_id (by omega) (by omega)
    clear hK hv h3
    generalize (j : Int) = nn at *
    rw [E_V_eq]
    show e_tv E_C (E_V 28) e_t28_13 [170, bI, x2, x3, x4] B = _
    unfold e_t28_13
    simp [zq_a, zq_b, zq_c, zq_d, zq_e, zq_f, zq_g, zq_h, zq_i, zq_j, zq_k, zq_l, zq_m, zq_n, zq_o, zq_p, zq_q, zq_r, zq_s, zq_t, zq_u, zq_v, zq_w, zq_x, zq_y, zq_z, zq_A, zq_B, zq_C, zq_D, zq_E, zq_F, zq_G, zq_H, zq_I, zq_J, zq_K, zq_L, ↓zq_M, ↓zq_N, ↓zq_O, ↓zq_P, ↓zq_Q, ↓zq_R, zq_S, zq_T, zq_U, zq_V, zq_W, zq_X, zq_Y, zq_Z, zq_0, zq_1, zq_2, zq_3, zq_4, zq_5, ↓zq_6, ↓zq_7, ↓zq_8, ↓zq_9, ↓zq_aa, zq_ab, zq_ac, zq_ad, zq_ae, zq_af, zq_ag, ↓zq_ah, ↓zq_ai, ↓zq_aj, zq_ak, ↓zq_al, ↓zq_am, e_b1, e_b2, x_o1, x_o2, bx_F0, bx_Gh, k0, q, l, w1]
  | succ t ih =>
    intro j x3 x4 h4 hj h3
    have k0 : B 170 0 = (n : Int) := hK.1
    have q : x4 < (n : Int) := by omega
    have tb : E_C 146 [179, x2 * 40 + x4] B = some (v j c, B) := (w_atN (a := 179) (n := 4040) (by decide +kernel) (j := 40 * c + j) (by omega) (by omega) B).trans (by rw [show (179 : Int).toNat = 179 from rfl, hK.2 j c (by omega) hc9])
    have bt := pt_bit b hb8 j (by omega)
    rw [← hb, ← h4] at bt
    have sb := pt_s_bd (v := v) (b := b) (c := c) j (fun i hi => hv.1 i c (by omega) hc9)
    have vb := hv.1 j c (by omega) hc9
    have w1 : e_w (x2 * 40) = x2 * 40 := a_w_id (by omega) (by omega)
    have w2 : e_w (x2 * 40 + x4) = x2 * 40 + x4 := a_w_id (by omega) (by omega)
    have w3 : e_w (x4 + 1) = x4 + 1 := a_w_id (by omega) (by omega)
    by_cases c1 : b / 2 ^ j % 2 = 1
    · rw [if_pos c1] at bt
      obtain ⟨y4, k⟩ := ih (j + 1) (x3 + v j c) (x4 + 1) (by omega) (by omega) (by rw [pt_s_1 c1, h3])
      refine ⟨y4, ?_⟩
      rw [← k]
      have w4 : e_w (x3 + v j c) = x3 + v j c := a_w_id (by omega) (by omega)
      clear k ih hK hv h3 sb vb c1
      generalize (n : Int) = nn at *
      generalize v j c = z at *
      rw [E_V_eq]
      show e_tv E_C (E_V 28) e_t28_13 [170, bI, x2, x3, x4] B = _
      unfold e_t28_13
      simp [zq_a, zq_b, zq_c, zq_d, zq_e, zq_f, zq_g, zq_h, zq_i, zq_j, zq_k, zq_l, zq_m, zq_n, zq_o, zq_p, zq_q, zq_r, zq_s, zq_t, zq_u, zq_v, zq_w, zq_x, zq_y, zq_z, zq_A, zq_B, zq_C, zq_D, zq_E, zq_F, zq_G, zq_H, zq_I, zq_J, zq_K, zq_L, ↓zq_M, ↓zq_N, ↓zq_O, ↓zq_P, ↓zq_Q, ↓zq_R, zq_S, zq_T, zq_U, zq_V, zq_W, zq_X, zq_Y, zq_Z, zq_0, zq_1, zq_2, zq_3, zq_4, zq_5, ↓zq_6, ↓zq_7, ↓zq_8, ↓zq_9, ↓zq_aa, zq_ab, zq_ac, zq_ad, zq_ae, zq_af, zq_ag, ↓zq_ah, ↓zq_ai, ↓zq_aj, zq_ak, ↓zq_al, ↓zq_am, e_b1, e_b2, x_o1, x_o2, bx_F0, bx_Gg, k0, q, bt, tb, w1, w2, w3, w4]
    · rw [if_neg c1] at bt
      obtain ⟨y4, k⟩ := ih (j + 1) x3 (x4 + 1) (by omega) (by omega) (by rw [pt_s_0 c1, h3])
      refine ⟨y4, ?_⟩
      rw [← k]
      have w4 : e_w x3 = x3 := a_w_id (by omega) (by omega)
      clear k ih hK hv h3 sb vb c1
      generalize (n : Int) = nn at *
      rw [E_V_eq]
      show e_tv E_C (E_V 28) e_t28_13 [170, bI, x2, x3, x4] B = _
      unfold e_t28_13
      simp [zq_a, zq_b, zq_c, zq_d, zq_e, zq_f, zq_g, zq_h, zq_i, zq_j, zq_k, zq_l, zq_m, zq_n, zq_o, zq_p, zq_q, zq_r, zq_s, zq_t, zq_u, zq_v, zq_w, zq_x, zq_y, zq_z, zq_A, zq_B, zq_C, zq_D, zq_E, zq_F, zq_G, zq_H, zq_I, zq_J, zq_K, zq_L, ↓zq_M, ↓zq_N, ↓zq_O, ↓zq_P, ↓zq_Q, ↓zq_R, zq_S, zq_T, zq_U, zq_V, zq_W, zq_X, zq_Y, zq_Z, zq_0, zq_1, zq_2, zq_3, zq_4, zq_5, ↓zq_6, ↓zq_7, ↓zq_8, ↓zq_9, ↓zq_aa, zq_ab, zq_ac, zq_ad, zq_ae, zq_af, zq_ag, ↓zq_ah, ↓zq_ai, ↓zq_aj, zq_ak, ↓zq_al, ↓zq_am, e_b1, e_b2, x_o1, x_o2, bx_F0, k0, q, bt, w3, w4]
theorem pt_28 {b : Nat} {bI : Int} {B : EM} (hn8 : n ≤ 8) (hb : bI = b) (hb8 : b < 256) (hK : pt_K v n B) (hv : pt_v v n) (h81 : ∀ k, k < 1000 → 0 ≤ B 181 k ∧ B 181 k ≤ 100000) : ∃ B', E_C 28 [170, bI] B = some (0, B') ∧ (∀ k : Nat, k < 501 → B' 181 k = B 181 k + (cu_cu (fun c => pt_s v b n c) (k : Int) 99 : Int)) ∧ (∀ k : Nat, 501 ≤ k → B' 181 k = B 181 k) ∧ ∀ id k, id ≠ 180 → id ≠ 181 → B' id k = B id k := by
  have lp : ∀ (t c : Nat) (x2 x3 x4 : Int) (J : EM), x2 = c → c + t = 100 → (∀ id k, id ≠ 180 → J id k = B id k) → (∀ c', c' < c → J 180 c' = pt_s v b n c') → ∃ B', E_V 28 2 [170, bI, x2, x3, x4] J = some (0, B') ∧ (∀ k : Nat, k < 501 → B' 181 k = B 181 k + (cu_cu (fun c => pt_s v b n c) (k : Int) 99 : Int)) ∧ (∀ k : Nat, 501 ≤ k → B' 181 k = B 181 k) ∧ ∀ id k, id ≠ 180 → id ≠ 181 → B' id k = B id k := by
    intro t
    induction t with
    | zero =>
      intro c x2 x3 x4 J h2 hc hf h80
      have e : c = 100 := by omega
      subst e
      obtain ⟨B', k, k1, k2⟩ := bx_18 (M := J) (f := fun c => pt_s v b n c) (lo := 0) (hi := 500) (n := 501) (by decide) (by decide) (by decide) (fun c hc => h80 c hc) (fun c hc => pt_s_fall n (fun j hj => hv.2 j c hj hc)) (fun k hk => by rw [hf _ _ (by decide)]; exact h81 k hk)
      refine ⟨B', ?_, fun k hk => ?_, fun k hk => (k2 _ _ (by omega)).trans (hf _ _ (by decide)), fun id k i1 i2 => (k2 _ _ (by omega)).trans (hf _ _ i1)⟩
      · have q : ¬ (x2 < 100) := by omega
        clear hf h80 k1 k2 hK hv h81
        rw [E_V_eq]
        show e_tv E_C (E_V 28) e_t28_2 [170, bI, x2, x3, x4] J = _
        unfold e_t28_2
        simp [zq_a, zq_b, zq_c, zq_d, zq_e, zq_f, zq_g, zq_h, zq_i, zq_j, zq_k, zq_l, zq_m, zq_n, zq_o, zq_p, zq_q, zq_r, zq_s, zq_t, zq_u, zq_v, zq_w, zq_x, zq_y, zq_z, zq_A, zq_B, zq_C, zq_D, zq_E, zq_F, zq_G, zq_H, zq_I, zq_J, zq_K, zq_L, ↓zq_M, ↓zq_N, ↓zq_O, ↓zq_P, ↓zq_Q, ↓zq_R, zq_S, zq_T, zq_U, zq_V, zq_W, zq_X, zq_Y, zq_Z, zq_0, zq_1, zq_2, zq_3, zq_4, zq_5, ↓zq_6, ↓zq_7, ↓zq_8, ↓zq_9, ↓zq_aa, zq_ab, zq_ac, zq_ad, zq_ae, zq_af, zq_ag, ↓zq_ah, ↓zq_ai, ↓zq_aj, zq_ak, ↓zq_al, ↓zq_am, e_b1, e_b2, x_o1, x_o2, q, k]
      · rw [k1 k hk, hf _ _ (by decide), Int.zero_add]
    | succ t ih =>
      intro c x2 x3 x4 J h2 hc hf h80
      obtain ⟨y4, k13⟩ := pt_13 (B := J) hn8 hb hb8 h2 (by omega) ⟨(hf _ _ (by decide)).trans hK.1, fun j c hj hc => (hf _ _ (by decide)).trans (hK.2 j c hj hc)⟩ hv n 0 0 0 rfl (by omega) rfl
      obtain ⟨B', k, kk⟩ := ih (c + 1) (x2 + 1) (pt_s v b n c) y4 (e_up J 180 c (pt_s v b n c)) (by omega) (by omega) (fun id k i => by rw [c_up_n (by omega)]; exact hf id k i) (fun c' hc' => by
        by_cases e : c' = c
        · rw [e, c_up_s]
        · rw [c_up_n (by omega)]
          exact h80 c' (by omega))
      refine ⟨B', ?_, kk⟩
      rw [← k, ← k13]
      have q : x2 < 100 := by omega
      clear k k13 kk ih hf h80 hK hv h81
      rw [E_V_eq]
      show e_tv E_C (E_V 28) e_t28_2 [170, bI, x2, x3, x4] J = _
      unfold e_t28_2
      simp [zq_a, zq_b, zq_c, zq_d, zq_e, zq_f, zq_g, zq_h, zq_i, zq_j, zq_k, zq_l, zq_m, zq_n, zq_o, zq_p, zq_q, zq_r, zq_s, zq_t, zq_u, zq_v, zq_w, zq_x, zq_y, zq_z, zq_A, zq_B, zq_C, zq_D, zq_E, zq_F, zq_G, zq_H, zq_I, zq_J, zq_K, zq_L, ↓zq_M, ↓zq_N, ↓zq_O, ↓zq_P, ↓zq_Q, ↓zq_R, zq_S, zq_T, zq_U, zq_V, zq_W, zq_X, zq_Y, zq_Z, zq_0, zq_1, zq_2, zq_3, zq_4, zq_5, ↓zq_6, ↓zq_7, ↓zq_8, ↓zq_9, ↓zq_aa, zq_ab, zq_ac, zq_ad, zq_ae, zq_af, zq_ag, ↓zq_ah, ↓zq_ai, ↓zq_aj, zq_ak, ↓zq_al, ↓zq_am, e_b1, e_b2, x_o1, x_o2, q]
  obtain ⟨B', k, kk⟩ := lp 100 0 0 0 0 B rfl rfl (fun _ _ _ => rfl) (fun c h => absurd h (Nat.not_lt_zero _))
  refine ⟨B', ?_, kk⟩
  rw [r_ent (show e_rok 28 [170, bI] = true from bx_r (M := B) rfl (by decide +kernel))]
  show e_tv E_C (E_V 28) e_t28_0 [170, bI, 0, 0, 0] B = _
  unfold e_t28_0
  simp [zq_a, zq_b, zq_c, zq_d, zq_e, zq_f, zq_g, zq_h, zq_i, zq_j, zq_k, zq_l, zq_m, zq_n, zq_o, zq_p, zq_q, zq_r, zq_s, zq_t, zq_u, zq_v, zq_w, zq_x, zq_y, zq_z, zq_A, zq_B, zq_C, zq_D, zq_E, zq_F, zq_G, zq_H, zq_I, zq_J, zq_K, zq_L, ↓zq_M, ↓zq_N, ↓zq_O, ↓zq_P, ↓zq_Q, ↓zq_R, zq_S, zq_T, zq_U, zq_V, zq_W, zq_X, zq_Y, zq_Z, zq_0, zq_1, zq_2, zq_3, zq_4, zq_5, ↓zq_6, ↓zq_7, ↓zq_8, ↓zq_9, ↓zq_aa, zq_ab, zq_ac, zq_ad, zq_ae, zq_af, zq_ag, ↓zq_ah, ↓zq_ai, ↓zq_aj, zq_ak, ↓zq_al, ↓zq_am, e_b1, e_b2, x_o1, x_o2, k]
/-- one set tried by the class -/
theorem pt_27s {b : Nat} {B : EM} (hn : 2 ≤ n ∧ n ≤ 8) (hb : b < 2 ^ n) (hK : pt_K v n B) (hv : pt_v v n) : ∃ B1 B2 B3, E_C 28 [170, (b : Int)] (bx_fl (e_up B 170 6 0) 181 1000 0 0) = some (0, B1) ∧ E_C 28 [170, ((2 ^ n - 1 - b : Nat) : Int)] B1 = some (0, B2) ∧ E_C 22 [170] B2 = some (0, B3) ∧ B3 170 1 = pt_P v n b ∧ pt_K v n B3 := by
  have n2 := pt_2n n (by omega) hn.1
  have F6 : (bx_fl (e_up B 170 6 0) 181 1000 0 0) 170 6 = 0 := (if_neg (by omega)).trans c_up_s
  have FK : pt_K v n (bx_fl (e_up B 170 6 0) 181 1000 0 0) := ⟨(if_neg (by omega)).trans ((c_up_n (by omega)).trans hK.1), fun j c hj hc => (if_neg (by omega)).trans ((c_up_n (by omega)).trans (hK.2 j c hj hc))⟩
  have FZ : ∀ k, k < 1000 → (bx_fl (e_up B 170 6 0) 181 1000 0 0) 181 k = 0 := fun k hk => if_pos ⟨rfl, Nat.zero_le _, hk⟩
  generalize bx_fl (e_up B 170 6 0) 181 1000 0 0 = F at *
  obtain ⟨B1, k1, a1, a2, a3⟩ := pt_28 (b := b) hn.2 rfl (by omega) FK hv (fun k hk => by rw [FZ k hk]; decide)
  have c1 : ∀ u : Int, cu_cu (fun c => pt_s v b n c) u 99 ≤ 99 := fun u => cu_cu_le 99
  have c2 : ∀ u : Int, cu_cu (fun c => pt_s v (2 ^ n - 1 - b) n c) u 99 ≤ 99 := fun u => cu_cu_le 99
  obtain ⟨B2, k2, b1, b2, b3⟩ := pt_28 (b := 2 ^ n - 1 - b) hn.2 rfl (by omega) (B := B1) ⟨(a3 _ _ (by decide) (by decide)).trans FK.1, fun j c hj hc => (a3 _ _ (by decide) (by decide)).trans (FK.2 j c hj hc)⟩ hv (fun k hk => by
    rcases Nat.lt_or_ge k 501 with y | y
    · rw [a1 k y, FZ k hk]
      have := c1 (k : Int)
      omega
    · rw [a2 k y, FZ k hk]
      decide)
  obtain ⟨B3, k3, d1, d2, d3⟩ := bx_22 (M := B2) (s := fun u => pt_u v n b (u : Int)) ((b3 _ _ (by decide) (by decide)).trans ((a3 _ _ (by decide) (by decide)).trans F6)) (fun u hu => by
    rw [b1 u (by omega), a1 u (by omega), FZ u (by omega), Int.zero_add]
    rfl) (fun u _ => by have := pt_u_bd (v := v) (n := n) (b := b) (u := (u : Int)); omega)
  exact ⟨B1, B2, B3, k1, k2, k3, d2, (d3 _ _ (by omega)).trans ((b3 _ _ (by decide) (by decide)).trans ((a3 _ _ (by decide) (by decide)).trans FK.1)), fun j c hj hc => (d3 _ _ (by omega)).trans ((b3 _ _ (by decide) (by decide)).trans ((a3 _ _ (by decide) (by decide)).trans (FK.2 j c hj hc)))⟩
theorem pt_27 {B : EM} {A : EM} (hn : 2 ≤ n ∧ n ≤ 8) (k11 : E_C 11 [170] B = some (0, A)) (hK : pt_K v n A) (hv : pt_v v n) : ∃ B', E_C 27 [170] B = some (((pt_b (pt_P v n) ((2 ^ n - 1) / 2)).2 : Int), B') ∧ B' 170 1 = (pt_b (pt_P v n) ((2 ^ n - 1) / 2)).1 := by
  obtain ⟨n4, n256, nJ⟩ := pt_2n n (by omega) hn.1
  obtain ⟨J, hJ⟩ : ∃ J, (2 ^ n - 1) / 2 = J := ⟨_, rfl⟩
  obtain ⟨H, hH⟩ : ∃ H, 2 ^ n = H := ⟨_, rfl⟩
  rw [hJ]
  rw [hJ] at nJ
  have lp : ∀ (t j : Nat) (x1 x2 x4 : Int) (K : EM), x4 = ((2 * (j + 1) : Nat) : Int) → j + t = J → x1 = (pt_b (pt_P v n) j).1 → x2 = ((pt_b (pt_P v n) j).2 : Int) → pt_K v n K → ∃ B', E_V 27 20 [170, x1, x2, ((2 ^ n : Nat) : Int) - 1, x4] K = some (((pt_b (pt_P v n) J).2 : Int), B') ∧ B' 170 1 = (pt_b (pt_P v n) J).1 := by
    intro t
    induction t with
    | zero =>
      intro j x1 x2 x4 K h4 hj h1 h2 hK
      have e : j = J := by omega
      rw [← e, ← h1, ← h2]
      refine ⟨e_up K 170 1 x1, ?_, c_up_s⟩
      have q : ¬ (x4 ≤ ((2 ^ n : Nat) : Int) - 1) := by omega
      have qn : ((2 ^ n : Nat) : Int) - 1 < x4 := by omega
      clear hK hv h1 h2
      generalize ((2 ^ n : Nat) : Int) - 1 = x3 at *
      rw [E_V_eq]
      show e_tv E_C (E_V 27) e_t27_20 [170, x1, x2, x3, x4] K = _
      unfold e_t27_20
      simp [zq_a, zq_b, zq_c, zq_d, zq_e, zq_f, zq_g, zq_h, zq_i, zq_j, zq_k, zq_l, zq_m, zq_n, zq_o, zq_p, zq_q, zq_r, zq_s, zq_t, zq_u, zq_v, zq_w, zq_x, zq_y, zq_z, zq_A, zq_B, zq_C, zq_D, zq_E, zq_F, zq_G, zq_H, zq_I, zq_J, zq_K, zq_L, ↓zq_M, ↓zq_N, ↓zq_O, ↓zq_P, ↓zq_Q, ↓zq_R, zq_S, zq_T, zq_U, zq_V, zq_W, zq_X, zq_Y, zq_Z, zq_0, zq_1, zq_2, zq_3, zq_4, zq_5, ↓zq_6, ↓zq_7, ↓zq_8, ↓zq_9, ↓zq_aa, zq_ab, zq_ac, zq_ad, zq_ae, zq_af, zq_ag, ↓zq_ah, ↓zq_ai, ↓zq_aj, zq_ak, ↓zq_al, ↓zq_am, e_b1, e_b2, x_o1, x_o2, bx_P1, q, qn]
    | succ t ih =>
      intro j x1 x2 x4 K h4 hj h1 h2 hK
      obtain ⟨B1, B2, B3, k1, k2, k3, p1, K3⟩ := pt_27s (b := 2 * (j + 1)) hn (by omega) hK hv
      have fl : E_C 270 [181, 0] (e_up K 170 6 0) = some (0, bx_fl (e_up K 170 6 0) 181 1000 0 0) := bx_fill (a := 181) (n := 1000) (v := 0) (by decide) (by decide) (by decide +kernel) (by decide) _
      generalize bx_fl (e_up K 170 6 0) 181 1000 0 0 = F at *
      rw [← h4] at k1
      have q : x4 ≤ ((2 ^ n : Nat) : Int) - 1 := by omega
      have qn : ¬ ((2 ^ n : Nat) : Int) - 1 < x4 := by omega
      have w1 : e_w (((2 ^ n : Nat) : Int) - 1 - x4) = ((2 ^ n - 1 - 2 * (j + 1) : Nat) : Int) := (a_w_id (by omega) (by omega)).trans (by omega)
      have w2 : e_w (x4 + 2) = x4 + 2 := a_w_id (by omega) (by omega)
      have hx3 : ((2 ^ n : Nat) : Int) - 1 = ((2 ^ n : Nat) : Int) - 1 := rfl
      have j73 : ∀ y1 y2, E_V 27 73 [170, y1, y2, ((2 ^ n : Nat) : Int) - 1, x4] B3 = E_V 27 20 [170, y1, y2, ((2 ^ n : Nat) : Int) - 1, x4 + 2] B3 := fun y1 y2 => by
        rw [E_V_eq]
        show e_tv E_C (E_V 27) e_t27_73 [170, y1, y2, ((2 ^ n : Nat) : Int) - 1, x4] B3 = _
        unfold e_t27_73
        simp [zq_a, zq_b, zq_c, zq_d, zq_e, zq_f, zq_g, zq_h, zq_i, zq_j, zq_k, zq_l, zq_m, zq_n, zq_o, zq_p, zq_q, zq_r, zq_s, zq_t, zq_u, zq_v, zq_w, zq_x, zq_y, zq_z, zq_A, zq_B, zq_C, zq_D, zq_E, zq_F, zq_G, zq_H, zq_I, zq_J, zq_K, zq_L, ↓zq_M, ↓zq_N, ↓zq_O, ↓zq_P, ↓zq_Q, ↓zq_R, zq_S, zq_T, zq_U, zq_V, zq_W, zq_X, zq_Y, zq_Z, zq_0, zq_1, zq_2, zq_3, zq_4, zq_5, ↓zq_6, ↓zq_7, ↓zq_8, ↓zq_9, ↓zq_aa, zq_ab, zq_ac, zq_ad, zq_ae, zq_af, zq_ag, ↓zq_ah, ↓zq_ai, ↓zq_aj, zq_ak, ↓zq_al, ↓zq_am, e_b1, e_b2, x_o1, x_o2, w2]
      obtain ⟨pz, hpz⟩ : ∃ pz, pt_P v n (2 * (j + 1)) = pz := ⟨_, rfl⟩
      rw [hpz] at p1
      rcases Classical.em ((pt_b (pt_P v n) j).1 < pt_P v n (2 * (j + 1))) with z | z
      · have eb := pt_b_1 z
        obtain ⟨B', k, kk⟩ := ih (j + 1) pz x4 (x4 + 2) B3 (by omega) (by omega) (by rw [eb, hpz]) (by rw [eb]; exact h4) K3
        refine ⟨B', ?_, kk⟩
        rw [← k, ← j73]
        have z1 : x1 < pz := by omega
        have z1n : ¬ pz ≤ x1 := by omega
        clear k kk ih eb z hpz K3 hK hv h1 h2 j73
        generalize ((2 ^ n - 1 - 2 * (j + 1) : Nat) : Int) = xr at *
        generalize ((2 ^ n : Nat) : Int) - 1 = x3 at *
        generalize hA : e_up K 170 6 0 = A6 at *
        rw [E_V_eq]
        show e_tv E_C (E_V 27) e_t27_20 [170, x1, x2, x3, x4] K = _
        unfold e_t27_20
        simp [zq_a, zq_b, zq_c, zq_d, zq_e, zq_f, zq_g, zq_h, zq_i, zq_j, zq_k, zq_l, zq_m, zq_n, zq_o, zq_p, zq_q, zq_r, zq_s, zq_t, zq_u, zq_v, zq_w, zq_x, zq_y, zq_z, zq_A, zq_B, zq_C, zq_D, zq_E, zq_F, zq_G, zq_H, zq_I, zq_J, zq_K, zq_L, ↓zq_M, ↓zq_N, ↓zq_O, ↓zq_P, ↓zq_Q, ↓zq_R, zq_S, zq_T, zq_U, zq_V, zq_W, zq_X, zq_Y, zq_Z, zq_0, zq_1, zq_2, zq_3, zq_4, zq_5, ↓zq_6, ↓zq_7, ↓zq_8, ↓zq_9, ↓zq_aa, zq_ab, zq_ac, zq_ad, zq_ae, zq_af, zq_ag, ↓zq_ah, ↓zq_ai, ↓zq_aj, zq_ak, ↓zq_al, ↓zq_am, e_b1, e_b2, x_o1, x_o2, bx_P6, bx_Gi, bx_F1, hA, fl, q, qn, w1, k1, k2, k3, p1, z1, z1n]
      · have eb := pt_b_0 z
        obtain ⟨B', k, kk⟩ := ih (j + 1) x1 x2 (x4 + 2) B3 (by omega) (by omega) (by rw [eb]; exact h1) (by rw [eb]; exact h2) K3
        refine ⟨B', ?_, kk⟩
        rw [← k, ← j73]
        have z1 : ¬ x1 < pz := by omega
        have z1n : pz ≤ x1 := by omega
        clear k kk ih eb z hpz K3 hK hv h1 h2 j73
        generalize ((2 ^ n - 1 - 2 * (j + 1) : Nat) : Int) = xr at *
        generalize ((2 ^ n : Nat) : Int) - 1 = x3 at *
        generalize hA : e_up K 170 6 0 = A6 at *
        rw [E_V_eq]
        show e_tv E_C (E_V 27) e_t27_20 [170, x1, x2, x3, x4] K = _
        unfold e_t27_20
        simp [zq_a, zq_b, zq_c, zq_d, zq_e, zq_f, zq_g, zq_h, zq_i, zq_j, zq_k, zq_l, zq_m, zq_n, zq_o, zq_p, zq_q, zq_r, zq_s, zq_t, zq_u, zq_v, zq_w, zq_x, zq_y, zq_z, zq_A, zq_B, zq_C, zq_D, zq_E, zq_F, zq_G, zq_H, zq_I, zq_J, zq_K, zq_L, ↓zq_M, ↓zq_N, ↓zq_O, ↓zq_P, ↓zq_Q, ↓zq_R, zq_S, zq_T, zq_U, zq_V, zq_W, zq_X, zq_Y, zq_Z, zq_0, zq_1, zq_2, zq_3, zq_4, zq_5, ↓zq_6, ↓zq_7, ↓zq_8, ↓zq_9, ↓zq_aa, zq_ab, zq_ac, zq_ad, zq_ae, zq_af, zq_ag, ↓zq_ah, ↓zq_ai, ↓zq_aj, zq_ak, ↓zq_al, ↓zq_am, e_b1, e_b2, x_o1, x_o2, bx_P6, bx_Gi, bx_F1, hA, fl, q, qn, w1, k1, k2, k3, p1, z1, z1n]
  obtain ⟨B', k, kk⟩ := lp J 0 (-1) 0 2 A rfl (by omega) rfl rfl hK
  refine ⟨B', ?_, kk⟩
  have a0 : A 170 0 = (n : Int) := hK.1
  have sh := pt_shl n (by omega)
  have w1 : e_w (((2 ^ n : Nat) : Int) - 1) = ((2 ^ n : Nat) : Int) - 1 := a_w_id (by omega) (by omega)
  rw [r_ent (show e_rok 27 [170] = true from bx_r (M := B) rfl (by decide +kernel))]
  show e_tv E_C (E_V 27) e_t27_0 [170, 0, 0, 0, 0] B = _
  unfold e_t27_0
  clear lp kk hK hv
  generalize ((2 ^ n : Nat) : Int) = x3 at *
  generalize (n : Int) = nn at *
  simp [zq_a, zq_b, zq_c, zq_d, zq_e, zq_f, zq_g, zq_h, zq_i, zq_j, zq_k, zq_l, zq_m, zq_n, zq_o, zq_p, zq_q, zq_r, zq_s, zq_t, zq_u, zq_v, zq_w, zq_x, zq_y, zq_z, zq_A, zq_B, zq_C, zq_D, zq_E, zq_F, zq_G, zq_H, zq_I, zq_J, zq_K, zq_L, ↓zq_M, ↓zq_N, ↓zq_O, ↓zq_P, ↓zq_Q, ↓zq_R, zq_S, zq_T, zq_U, zq_V, zq_W, zq_X, zq_Y, zq_Z, zq_0, zq_1, zq_2, zq_3, zq_4, zq_5, ↓zq_6, ↓zq_7, ↓zq_8, ↓zq_9, ↓zq_aa, zq_ab, zq_ac, zq_ad, zq_ae, zq_af, zq_ag, ↓zq_ah, ↓zq_ai, ↓zq_aj, zq_ak, ↓zq_al, ↓zq_am, e_b1, e_b2, x_o1, x_o2, bx_F0, k11, a0, sh, w1, k]
end PT
end
