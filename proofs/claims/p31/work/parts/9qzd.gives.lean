section
/-! what a PART gives at each PUSH, by the reference: exactly -/
def rx_B (f : Nat → Int) (x2 : Nat) (M M' : EM) : Prop := (∀ id k, id ≠ 205 → M' id k = M id k) ∧ (∀ u, u < x2 → M' 205 u = M 205 u) ∧ ∀ u, x2 ≤ u → u < 1000 → M' 205 u = M 205 u + (cu_cu f (u : Int) 99 : Int)
theorem rx_by_in {f : Nat → Int} {i : Nat} {x2 : Int} (hx : x2 = i) (hi : i < 1000) (H : ∀ (c : Nat) (x1 : Int) (M : EM), x1 = c → c ≤ 99 → (∀ k, k < 100 → M 206 k = f k) → (∀ u, i + 1 ≤ u → u < 1000 → 0 ≤ M 205 u ∧ M 205 u ≤ 100000) → (∀ c', c < c' → c' ≤ 99 → f c' < x2 + 1) → ∃ M', E_V 205 5 [192, x1, x2 + 1] M = some (0, M') ∧ rx_B f (i + 1) M M') : ∀ (c : Nat) (x1 : Int) (M : EM), x1 = c → c ≤ 99 → (∀ k, k < 100 → M 206 k = f k) → (∀ u, i ≤ u → u < 1000 → 0 ≤ M 205 u ∧ M 205 u ≤ 100000) → (∀ c', c < c' → c' ≤ 99 → f c' < x2) → ∃ M', E_V 205 12 [192, x1, x2] M = some (0, M') ∧ rx_B f i M M' := by
  have w2 : e_w (x2 + 1) = x2 + 1 := a_w_id (by omega) (by omega)
  have h2 : 0 ≤ x2 ∧ x2 < 1000 := by omega
  have et : x2.toNat = i := by omega
  have hend : ∀ (c : Nat) (x1 : Int) (M : EM), x1 = c → c ≤ 99 → (∀ k, k < 100 → M 206 k = f k) → (∀ u, i ≤ u → u < 1000 → 0 ≤ M 205 u ∧ M 205 u ≤ 100000) → (∀ c', c < c' → c' ≤ 99 → f c' < x2) → ¬ (0 < x1 ∧ M 206 x1.toNat < x2) → ∃ M', E_V 205 12 [192, x1, x2] M = some (0, M') ∧ rx_B f i M M' := by
    intro c x1 M hc h9 hf hb hl hq
    have g1 := r_rd6 (i := x1) (M := M) (by omega) (by omega)
    have g2 := r_rd5 (M := M) h2.1 h2.2
    have b := hb i (Nat.le_refl _) hi
    have w3 : e_w (M 205 i + x1) = M 205 i + x1 := a_w_id (by omega) (by omega)
    have ec : cu_cu f (i : Int) 99 = c := cu_cu_u (by
      by_cases z : c = 0
      · exact Or.inl z
      · refine Or.inr ?_
        have e : M 206 x1.toNat = f c := by rw [show x1.toNat = c by omega]; exact hf c (by omega)
        have : ¬ M 206 x1.toNat < x2 := fun e => hq ⟨by omega, e⟩
        omega) 99 h9 (fun c' a b => by have := hl c' a b; omega)
    obtain ⟨M', k, h1, h3, h4⟩ := H c x1 (e_up M 205 i (M 205 i + x1)) hc h9 (fun k hk => (c_up_n (by omega)).trans (hf k hk)) (fun u u1 u2 => by rw [c_up_n (by omega)]; exact hb u (by omega) u2) (fun c' a b => by have := hl c' a b; omega)
    refine ⟨M', ?_, fun id k hid => (h1 id k hid).trans (c_up_n (fun e => hid e.1)), fun u hu => (h3 u (by omega)).trans (c_up_n (by omega)), fun u u1 u2 => ?_⟩
    · rw [← et] at w3 k
      rcases x_lt 0 x1 with ⟨q, q_n⟩ | ⟨q, q_n⟩
      · have q1 : ¬ (M 206 x1.toNat < x2) := fun e => hq ⟨q, e⟩
        rw [E_V_eq]
        show e_tv E_C (E_V 205) e_t205_12 [192, x1, x2] M = _
        unfold e_t205_12
        simp [e_tv, e_ev, e_sv, e_b1, e_b2, x_o1, x_o2, r_O25, r_O26, q, q_n, q1, g1, g2, r_st5 h2.1 h2.2, w2, w3, k]
      · rw [E_V_eq]
        show e_tv E_C (E_V 205) e_t205_12 [192, x1, x2] M = _
        unfold e_t205_12
        simp [e_tv, e_ev, e_sv, e_b1, e_b2, x_o1, x_o2, r_O25, r_O26, q, q_n, g1, g2, r_st5 h2.1 h2.2, w2, w3, k]
    · by_cases e : u = i
      · subst e
        rw [h3 u (by omega), c_up_s, ec, hc]
      · rw [h4 u (by omega) u2, c_up_n (by omega)]
  intro c
  induction c with
  | zero => intro x1 M hc h9 hf hb hl; exact hend 0 x1 M hc h9 hf hb hl (by omega)
  | succ c ih =>
    intro x1 M hc h9 hf hb hl
    have g1 := r_rd6 (i := x1) (M := M) (by omega) (by omega)
    by_cases q : 0 < x1 ∧ M 206 x1.toNat < x2
    · obtain ⟨q, q1⟩ := q
      have w1 : e_w (x1 + -1) = x1 - 1 := (a_w_id (by omega) (by omega)).trans (by omega)
      obtain ⟨M', k, hM'⟩ := ih (x1 - 1) M (by omega) (by omega) hf hb (fun c' a b => by
        by_cases e : c' = c + 1
        · have e2 : M 206 x1.toNat = f c' := by rw [show x1.toNat = c + 1 by omega, e]; exact hf _ (by omega)
          omega
        · exact hl c' (by omega) b)
      refine ⟨M', ?_, hM'⟩
      rw [E_V_eq]
      show e_tv E_C (E_V 205) e_t205_12 [192, x1, x2] M = _
      unfold e_t205_12
      simp [e_tv, e_ev, e_sv, e_b1, e_b2, x_o1, x_o2, r_O25, r_O26, q, q1, g1, w1, k]
    · exact hend (c + 1) x1 M hc h9 hf hb hl q
theorem rx_by_out {f : Nat → Int} : ∀ (d i c : Nat) (x1 x2 : Int) (M : EM), x2 = i → i + d = 1000 → x1 = c → c ≤ 99 → (∀ k, k < 100 → M 206 k = f k) → (∀ u, i ≤ u → u < 1000 → 0 ≤ M 205 u ∧ M 205 u ≤ 100000) → (∀ c', c < c' → c' ≤ 99 → f c' < x2) → ∃ M', E_V 205 5 [192, x1, x2] M = some (0, M') ∧ rx_B f i M M' := by
  intro d
  induction d with
  | zero =>
    intro i c x1 x2 M hx hi hc h9 hf hb hl
    have q : ¬ (x2 < 1000) := by omega
    refine ⟨M, ?_, fun _ _ _ => rfl, fun _ _ => rfl, fun u u1 u2 => by omega⟩
    rw [E_V_eq]
    show e_tv E_C (E_V 205) e_t205_5 [192, x1, x2] M = _
    unfold e_t205_5
    simp [e_tv, e_ev, e_sv, e_b1, e_b2, x_o1, x_o2, q]
  | succ d ih =>
    intro i c x1 x2 M hx hi hc h9 hf hb hl
    have q : x2 < 1000 := by omega
    obtain ⟨M', k, hM'⟩ := rx_by_in hx (by omega) (fun c x1 M a b e g h => ih (i + 1) c x1 (x2 + 1) M (by omega) (by omega) a b e g h) c x1 M hc h9 hf hb hl
    refine ⟨M', ?_, hM'⟩
    rw [E_V_eq]
    show e_tv E_C (E_V 205) e_t205_5 [192, x1, x2] M = _
    unfold e_t205_5
    simp [e_tv, e_ev, e_sv, e_b1, e_b2, x_o1, x_o2, q, k]
theorem rx_givesBy {f : Nat → Int} {M : EM} (hf : ∀ k, k < 100 → M 206 k = f k) (hb : ∀ u, u < 1000 → 0 ≤ M 205 u ∧ M 205 u ≤ 100000) : ∃ M', E_C 205 [192] M = some (0, M') ∧ rx_B f 0 M M' := by
  obtain ⟨M', k, hM'⟩ := rx_by_out (f := f) 1000 0 99 99 0 M rfl rfl rfl (Nat.le_refl _) hf (fun u _ => hb u) (fun c' a b => by omega)
  refine ⟨M', ?_, hM'⟩
  rw [r_ent (show e_rok 205 [192] = true from decide_eq_true r_ref)]
  show e_tv E_C (E_V 205) e_t205_0 [192, 0, 0] M = _
  unfold e_t205_0
  simp [e_tv, e_ev, e_sv, e_b1, e_b2, x_o1, x_o2, k]
/-- nothing but given and pushes is written -/
def rx_sm (M M' : EM) : Prop := ∀ id k, id ≠ 205 → id ≠ 206 → M' id k = M id k
theorem rx_sm_tr {M M1 M2 : EM} (h : rx_sm M M1) (k : rx_sm M1 M2) : rx_sm M M2 := fun id j a b => (k id j a b).trans (h id j a b)
theorem rx_sm_G {M M' : EM} (h : rx_sm M M') : r_G M' = r_G M := funext fun i => h _ _ (by decide) (by decide)
def rx_MD (M : EM) (SH WM : Int → Int) (DI : Int → Nat → Int) : Prop := ∀ M', rx_sm M M' → rx_md M' SH WM DI
theorem rx_MD_sm {M M' : EM} {SH WM : Int → Int} {DI : Int → Nat → Int} (h : rx_MD M SH WM DI) (k : rx_sm M M') : rx_MD M' SH WM DI := fun M2 h2 => h M2 (rx_sm_tr k h2)
theorem rx_MD_md {M : EM} {SH WM : Int → Int} {DI : Int → Nat → Int} (h : rx_MD M SH WM DI) : rx_md M SH WM DI := h M (fun _ _ _ _ => rfl)
section RXG
variable {SH WM : Int → Int} {DI : Int → Nat → Int}
theorem rx_gm_fill_204 {b p : Int} {g : Int → Int} (hv : hd_cvs g) (hb : b ≤ 40) (hb1 : b ≤ g 1198) (hp : r_cl g b p ∨ r_rw g b p) : ∀ (d i : Nat) (x2 : Int) (M : EM), x2 = i → i + d = 100 → r_G M = g → rx_MD M SH WM DI → (∀ k, k < i → M 206 k = cu_low g SH WM DI p (k : Int)) → (∀ u, u < 1000 → 0 ≤ M 205 u ∧ M 205 u ≤ 100000) → ∃ M', E_V 204 48 [192, p, x2] M = some (0, M') ∧ rx_sm M M' ∧ ∀ u, u < 1000 → M' 205 u = M 205 u + (cu_cu (fun c : Nat => cu_low g SH WM DI p (c : Int)) (u : Int) 99 : Int) := by
  intro d
  induction d with
  | zero =>
    intro i x2 M hx hi hG hm hf hb5
    have q : ¬ (x2 < 100) := by omega
    obtain ⟨M', k, h1, h2, h3⟩ := rx_givesBy (f := (fun c : Nat => cu_low g SH WM DI p (c : Int))) (fun k hk => hf k (by omega)) hb5
    refine ⟨M', ?_, fun id k a _ => h1 id k a, fun u hu => h3 u (Nat.zero_le _) hu⟩
    rw [E_V_eq]
    show e_tv E_C (E_V 204) e_t204_48 [192, p, x2] M = _
    unfold e_t204_48
    simp [e_tv, e_ev, e_sv, e_b1, e_b2, x_o1, x_o2, q, k]
  | succ d ih =>
    intro i x2 M hx hi hG hm hf hb5
    have q : x2 < 100 := by omega
    have h0 : 0 ≤ x2 := by omega
    have kl : E_C 201 [192, p, x2] M = some (cu_low g SH WM DI p x2, M) := by
      have k := rx_low (c := x2) (rx_MD_md hm) (by rw [hG]; exact hv) hb (by rw [hG]; exact hb1) (by rw [hG]; exact hp) ⟨h0, by omega⟩
      rw [hG] at k
      exact k
    have w4 : e_w (x2 + 1) = x2 + 1 := a_w_id (by omega) (by omega)
    have sm : rx_sm M (e_up M 206 x2.toNat (cu_low g SH WM DI p x2)) := fun id k _ h6 => c_up_n (fun e => h6 e.1)
    obtain ⟨M', k, h1, h2⟩ := ih (i + 1) (x2 + 1) (e_up M 206 x2.toNat (cu_low g SH WM DI p x2)) (by omega) (by omega) ((rx_sm_G sm).trans hG) (rx_MD_sm hm sm) (fun k hk => by
      by_cases e : k = i
      · rw [e, show x2.toNat = i by omega, c_up_s, hx]
      · rw [c_up_n (by omega)]
        exact hf k (by omega)) (fun u hu => by rw [c_up_n (by omega)]; exact hb5 u hu)
    refine ⟨M', ?_, rx_sm_tr sm h1, fun u hu => by rw [h2 u hu, c_up_n (by omega)]⟩
    rw [E_V_eq]
    show e_tv E_C (E_V 204) e_t204_48 [192, p, x2] M = _
    unfold e_t204_48
    simp [e_tv, e_ev, e_sv, e_b1, e_b2, x_o1, x_o2, r_O26, q, kl, r_st6 h0 q, w4, k]
theorem rx_gm_lo_204 {b p : Int} {g : Int → Int} {M : EM} (hG : r_G M = g) (hm : rx_MD M SH WM DI) (hv : hd_cvs g) (hb : b ≤ 40) (hb1 : b ≤ g 1198) (hp : r_cl g b p ∨ r_rw g b p) (hb5 : ∀ u, u < 1000 → 0 ≤ M 205 u ∧ M 205 u ≤ 100000) : ∃ M', E_C 204 [192, p] M = some (0, M') ∧ rx_sm M M' ∧ ∀ u, u < 1000 → M' 205 u = M 205 u + (cu_cu (fun c : Nat => cu_low g SH WM DI p (c : Int)) (u : Int) 99 : Int) := by
  have h40 := r_lo_p hb hp
  have kk : E_C 170 [192, p] M = some (g (28 * p), M) := by rw [← hG]; exact r_kind h40
  obtain ⟨M', k, hM'⟩ := rx_gm_fill_204 hv hb hb1 hp 100 0 0 M rfl rfl hG hm (fun k hk => absurd hk (Nat.not_lt_zero _)) hb5
  refine ⟨M', ?_, hM'⟩
  rcases hp with hp | hp
  · have a3 := hp.2.2.1
    rw [r_ent (show e_rok 204 [192, p] = true from decide_eq_true r_ref)]
    show e_tv E_C (E_V 204) e_t204_0 [192, p, 0] M = _
    unfold e_t204_0
    simp [e_tv, e_ev, e_sv, e_b1, e_b2, x_o1, x_o2, kk, a3, k]
  · have a3 := hp.2.2.1
    rw [r_ent (show e_rok 204 [192, p] = true from decide_eq_true r_ref)]
    show e_tv E_C (E_V 204) e_t204_0 [192, p, 0] M = _
    unfold e_t204_0
    simp [e_tv, e_ev, e_sv, e_b1, e_b2, x_o1, x_o2, kk, a3, k]
theorem rx_gm_fill_308 {b p : Int} {g : Int → Int} (hv : hd_cvs g) (hb : b ≤ 40) (hb1 : b ≤ g 1198) (hp : r_cl g b p ∨ r_rw g b p) : ∀ (d i : Nat) (x2 : Int) (M : EM), x2 = i → i + d = 100 → r_G M = g → rx_MD M SH WM DI → (∀ k, k < i → M 206 k = cu_low g SH WM DI p (k : Int)) → (∀ u, u < 1000 → 0 ≤ M 205 u ∧ M 205 u ≤ 100000) → ∃ M', E_V 308 48 [192, p, x2] M = some (0, M') ∧ rx_sm M M' ∧ ∀ u, u < 1000 → M' 205 u = M 205 u + (cu_cu (fun c : Nat => cu_low g SH WM DI p (c : Int)) (u : Int) 99 : Int) := by
  intro d
  induction d with
  | zero =>
    intro i x2 M hx hi hG hm hf hb5
    have q : ¬ (x2 < 100) := by omega
    obtain ⟨M', k, h1, h2, h3⟩ := rx_givesBy (f := (fun c : Nat => cu_low g SH WM DI p (c : Int))) (fun k hk => hf k (by omega)) hb5
    refine ⟨M', ?_, fun id k a _ => h1 id k a, fun u hu => h3 u (Nat.zero_le _) hu⟩
    rw [E_V_eq]
    show e_tv E_C (E_V 308) e_t308_48 [192, p, x2] M = _
    unfold e_t308_48
    simp [e_tv, e_ev, e_sv, e_b1, e_b2, x_o1, x_o2, q, k]
  | succ d ih =>
    intro i x2 M hx hi hG hm hf hb5
    have q : x2 < 100 := by omega
    have h0 : 0 ≤ x2 := by omega
    have kl : E_C 201 [192, p, x2] M = some (cu_low g SH WM DI p x2, M) := by
      have k := rx_low (c := x2) (rx_MD_md hm) (by rw [hG]; exact hv) hb (by rw [hG]; exact hb1) (by rw [hG]; exact hp) ⟨h0, by omega⟩
      rw [hG] at k
      exact k
    have w4 : e_w (x2 + 1) = x2 + 1 := a_w_id (by omega) (by omega)
    have sm : rx_sm M (e_up M 206 x2.toNat (cu_low g SH WM DI p x2)) := fun id k _ h6 => c_up_n (fun e => h6 e.1)
    obtain ⟨M', k, h1, h2⟩ := ih (i + 1) (x2 + 1) (e_up M 206 x2.toNat (cu_low g SH WM DI p x2)) (by omega) (by omega) ((rx_sm_G sm).trans hG) (rx_MD_sm hm sm) (fun k hk => by
      by_cases e : k = i
      · rw [e, show x2.toNat = i by omega, c_up_s, hx]
      · rw [c_up_n (by omega)]
        exact hf k (by omega)) (fun u hu => by rw [c_up_n (by omega)]; exact hb5 u hu)
    refine ⟨M', ?_, rx_sm_tr sm h1, fun u hu => by rw [h2 u hu, c_up_n (by omega)]⟩
    rw [E_V_eq]
    show e_tv E_C (E_V 308) e_t308_48 [192, p, x2] M = _
    unfold e_t308_48
    simp [e_tv, e_ev, e_sv, e_b1, e_b2, x_o1, x_o2, r_O26, q, kl, r_st6 h0 q, w4, k]
theorem rx_gm_lo_308 {b p : Int} {g : Int → Int} {M : EM} (hG : r_G M = g) (hm : rx_MD M SH WM DI) (hv : hd_cvs g) (hb : b ≤ 40) (hb1 : b ≤ g 1198) (hp : r_cl g b p ∨ r_rw g b p) (hb5 : ∀ u, u < 1000 → 0 ≤ M 205 u ∧ M 205 u ≤ 100000) : ∃ M', E_C 308 [192, p] M = some (0, M') ∧ rx_sm M M' ∧ ∀ u, u < 1000 → M' 205 u = M 205 u + (cu_cu (fun c : Nat => cu_low g SH WM DI p (c : Int)) (u : Int) 99 : Int) := by
  have h40 := r_lo_p hb hp
  have kk : E_C 170 [192, p] M = some (g (28 * p), M) := by rw [← hG]; exact r_kind h40
  obtain ⟨M', k, hM'⟩ := rx_gm_fill_308 hv hb hb1 hp 100 0 0 M rfl rfl hG hm (fun k hk => absurd hk (Nat.not_lt_zero _)) hb5
  refine ⟨M', ?_, hM'⟩
  rcases hp with hp | hp
  · have a3 := hp.2.2.1
    rw [r_ent (show e_rok 308 [192, p] = true from decide_eq_true r_ref)]
    show e_tv E_C (E_V 308) e_t308_0 [192, p, 0] M = _
    unfold e_t308_0
    simp [e_tv, e_ev, e_sv, e_b1, e_b2, x_o1, x_o2, kk, a3, k]
  · have a3 := hp.2.2.1
    rw [r_ent (show e_rok 308 [192, p] = true from decide_eq_true r_ref)]
    show e_tv E_C (E_V 308) e_t308_0 [192, p, 0] M = _
    unfold e_t308_0
    simp [e_tv, e_ev, e_sv, e_b1, e_b2, x_o1, x_o2, kk, a3, k]
theorem rx_gm_fill_309 {b p : Int} {g : Int → Int} (hv : hd_cvs g) (hb : b ≤ 40) (hb1 : b ≤ g 1198) (hp : r_cl g b p ∨ r_rw g b p) : ∀ (d i : Nat) (x2 : Int) (M : EM), x2 = i → i + d = 100 → r_G M = g → rx_MD M SH WM DI → (∀ k, k < i → M 206 k = cu_low g SH WM DI p (k : Int)) → (∀ u, u < 1000 → 0 ≤ M 205 u ∧ M 205 u ≤ 100000) → ∃ M', E_V 309 48 [192, p, x2] M = some (0, M') ∧ rx_sm M M' ∧ ∀ u, u < 1000 → M' 205 u = M 205 u + (cu_cu (fun c : Nat => cu_low g SH WM DI p (c : Int)) (u : Int) 99 : Int) := by
  intro d
  induction d with
  | zero =>
    intro i x2 M hx hi hG hm hf hb5
    have q : ¬ (x2 < 100) := by omega
    obtain ⟨M', k, h1, h2, h3⟩ := rx_givesBy (f := (fun c : Nat => cu_low g SH WM DI p (c : Int))) (fun k hk => hf k (by omega)) hb5
    refine ⟨M', ?_, fun id k a _ => h1 id k a, fun u hu => h3 u (Nat.zero_le _) hu⟩
    rw [E_V_eq]
    show e_tv E_C (E_V 309) e_t309_48 [192, p, x2] M = _
    unfold e_t309_48
    simp [e_tv, e_ev, e_sv, e_b1, e_b2, x_o1, x_o2, q, k]
  | succ d ih =>
    intro i x2 M hx hi hG hm hf hb5
    have q : x2 < 100 := by omega
    have h0 : 0 ≤ x2 := by omega
    have kl : E_C 201 [192, p, x2] M = some (cu_low g SH WM DI p x2, M) := by
      have k := rx_low (c := x2) (rx_MD_md hm) (by rw [hG]; exact hv) hb (by rw [hG]; exact hb1) (by rw [hG]; exact hp) ⟨h0, by omega⟩
      rw [hG] at k
      exact k
    have w4 : e_w (x2 + 1) = x2 + 1 := a_w_id (by omega) (by omega)
    have sm : rx_sm M (e_up M 206 x2.toNat (cu_low g SH WM DI p x2)) := fun id k _ h6 => c_up_n (fun e => h6 e.1)
    obtain ⟨M', k, h1, h2⟩ := ih (i + 1) (x2 + 1) (e_up M 206 x2.toNat (cu_low g SH WM DI p x2)) (by omega) (by omega) ((rx_sm_G sm).trans hG) (rx_MD_sm hm sm) (fun k hk => by
      by_cases e : k = i
      · rw [e, show x2.toNat = i by omega, c_up_s, hx]
      · rw [c_up_n (by omega)]
        exact hf k (by omega)) (fun u hu => by rw [c_up_n (by omega)]; exact hb5 u hu)
    refine ⟨M', ?_, rx_sm_tr sm h1, fun u hu => by rw [h2 u hu, c_up_n (by omega)]⟩
    rw [E_V_eq]
    show e_tv E_C (E_V 309) e_t309_48 [192, p, x2] M = _
    unfold e_t309_48
    simp [e_tv, e_ev, e_sv, e_b1, e_b2, x_o1, x_o2, r_O26, q, kl, r_st6 h0 q, w4, k]
theorem rx_gm_lo_309 {b p : Int} {g : Int → Int} {M : EM} (hG : r_G M = g) (hm : rx_MD M SH WM DI) (hv : hd_cvs g) (hb : b ≤ 40) (hb1 : b ≤ g 1198) (hp : r_cl g b p ∨ r_rw g b p) (hb5 : ∀ u, u < 1000 → 0 ≤ M 205 u ∧ M 205 u ≤ 100000) : ∃ M', E_C 309 [192, p] M = some (0, M') ∧ rx_sm M M' ∧ ∀ u, u < 1000 → M' 205 u = M 205 u + (cu_cu (fun c : Nat => cu_low g SH WM DI p (c : Int)) (u : Int) 99 : Int) := by
  have h40 := r_lo_p hb hp
  have kk : E_C 170 [192, p] M = some (g (28 * p), M) := by rw [← hG]; exact r_kind h40
  obtain ⟨M', k, hM'⟩ := rx_gm_fill_309 hv hb hb1 hp 100 0 0 M rfl rfl hG hm (fun k hk => absurd hk (Nat.not_lt_zero _)) hb5
  refine ⟨M', ?_, hM'⟩
  rcases hp with hp | hp
  · have a3 := hp.2.2.1
    rw [r_ent (show e_rok 309 [192, p] = true from decide_eq_true r_ref)]
    show e_tv E_C (E_V 309) e_t309_0 [192, p, 0] M = _
    unfold e_t309_0
    simp [e_tv, e_ev, e_sv, e_b1, e_b2, x_o1, x_o2, kk, a3, k]
  · have a3 := hp.2.2.1
    rw [r_ent (show e_rok 309 [192, p] = true from decide_eq_true r_ref)]
    show e_tv E_C (E_V 309) e_t309_0 [192, p, 0] M = _
    unfold e_t309_0
    simp [e_tv, e_ev, e_sv, e_b1, e_b2, x_o1, x_o2, kk, a3, k]
theorem rx_gm_all_308 {p : Int} {g : Int → Int} {n : Nat} (hv : hd_cvs g) (hp : 0 ≤ p ∧ p < 40) (hp1 : p ≤ g 1198) (hk0 : g (28 * p) = 2) (hn : g (28 * p + 2) = n) (hn6 : n ≤ 6) (hk : ∀ k, 0 ≤ k → k < g (28 * p + 2) → r_cl g p (g (28 * p + 3 + k)) ∨ r_rw g p (g (28 * p + 3 + k))) : ∀ (d i : Nat) (x2 : Int) (M : EM), x2 = i → i + d = n → r_G M = g → rx_MD M SH WM DI → (∀ u, u < 1000 → M 205 u = cu_S (cu_F g SH WM DI p) (u : Int) i) → ∃ M', E_V 308 20 [192, p, x2] M = some (0, M') ∧ rx_sm M M' ∧ ∀ u, u < 1000 → M' 205 u = cu_S (cu_F g SH WM DI p) (u : Int) n := by
  intro d
  induction d with
  | zero =>
    intro i x2 M hx hi hG hm h5
    have e : i = n := by omega
    subst e
    have km : E_C 171 [192, p] M = some (g (28 * p + 2), M) := by rw [← hG]; exact r_many hp
    have q : ¬ (x2 < g (28 * p + 2)) := by omega
    refine ⟨M, ?_, fun _ _ _ _ => rfl, h5⟩
    rw [E_V_eq]
    show e_tv E_C (E_V 308) e_t308_20 [192, p, x2] M = _
    unfold e_t308_20
    simp [e_tv, e_ev, e_sv, e_b1, e_b2, x_o1, x_o2, q, km]
  | succ d ih =>
    intro i x2 M hx hi hG hm h5
    have q : x2 < g (28 * p + 2) := by omega
    have km : E_C 171 [192, p] M = some (g (28 * p + 2), M) := by rw [← hG]; exact r_many hp
    have w4 : e_w (x2 + 1) = x2 + 1 := a_w_id (by omega) (by omega)
    have ko : E_C 172 [192, p, x2] M = some (g (28 * p + 3 + x2), M) := by rw [← hG]; exact r_of hp ⟨by omega, by omega⟩
    obtain ⟨M1, k1, e1, e2⟩ := rx_gm_lo_309 hG hm hv (show p ≤ 40 by omega) hp1 (hk x2 (by omega) q) (fun u hu => by
      have := cu_S_bd (F := cu_F g SH WM DI p) (u := (u : Int)) i
      rw [h5 u hu]
      omega)
    obtain ⟨M', k, h1, h2⟩ := ih (i + 1) (x2 + 1) M1 (by omega) (by omega) ((rx_sm_G e1).trans hG) (rx_MD_sm hm e1) (fun u hu => by
      rw [e2 u hu, h5 u hu]
      show _ = cu_S (cu_F g SH WM DI p) (u : Int) i + (cu_cu (cu_F g SH WM DI p i) (u : Int) 99 : Int)
      unfold cu_F cu_ln
      rw [if_pos hk0, hx])
    refine ⟨M', ?_, rx_sm_tr e1 h1, h2⟩
    rw [E_V_eq]
    show e_tv E_C (E_V 308) e_t308_20 [192, p, x2] M = _
    unfold e_t308_20
    simp [e_tv, e_ev, e_sv, e_b1, e_b2, x_o1, x_o2, q, km, ko, k1, w4, k]
theorem rx_gm_nb_308 {b p : Int} {g : Int → Int} {M : EM} (hG : r_G M = g) (hm : rx_MD M SH WM DI) (hv : hd_cvs g) (hb : b ≤ 40) (hb1 : b ≤ g 1198) (hp : r_cl g b p ∨ r_rw g b p ∨ r_fd g b p) (h5 : ∀ u, u < 1000 → M 205 u = 0) : ∃ M', E_C 308 [192, p] M = some (0, M') ∧ rx_sm M M' ∧ ∀ u, u < 1000 → M' 205 u = cu_S (cu_F g SH WM DI p) (u : Int) (cu_nl g p) := by
  have low : ∀ hp : r_cl g b p ∨ r_rw g b p, ∃ M', E_C 308 [192, p] M = some (0, M') ∧ rx_sm M M' ∧ ∀ u, u < 1000 → M' 205 u = cu_S (cu_F g SH WM DI p) (u : Int) (cu_nl g p) := by
    intro hp
    have k0 : ¬ g (28 * p) = 2 := by
      rcases hp with hp | hp
      · have := hp.2.2.1; omega
      · have := hp.2.2.1; omega
    obtain ⟨M', k, h1, h2⟩ := rx_gm_lo_308 hG hm hv hb hb1 hp (fun u hu => by rw [h5 u hu]; decide)
    refine ⟨M', k, h1, fun u hu => ?_⟩
    rw [h2 u hu, h5 u hu]
    unfold cu_nl
    rw [if_neg k0]
    show _ = 0 + (cu_cu (cu_F g SH WM DI p 0) (u : Int) 99 : Int)
    unfold cu_F cu_ln
    rw [if_neg k0]
  rcases hp with hp | hp | hp
  · exact low (Or.inl hp)
  · exact low (Or.inr hp)
  · obtain ⟨a1, a2, a3, a4, a5, a6⟩ := hp
    obtain ⟨n, hn⟩ : ∃ n : Nat, g (28 * p + 2) = n := ⟨(g (28 * p + 2)).toNat, by omega⟩
    have kk : E_C 170 [192, p] M = some (g (28 * p), M) := by rw [← hG]; exact r_kind ⟨a1, by omega⟩
    obtain ⟨M', k, h1, h2⟩ := rx_gm_all_308 hv ⟨a1, by omega⟩ (show p ≤ g 1198 by omega) a3 hn (by omega) a6 n 0 0 M rfl (by omega) hG hm (fun u hu => h5 u hu)
    refine ⟨M', ?_, h1, fun u hu => ?_⟩
    · rw [r_ent (show e_rok 308 [192, p] = true from decide_eq_true r_ref)]
      show e_tv E_C (E_V 308) e_t308_0 [192, p, 0] M = _
      unfold e_t308_0
      simp [e_tv, e_ev, e_sv, e_b1, e_b2, x_o1, x_o2, kk, a3, k]
    · rw [h2 u hu]
      unfold cu_nl
      rw [if_pos a3, hn, Int.toNat_natCast]
theorem rx_gm_all_204 {p : Int} {g : Int → Int} {n : Nat} (hv : hd_cvs g) (hp : 0 ≤ p ∧ p < 40) (hp1 : p ≤ g 1198) (hk0 : g (28 * p) = 2) (hn : g (28 * p + 2) = n) (hn6 : n ≤ 6) (hk : ∀ k, 0 ≤ k → k < g (28 * p + 2) → r_cl g p (g (28 * p + 3 + k)) ∨ r_rw g p (g (28 * p + 3 + k))) : ∀ (d i : Nat) (x2 : Int) (M : EM), x2 = i → i + d = n → r_G M = g → rx_MD M SH WM DI → (∀ u, u < 1000 → M 205 u = cu_S (cu_F g SH WM DI p) (u : Int) i) → ∃ M', E_V 204 20 [192, p, x2] M = some (0, M') ∧ rx_sm M M' ∧ ∀ u, u < 1000 → M' 205 u = cu_S (cu_F g SH WM DI p) (u : Int) n := by
  intro d
  induction d with
  | zero =>
    intro i x2 M hx hi hG hm h5
    have e : i = n := by omega
    subst e
    have km : E_C 171 [192, p] M = some (g (28 * p + 2), M) := by rw [← hG]; exact r_many hp
    have q : ¬ (x2 < g (28 * p + 2)) := by omega
    refine ⟨M, ?_, fun _ _ _ _ => rfl, h5⟩
    rw [E_V_eq]
    show e_tv E_C (E_V 204) e_t204_20 [192, p, x2] M = _
    unfold e_t204_20
    simp [e_tv, e_ev, e_sv, e_b1, e_b2, x_o1, x_o2, q, km]
  | succ d ih =>
    intro i x2 M hx hi hG hm h5
    have q : x2 < g (28 * p + 2) := by omega
    have km : E_C 171 [192, p] M = some (g (28 * p + 2), M) := by rw [← hG]; exact r_many hp
    have w4 : e_w (x2 + 1) = x2 + 1 := a_w_id (by omega) (by omega)
    have ko : E_C 172 [192, p, x2] M = some (g (28 * p + 3 + x2), M) := by rw [← hG]; exact r_of hp ⟨by omega, by omega⟩
    obtain ⟨M1, k1, e1, e2⟩ := rx_gm_lo_308 hG hm hv (show p ≤ 40 by omega) hp1 (hk x2 (by omega) q) (fun u hu => by
      have := cu_S_bd (F := cu_F g SH WM DI p) (u := (u : Int)) i
      rw [h5 u hu]
      omega)
    obtain ⟨M', k, h1, h2⟩ := ih (i + 1) (x2 + 1) M1 (by omega) (by omega) ((rx_sm_G e1).trans hG) (rx_MD_sm hm e1) (fun u hu => by
      rw [e2 u hu, h5 u hu]
      show _ = cu_S (cu_F g SH WM DI p) (u : Int) i + (cu_cu (cu_F g SH WM DI p i) (u : Int) 99 : Int)
      unfold cu_F cu_ln
      rw [if_pos hk0, hx])
    refine ⟨M', ?_, rx_sm_tr e1 h1, h2⟩
    rw [E_V_eq]
    show e_tv E_C (E_V 204) e_t204_20 [192, p, x2] M = _
    unfold e_t204_20
    simp [e_tv, e_ev, e_sv, e_b1, e_b2, x_o1, x_o2, q, km, ko, k1, w4, k]
theorem rx_gm_nb_204 {b p : Int} {g : Int → Int} {M : EM} (hG : r_G M = g) (hm : rx_MD M SH WM DI) (hv : hd_cvs g) (hb : b ≤ 40) (hb1 : b ≤ g 1198) (hp : r_cl g b p ∨ r_rw g b p ∨ r_fd g b p) (h5 : ∀ u, u < 1000 → M 205 u = 0) : ∃ M', E_C 204 [192, p] M = some (0, M') ∧ rx_sm M M' ∧ ∀ u, u < 1000 → M' 205 u = cu_S (cu_F g SH WM DI p) (u : Int) (cu_nl g p) := by
  have low : ∀ hp : r_cl g b p ∨ r_rw g b p, ∃ M', E_C 204 [192, p] M = some (0, M') ∧ rx_sm M M' ∧ ∀ u, u < 1000 → M' 205 u = cu_S (cu_F g SH WM DI p) (u : Int) (cu_nl g p) := by
    intro hp
    have k0 : ¬ g (28 * p) = 2 := by
      rcases hp with hp | hp
      · have := hp.2.2.1; omega
      · have := hp.2.2.1; omega
    obtain ⟨M', k, h1, h2⟩ := rx_gm_lo_204 hG hm hv hb hb1 hp (fun u hu => by rw [h5 u hu]; decide)
    refine ⟨M', k, h1, fun u hu => ?_⟩
    rw [h2 u hu, h5 u hu]
    unfold cu_nl
    rw [if_neg k0]
    show _ = 0 + (cu_cu (cu_F g SH WM DI p 0) (u : Int) 99 : Int)
    unfold cu_F cu_ln
    rw [if_neg k0]
  rcases hp with hp | hp | hp
  · exact low (Or.inl hp)
  · exact low (Or.inr hp)
  · obtain ⟨a1, a2, a3, a4, a5, a6⟩ := hp
    obtain ⟨n, hn⟩ : ∃ n : Nat, g (28 * p + 2) = n := ⟨(g (28 * p + 2)).toNat, by omega⟩
    have kk : E_C 170 [192, p] M = some (g (28 * p), M) := by rw [← hG]; exact r_kind ⟨a1, by omega⟩
    obtain ⟨M', k, h1, h2⟩ := rx_gm_all_204 hv ⟨a1, by omega⟩ (show p ≤ g 1198 by omega) a3 hn (by omega) a6 n 0 0 M rfl (by omega) hG hm (fun u hu => h5 u hu)
    refine ⟨M', ?_, h1, fun u hu => ?_⟩
    · rw [r_ent (show e_rok 204 [192, p] = true from decide_eq_true r_ref)]
      show e_tv E_C (E_V 204) e_t204_0 [192, p, 0] M = _
      unfold e_t204_0
      simp [e_tv, e_ev, e_sv, e_b1, e_b2, x_o1, x_o2, kk, a3, k]
    · rw [h2 u hu]
      unfold cu_nl
      rw [if_pos a3, hn, Int.toNat_natCast]
theorem rx_givesMore {b p : Int} {g : Int → Int} {M : EM} (hG : r_G M = g) (hm : rx_MD M SH WM DI) (hv : hd_cvs g) (hb : b ≤ 40) (hb1 : b ≤ g 1198) (hp : r_pt g b p) (h5 : ∀ u, u < 1000 → M 205 u = 0) : ∃ M', E_C 204 [192, p] M = some (0, M') ∧ rx_sm M M' ∧ ∀ u, u < 1000 → M' 205 u = cu_S (cu_F g SH WM DI (cu_in g p)) (u : Int) (cu_nl g (cu_in g p)) := by
  have go : ∀ hp : r_cl g b p ∨ r_rw g b p ∨ r_fd g b p, ∃ M', E_C 204 [192, p] M = some (0, M') ∧ rx_sm M M' ∧ ∀ u, u < 1000 → M' 205 u = cu_S (cu_F g SH WM DI (cu_in g p)) (u : Int) (cu_nl g (cu_in g p)) := by
    intro hp
    have nb : ¬ g (28 * p) = 3 := by
      rcases hp with hp | hp | hp
      · have := hp.2.2.1; omega
      · have := hp.2.2.1; omega
      · have := hp.2.2.1; omega
    unfold cu_in
    rw [if_neg nb]
    exact rx_gm_nb_204 hG hm hv hb hb1 hp h5
  rcases hp with hp | hp | hp | hp
  · exact go (Or.inl hp)
  · exact go (Or.inr (Or.inl hp))
  · exact go (Or.inr (Or.inr hp))
  · obtain ⟨a1, a2, a3, a4, a5⟩ := hp
    have h40 : 0 ≤ p ∧ p < 40 := ⟨a1, by omega⟩
    have kk : E_C 170 [192, p] M = some (g (28 * p), M) := by rw [← hG]; exact r_kind h40
    have km : ∀ M1, r_G M1 = g → E_C 171 [192, p] M1 = some (1, M1) := fun M1 h => by
      have k := r_many (M := M1) (p := p) h40
      rw [show M1 193 (28 * p + 2).toNat = 1 from (congrFun h _).trans a4.1] at k
      exact k
    have ko : E_C 172 [192, p, 0] M = some (g (28 * p + 3), M) := by
      have h := r_of (M := M) (p := p) (k := 0) h40 ⟨by decide, by decide⟩
      rw [Int.add_zero, show M 193 (28 * p + 3).toNat = g (28 * p + 3) from congrFun hG _] at h
      exact h
    obtain ⟨M', k, h1, h2⟩ := rx_gm_nb_308 hG hm hv (show p ≤ 40 by omega) (show p ≤ g 1198 by omega) a5 h5
    have w1 : e_w 1 = 1 := a_w_id (by decide) (by decide)
    have k2 : E_V 204 20 [192, p, 1] M' = some (0, M') := by
      have km' := km M' ((rx_sm_G h1).trans hG)
      rw [E_V_eq]
      show e_tv E_C (E_V 204) e_t204_20 [192, p, 1] M' = _
      unfold e_t204_20
      simp [e_tv, e_ev, e_sv, e_b1, e_b2, x_o1, x_o2, km']
    have k3 : E_V 204 20 [192, p, 0] M = some (0, M') := by
      have km' := km M hG
      rw [E_V_eq]
      show e_tv E_C (E_V 204) e_t204_20 [192, p, 0] M = _
      unfold e_t204_20
      simp [e_tv, e_ev, e_sv, e_b1, e_b2, x_o1, x_o2, km', ko, k, w1, k2]
    unfold cu_in
    rw [if_pos a3]
    refine ⟨M', ?_, h1, h2⟩
    rw [r_ent (show e_rok 204 [192, p] = true from decide_eq_true r_ref)]
    show e_tv E_C (E_V 204) e_t204_0 [192, p, 0] M = _
    unfold e_t204_0
    simp [e_tv, e_ev, e_sv, e_b1, e_b2, x_o1, x_o2, kk, a3, k3]
theorem rx_zero {p : Int} : ∀ (d i : Nat) (x2 : Int) (M : EM), x2 = i → i + d = 1000 → (∀ u, u < i → M 205 u = 0) → ∃ M0, E_V 203 2 [192, p, x2] M = (E_C 204 [192, p] M0).bind (fun r => some (0, r.2)) ∧ rx_sm M M0 ∧ ∀ u, u < 1000 → M0 205 u = 0 := by
  intro d
  induction d with
  | zero =>
    intro i x2 M hx hi h5
    have q : ¬ (x2 < 1000) := by omega
    refine ⟨M, ?_, fun _ _ _ _ => rfl, fun u hu => h5 u (by omega)⟩
    rw [E_V_eq]
    show e_tv E_C (E_V 203) e_t203_2 [192, p, x2] M = _
    unfold e_t203_2
    cases hc : E_C 204 [192, p] M with
    | none => simp [e_tv, e_ev, e_sv, e_b1, e_b2, x_o1, x_o2, q, hc]
    | some r => simp [e_tv, e_ev, e_sv, e_b1, e_b2, x_o1, x_o2, q, hc]
  | succ d ih =>
    intro i x2 M hx hi h5
    have q : x2 < 1000 := by omega
    have h0 : 0 ≤ x2 := by omega
    have w4 : e_w (x2 + 1) = x2 + 1 := a_w_id (by omega) (by omega)
    have sm : rx_sm M (e_up M 205 x2.toNat 0) := fun id k h5 _ => c_up_n (fun e => h5 e.1)
    obtain ⟨M0, k, h1, h2⟩ := ih (i + 1) (x2 + 1) (e_up M 205 x2.toNat 0) (by omega) (by omega) (fun u hu => by
      by_cases e : u = i
      · rw [e, show x2.toNat = i by omega, c_up_s]
      · rw [c_up_n (by omega)]
        exact h5 u (by omega))
    refine ⟨M0, ?_, rx_sm_tr sm h1, h2⟩
    rw [E_V_eq]
    show e_tv E_C (E_V 203) e_t203_2 [192, p, x2] M = _
    unfold e_t203_2
    simp [e_tv, e_ev, e_sv, e_b1, e_b2, x_o1, x_o2, r_O25, q, r_st5 h0 q, w4, k]
/-- what a PART gives -/
theorem rx_gives {b p : Int} {g : Int → Int} {M : EM} (hG : r_G M = g) (hm : rx_MD M SH WM DI) (hv : hd_cvs g) (hb : b ≤ 40) (hb1 : b ≤ g 1198) (hp : r_pt g b p) : ∃ M', E_C 203 [192, p] M = some (0, M') ∧ rx_sm M M' ∧ ∀ u, u < 1000 → M' 205 u = cu_S (cu_F g SH WM DI (cu_in g p)) (u : Int) (cu_nl g (cu_in g p)) := by
  obtain ⟨M0, k0, s0, z0⟩ := rx_zero (p := p) 1000 0 0 M rfl rfl (fun u hu => absurd hu (Nat.not_lt_zero _))
  obtain ⟨M', k, h1, h2⟩ := rx_givesMore ((rx_sm_G s0).trans hG) (rx_MD_sm hm s0) hv hb hb1 hp z0
  refine ⟨M', ?_, rx_sm_tr s0 h1, h2⟩
  rw [k] at k0
  have k1 : E_V 203 2 [192, p, 0] M = some (0, M') := k0
  rw [r_ent (show e_rok 203 [192, p] = true from decide_eq_true r_ref)]
  show e_tv E_C (E_V 203) e_t203_0 [192, p, 0] M = _
  unfold e_t203_0
  simp [e_tv, e_ev, e_sv, e_b1, e_b2, x_o1, x_o2, k1]
end RXG
end
section
/-! numbers of a TEXT: 0 .. 99; a STATEMENT has one at least -/
section WNU
variable {b : Nat → Int} {n j k : Nat}
theorem w_mem8 : ∀ (n i : Nat), (i : Int) < w_T b n 8 → ∃ k, k < n ∧ w_N b k ∧ w_T b k 8 = i := by
  intro n
  induction n with
  | zero =>
    intro i hi
    have e : w_T b 0 8 = 0 := rfl
    omega
  | succ n ih =>
    intro i hi
    have e8 := w_nx8 (s := w_T b n) (c := b n)
    rw [← w_Tn] at e8
    by_cases q : w_T b n 2 = 1 ∧ 48 ≤ b n ∧ b n ≤ 57
    · rw [if_pos q] at e8
      rcases x_lt ((i : Int)) (w_T b n 8) with ⟨z, z_n⟩ | ⟨z, z_n⟩
      · obtain ⟨k, k1, k2⟩ := ih i z
        exact ⟨k, by omega, k2⟩
      · exact ⟨n, by omega, q, by omega⟩
    · rw [if_neg q] at e8
      obtain ⟨k, k1, k2⟩ := ih i (by omega)
      exact ⟨k, by omega, k2⟩
theorem w_vb (h : 48 ≤ b k ∧ b k ≤ 57) : 0 ≤ w_v b n k ∧ w_v b n k ≤ 99 := by
  unfold w_v
  by_cases q : b k ≠ 48 ∧ k + 1 < n ∧ 48 ≤ b (k + 1) ∧ b (k + 1) ≤ 57
  · rw [if_pos q]; omega
  · rw [if_neg q]; omega
theorem w_numb {M : EM} (hA : w_A b n) (hK : w_K b n M) {i : Nat} (hi : (i : Int) < w_T b n 8) : (0 ≤ M 167 i ∧ M 167 i ≤ 99) ∧ (M 169 i = 0 ∨ M 169 i = 1) := by
  obtain ⟨k, k1, k2, k3⟩ := w_mem8 n i hi
  obtain ⟨a1, a2, a3⟩ := hK.2.2.2 k k1 k2
  rw [k3, Int.toNat_natCast] at a1 a2 a3
  have I := w_Ii (w_Al hA (show k ≤ n by omega))
  unfold w_I at I
  rw [a1, a3]
  exact ⟨w_vb k2.2, I.2.2.2.2.2.2.1⟩
theorem w_in8 (hj : w_T b j 2 = 0) : ∀ d, w_A b (j + (d + 1)) → (∀ i, i < d → w_T b (j + (i + 1)) 2 ≠ 0) → w_T b (j + (d + 1)) 2 = 1 ∨ w_T b j 8 + 1 ≤ w_T b (j + (d + 1)) 8 := by
  intro d
  induction d with
  | zero =>
    intro _ _
    show w_T b (j + 1) 2 = 1 ∨ _
    rw [w_Tn, w_nx2, if_pos hj]
    exact Or.inl rfl
  | succ d ih =>
    intro hA hz
    have hA1 : w_A b (j + (d + 1) + 1) := hA
    have a2 := (w_A1 hA1).2
    have i := ih (w_Al hA (by omega)) (fun i hi => hz i (by omega))
    have z := hz d (by omega)
    have m := w_m8 (b := b) (show j ≤ j + (d + 1) by omega)
    show w_T b (j + (d + 1) + 1) 2 = 1 ∨ w_T b j 8 + 1 ≤ w_T b (j + (d + 1) + 1) 8
    have e2 := w_nx2 (s := w_T b (j + (d + 1))) (c := b (j + (d + 1)))
    have e8 := w_nx8 (s := w_T b (j + (d + 1))) (c := b (j + (d + 1)))
    rw [← w_Tn] at e2 e8
    generalize w_T b (j + (d + 1) + 1) = t at e2 e8 ⊢
    generalize w_T b (j + (d + 1)) = s at i z m a2 e2 e8
    generalize w_T b j 8 = v at i m ⊢
    generalize b (j + (d + 1)) = c at a2 e2 e8
    clear ih hA1 hA hz hj
    unfold w_ok at a2
    rw [if_neg z] at a2 e2
    by_cases q1 : s 2 = 1
    · rw [if_pos q1] at a2 e2
      by_cases dg : 48 ≤ c ∧ c ≤ 57
      · rw [if_pos ⟨q1, dg⟩] at e8
        exact Or.inr (by omega)
      · rw [if_neg dg] at e2
        exact Or.inl e2
    · rw [if_neg (fun e => q1 e.1)] at e8
      have := i.resolve_left q1
      exact Or.inr (by omega)
theorem w_ge1 (hA : w_A b k) (hj : w_T b j 2 = 0) (hjk : j < k) (hk : w_T b k 2 = 0) (h7 : w_T b k 7 = w_T b j 7 + 1) : w_T b j 8 + 1 ≤ w_T b k 8 := by
  have nn := w_nxt hA hj hjk hk h7
  have B := w_in8 hj (k - j - 1) (by rw [show j + (k - j - 1 + 1) = k by omega]; exact hA) (fun i hi => nn _ (by omega) (by omega))
  rw [show j + (k - j - 1 + 1) = k by omega] at B
  rcases B with B | B
  · omega
  · exact B
end WNU
end
section
/-! members, GROUPS, DIODES, CURVES, what BOXES seek by: class and reference -/
def hd_mb (M : EM) (dc : Nat) (g : Int → Int) (q k : Nat) : Prop := M (15 + dc) (8 * q + k) = g (28 * (q : Int) + 3 + (k : Int)) ∧ 0 ≤ g (28 * (q : Int) + 3 + (k : Int)) ∧ g (28 * (q : Int) + 3 + (k : Int)) < q ∧ g (28 * g (28 * (q : Int) + 3 + (k : Int)) + 1) = (q : Int) + 1 ∧ ∀ j : Nat, j < k → g (28 * (q : Int) + 3 + (j : Int)) ≠ g (28 * (q : Int) + 3 + (k : Int))
def hd_d0 (M : EM) (dc : Nat) (g : Int → Int) (q : Nat) : Prop := hd_cv g q ∧ M (12 + dc) q = g (28 * (q : Int) + 2) ∧ ∀ i : Nat, (i : Int) < g (28 * (q : Int) + 2) → M (19 + dc) (6 * q + i) = g (28 * (q : Int) + 3 + (i : Int)) ∧ M (20 + dc) (6 * q + i) = g (28 * (q : Int) + 9 + (i : Int))
def hd_d1 (M : EM) (dc : Nat) (g : Int → Int) (q n gr : Nat) : Prop := (1 ≤ n ∧ n ≤ 8 ∧ gr ≤ n) ∧ g (28 * (q : Int) + 2) = n ∧ M (14 + dc) q = n ∧ g (28 * (q : Int) + 19) = gr ∧ M (12 + dc) q = gr ∧ cu_gp (fun k => g (28 * (q : Int) + 11 + (k : Int))) n gr ∧ ∀ k : Nat, k < n → hd_mb M dc g q k ∧ g (28 * g (28 * (q : Int) + 3 + (k : Int))) = 0 ∧ M (16 + dc) (8 * q + k) = g (28 * (q : Int) + 11 + (k : Int)) ∧ M (17 + dc) (8 * q + k) = g (28 * (q : Int) + 20 + g (28 * (q : Int) + 11 + (k : Int))) ∧ (M (17 + dc) (8 * q + k) = 0 ∨ M (17 + dc) (8 * q + k) = 1)
def hd_d2 (M : EM) (dc : Nat) (g : Int → Int) (q n : Nat) : Prop := (1 ≤ n ∧ n ≤ 6) ∧ g (28 * (q : Int) + 2) = n ∧ M (14 + dc) q = n ∧ M (12 + dc) q = n ∧ ∀ k : Nat, k < n → hd_mb M dc g q k ∧ (g (28 * g (28 * (q : Int) + 3 + (k : Int))) = 0 ∨ g (28 * g (28 * (q : Int) + 3 + (k : Int))) = 1)
def hd_d3 (M : EM) (dc : Nat) (g : Int → Int) (q : Nat) : Prop := g (28 * (q : Int) + 2) = 1 ∧ M (14 + dc) q = 1 ∧ M (12 + dc) q = 1 ∧ hd_mb M dc g q 0 ∧ g (28 * g (28 * (q : Int) + 3 + ((0 : Nat) : Int))) ≠ 3
def hd_e3 (M : EM) (dc : Nat) (g : Int → Int) (q : Nat) : Prop := (M (37 + dc + q) 0 = g (28 * (q : Int) + 4) ∧ 0 ≤ g (28 * (q : Int) + 4) ∧ g (28 * (q : Int) + 4) ≤ 500) ∧ (M (37 + dc + q) 1 = g (28 * (q : Int) + 5) ∧ 1 ≤ g (28 * (q : Int) + 5) ∧ g (28 * (q : Int) + 5) ≤ 40) ∧ ((M (37 + dc + q) 2 = 0 ∧ g (28 * (q : Int) + 6) = 1) ∨ (M (37 + dc + q) 2 = 1 ∧ g (28 * (q : Int) + 6) = -1)) ∧ ((M (37 + dc + q) 3 = 0 ∧ g (28 * (q : Int) + 7) = 0) ∨ (M (37 + dc + q) 3 = 1 ∧ g (28 * (q : Int) + 7) = 1 ∧ M (37 + dc + q) 4 = g (28 * (q : Int) + 8) ∧ 0 ≤ g (28 * (q : Int) + 8) ∧ g (28 * (q : Int) + 8) ≤ 1000000))
def hd_q (M : EM) (dc : Nat) (g : Int → Int) (q : Nat) : Prop := (g (28 * (q : Int)) = 0 → hd_d0 M dc g q) ∧ (g (28 * (q : Int)) = 1 → ∃ n gr, hd_d1 M dc g q n gr) ∧ (g (28 * (q : Int)) = 2 → ∃ n, hd_d2 M dc g q n) ∧ (g (28 * (q : Int)) = 3 → hd_d3 M dc g q ∧ hd_e3 M dc g q)
def hd_D (M : EM) (dc : Nat) (g : Int → Int) : Prop := ∀ q : Nat, (q : Int) < g 1198 → hd_q M dc g q
/-- what counts of PART q is as it was -/
def hd_ag (g g' : Int → Int) (q : Int) : Prop := g' (28 * q) = g (28 * q) ∧ g' (28 * q + 2) = g (28 * q + 2) ∧ ∀ d, 3 ≤ d → d < 28 → (g (28 * q) = 0 → d < 15) → (g (28 * q) = 3 → d < 9) → g' (28 * q + d) = g (28 * q + d)
def hd_ac (M M' : EM) (dc dc' q : Nat) : Prop := M' (12 + dc') q = M (12 + dc) q ∧ M' (14 + dc') q = M (14 + dc) q ∧ (∀ k, k < 8 → M' (15 + dc') (8 * q + k) = M (15 + dc) (8 * q + k) ∧ M' (16 + dc') (8 * q + k) = M (16 + dc) (8 * q + k) ∧ M' (17 + dc') (8 * q + k) = M (17 + dc) (8 * q + k)) ∧ (∀ i, i < 6 → M' (19 + dc') (6 * q + i) = M (19 + dc) (6 * q + i) ∧ M' (20 + dc') (6 * q + i) = M (20 + dc) (6 * q + i)) ∧ ∀ k, k < 5 → M' (37 + dc' + q) k = M (37 + dc + q) k
def hd_am (g g' : Int → Int) (q : Int) : Prop := ∀ m, 0 ≤ m → m < q → g' (28 * m) = g (28 * m) ∧ (g (28 * m + 1) ≠ 0 → g' (28 * m + 1) = g (28 * m + 1))
section HDC
variable {M M' : EM} {dc dc' q : Nat} {g g' : Int → Int}
theorem hd_mb_cg {n k : Nat} (h : hd_mb M dc g q k) (hk : k < n) (hn : n ≤ 8) (e : ∀ j : Nat, j < n → g' (28 * (q : Int) + 3 + (j : Int)) = g (28 * (q : Int) + 3 + (j : Int))) (hm : hd_am g g' q) (c : M' (15 + dc') (8 * q + k) = M (15 + dc) (8 * q + k)) : hd_mb M' dc' g' q k ∧ g' (28 * g' (28 * (q : Int) + 3 + (k : Int))) = g (28 * g (28 * (q : Int) + 3 + (k : Int))) := by
  obtain ⟨a1, a2, a3, a4, a5⟩ := h
  obtain ⟨m1, m2⟩ := hm _ a2 a3
  unfold hd_mb
  rw [e k hk, c]
  refine ⟨⟨a1, a2, a3, (m2 (by omega)).trans a4, fun j hj => ?_⟩, m1⟩
  rw [e j (by omega)]
  exact a5 j hj
theorem hd_q_cg (h : hd_q M dc g q) (a : hd_ag g g' q) (hm : hd_am g g' q) (c : hd_ac M M' dc dc' q) : hd_q M' dc' g' q := by
  obtain ⟨h0, h1, h2, h3⟩ := h
  obtain ⟨e0, e2, ed⟩ := a
  obtain ⟨c12, c14, cm, cp, cs⟩ := c
  unfold hd_q
  rw [e0]
  refine ⟨fun k => ?_, fun k => ?_, fun k => ?_, fun k => ?_⟩
  · obtain ⟨b1, b2, b3⟩ := h0 k
    obtain ⟨n, n1, n2, n3, n4, n5, n6, n7, n8⟩ := b1
    have z3 : ∀ i : Nat, i < n → g' (28 * (q : Int) + 3 + (i : Int)) = g (28 * (q : Int) + 3 + (i : Int)) := fun i hi => by
      rw [Int.add_assoc]
      exact ed _ (by omega) (by omega) (fun _ => by omega) (fun e => by omega)
    have z9 : ∀ i : Nat, i < n → g' (28 * (q : Int) + 9 + (i : Int)) = g (28 * (q : Int) + 9 + (i : Int)) := fun i hi => by
      rw [Int.add_assoc]
      exact ed _ (by omega) (by omega) (fun _ => by omega) (fun e => by omega)
    refine ⟨⟨n, n1, n2, e2.trans n3, (ed 3 (by decide) (by decide) (fun _ => by decide) (fun _ => by decide)).trans n4, ?_, ?_, ?_, fun i hi => ?_⟩, ?_, fun i hi => ?_⟩
    · rw [z3 _ (by omega)]; exact n5
    · rw [z9 _ (by omega)]; exact n6
    · rw [ed 9 (by decide) (by decide) (fun _ => by decide) (fun e => by omega)]; exact n7
    · rw [z3 _ (by omega), z3 _ (by omega), z9 _ (by omega), z9 _ (by omega)]
      exact n8 i hi
    · rw [c12, e2]; exact b2
    · rw [e2] at hi
      obtain ⟨d1, d2⟩ := b3 i hi
      rw [(cp i (by omega)).1, (cp i (by omega)).2, z3 i (by omega), z9 i (by omega)]
      exact ⟨d1, d2⟩
  · obtain ⟨n, gr, ⟨n1, n2, n3⟩, b1, b2, b3, b4, b5, b6⟩ := h1 k
    have z3 : ∀ i : Nat, i < n → g' (28 * (q : Int) + 3 + (i : Int)) = g (28 * (q : Int) + 3 + (i : Int)) := fun i hi => by
      rw [Int.add_assoc]
      exact ed _ (by omega) (by omega) (fun e => by omega) (fun e => by omega)
    have z11 : ∀ i : Nat, i < n → g' (28 * (q : Int) + 11 + (i : Int)) = g (28 * (q : Int) + 11 + (i : Int)) := fun i hi => by
      rw [Int.add_assoc]
      exact ed _ (by omega) (by omega) (fun e => by omega) (fun e => by omega)
    refine ⟨n, gr, ⟨n1, n2, n3⟩, e2.trans b1, c14.trans b2, (ed 19 (by decide) (by decide) (fun e => by omega) (fun e => by omega)).trans b3, c12.trans b4, ?_, fun i hi => ?_⟩
    · obtain ⟨p1, p2, p3⟩ := b5
      refine ⟨p1, fun hn => ?_, fun j hj => ?_⟩
      · have r1 := z11 0 (by omega)
        have r2 := z11 (n - 1) (by omega)
        exact ⟨r1.trans (p2 hn).1, r2.trans (p2 hn).2⟩
      · show g' (28 * (q : Int) + 11 + ((j + 1 : Nat) : Int)) = g' (28 * (q : Int) + 11 + (j : Int)) ∨ g' (28 * (q : Int) + 11 + ((j + 1 : Nat) : Int)) = g' (28 * (q : Int) + 11 + (j : Int)) + 1
        rw [z11 _ hj, z11 j (by omega)]
        exact p3 j hj
    · obtain ⟨d1, d2, d3, d4, d5⟩ := b6 i hi
      obtain ⟨f1, f2⟩ := hd_mb_cg d1 hi n2 z3 hm (cm i (by omega)).1
      have G0 : 0 ≤ g (28 * (q : Int) + 11 + (i : Int)) ∧ g (28 * (q : Int) + 11 + (i : Int)) < 8 := by
        obtain ⟨y, y1, y2, y3⟩ := cu_st_in (v := fun _ => 0) (D := fun _ => 0) b5 i hi
        have y1 : g (28 * (q : Int) + 11 + (i : Int)) = y := y1
        have := cu_gp_lt b5 i hi
        have : g (28 * (q : Int) + 11 + (i : Int)) < gr := this
        omega
      have z20 : g' (28 * (q : Int) + 20 + g (28 * (q : Int) + 11 + (i : Int))) = g (28 * (q : Int) + 20 + g (28 * (q : Int) + 11 + (i : Int))) := by
        rw [Int.add_assoc]
        exact ed _ (by omega) (by omega) (fun e => by omega) (fun e => by omega)
      rw [f2, (cm i (by omega)).2.1, (cm i (by omega)).2.2, z11 i hi, z20]
      exact ⟨f1, d2, d3, d4, d5⟩
  · obtain ⟨n, ⟨n1, n2⟩, b1, b2, b3, b4⟩ := h2 k
    have z3 : ∀ i : Nat, i < n → g' (28 * (q : Int) + 3 + (i : Int)) = g (28 * (q : Int) + 3 + (i : Int)) := fun i hi => by
      rw [Int.add_assoc]
      exact ed _ (by omega) (by omega) (fun e => by omega) (fun e => by omega)
    refine ⟨n, ⟨n1, n2⟩, e2.trans b1, c14.trans b2, c12.trans b3, fun i hi => ?_⟩
    obtain ⟨d1, d2⟩ := b4 i hi
    obtain ⟨f1, f2⟩ := hd_mb_cg d1 hi (by omega) z3 hm (cm i (by omega)).1
    rw [f2]
    exact ⟨f1, d2⟩
  · obtain ⟨⟨b1, b2, b3, b4, b5⟩, b6⟩ := h3 k
    have z3 : ∀ i : Nat, i < 1 → g' (28 * (q : Int) + 3 + (i : Int)) = g (28 * (q : Int) + 3 + (i : Int)) := fun i hi => by
      rw [Int.add_assoc]
      exact ed _ (by omega) (by omega) (fun e => by omega) (fun e => by omega)
    obtain ⟨f1, f2⟩ := hd_mb_cg b4 (by decide : 0 < 1) (by decide) z3 hm (cm 0 (by decide)).1
    refine ⟨⟨e2.trans b1, c14.trans b2, c12.trans b3, f1, by rw [f2]; exact b5⟩, ?_⟩
    unfold hd_e3
    rw [cs 0 (by decide), cs 1 (by decide), cs 2 (by decide), cs 3 (by decide), cs 4 (by decide), ed 4 (by decide) (by decide) (fun e => by omega) (fun _ => by decide), ed 5 (by decide) (by decide) (fun e => by omega) (fun _ => by decide), ed 6 (by decide) (by decide) (fun e => by omega) (fun _ => by decide), ed 7 (by decide) (by decide) (fun e => by omega) (fun _ => by decide), ed 8 (by decide) (by decide) (fun e => by omega) (fun _ => by decide)]
    exact b6
end HDC
end
