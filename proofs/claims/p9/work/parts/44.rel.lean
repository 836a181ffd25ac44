/-! HOW THE SMALL MACHINE'S VALUES STAND FOR WHOLE NUMBERS -/
def e_v : Nat → Int → MV → Prop
  | 0, x, v => ∃ y : Int32, v = .inl y ∧ y.toInt = x
  | 1, x, v => ∃ y : Int64, v = .inr (.inl y) ∧ y.toInt = x
  | 2, x, v => (x = -1 ∧ v = .inr (.inr none)) ∨ ∃ a : Nat, x = (a : Int) ∧ v = .inr (.inr (some a))
  | 3, x, v => (x = 0 ∨ x = 1) ∧ ∃ y : Int32, v = .inl y ∧ y.toInt = x
  | _, _, _ => False
theorem e_v_int {t : Nat} {x : Int} {v : MV} (ht : e_kt t = 0) (h : e_v t x v) : ∃ y : Int32, v = .inl y ∧ y.toInt = x := by
  unfold e_kt at ht
  split at ht
  · rename_i h3; subst h3; exact h.2
  · subst ht; exact h
theorem e_v_sub {t u : Nat} {x : Int} {v : MV} (ht : t = u ∨ t = 3 ∧ u = 0) (h : e_v t x v) : e_v u x v := by
  rcases ht with rfl | ⟨rfl, rfl⟩
  · exact h
  · exact h.2
theorem e_v_kt {t : Nat} {x : Int} {v : MV} (h : e_v t x v) : e_v (e_kt t) x v := by
  unfold e_kt
  split
  · rename_i h3; subst h3; exact h.2
  · exact h
theorem e_v_L {t : Nat} {x : Int} {v : MV} (h : e_v t x v) : m_isL v = decide (t = 1) := by
  match t, h with
  | 0, h => obtain ⟨y, rfl, -⟩ := h; rfl
  | 1, h => obtain ⟨y, rfl, -⟩ := h; rfl
  | 2, h => rcases h with ⟨-, rfl⟩ | ⟨a, -, rfl⟩ <;> rfl
  | 3, h => obtain ⟨-, y, rfl, -⟩ := h; rfl
def e_vs : List Nat → List Int → List MV → Prop
  | [], [], [] => True
  | t :: ts, x :: xs, v :: vs => e_v t x v ∧ e_vs ts xs vs
  | _, _, _ => False
theorem e_vs_app : ∀ {ts : List Nat} {xs : List Int} {vs : List MV} {ts' : List Nat} {xs' : List Int} {vs' : List MV}, e_vs ts xs vs → e_vs ts' xs' vs' → e_vs (ts ++ ts') (xs ++ xs') (vs ++ vs')
  | [], [], [], _, _, _, _, k => k
  | _ :: _, _ :: _, _ :: _, _, _, _, h, k => ⟨h.1, e_vs_app h.2 k⟩
theorem e_vs_c {t : Nat} {ts : List Nat} {xs : List Int} {vs : List MV} (h : e_vs (t :: ts) xs vs) : ∃ x xs' v vs', xs = x :: xs' ∧ vs = v :: vs' ∧ e_v t x v ∧ e_vs ts xs' vs' := by
  cases xs with
  | nil => cases vs <;> exact False.elim h
  | cons x xs' =>
    cases vs with
    | nil => exact False.elim h
    | cons v vs' => exact ⟨x, xs', v, vs', rfl, rfl, h.1, h.2⟩
theorem e_vs_n {xs : List Int} {vs : List MV} (h : e_vs [] xs vs) : xs = [] ∧ vs = [] := by
  cases xs with
  | nil =>
    cases vs with
    | nil => exact ⟨rfl, rfl⟩
    | cons v vs' => exact False.elim h
  | cons x xs' => cases vs <;> exact False.elim h
theorem e_vs_1 {t : Nat} {xs : List Int} {vs : List MV} (h : e_vs [t] xs vs) : ∃ x v, xs = [x] ∧ vs = [v] ∧ e_v t x v := by
  obtain ⟨x, xs', v, vs', rfl, rfl, h1, h2⟩ := e_vs_c h
  obtain ⟨rfl, rfl⟩ := e_vs_n h2
  exact ⟨x, v, rfl, rfl, h1⟩
theorem e_vs_2 {t u : Nat} {xs : List Int} {vs : List MV} (h : e_vs [t, u] xs vs) : ∃ x y v w, xs = [x, y] ∧ vs = [v, w] ∧ e_v t x v ∧ e_v u y w := by
  obtain ⟨x, xs', v, vs', rfl, rfl, h1, h2⟩ := e_vs_c h
  obtain ⟨y, w, rfl, rfl, h3⟩ := e_vs_1 h2
  exact ⟨x, y, v, w, rfl, rfl, h1, h3⟩
theorem e_vs_3 {t u s : Nat} {xs : List Int} {vs : List MV} (h : e_vs [t, u, s] xs vs) : ∃ x y z v w q, xs = [x, y, z] ∧ vs = [v, w, q] ∧ e_v t x v ∧ e_v u y w ∧ e_v s z q := by
  obtain ⟨x, xs', v, vs', rfl, rfl, h1, h2⟩ := e_vs_c h
  obtain ⟨y, z, w, q, rfl, rfl, h3, h4⟩ := e_vs_2 h2
  exact ⟨x, y, z, v, w, q, rfl, rfl, h1, h3, h4⟩
theorem e_vs_5 {t1 t2 t3 t4 t5 : Nat} {xs : List Int} {vs : List MV} (h : e_vs [t1, t2, t3, t4, t5] xs vs) : ∃ x1 x2 x3 x4 x5 v1 v2 v3 v4 v5, xs = [x1, x2, x3, x4, x5] ∧ vs = [v1, v2, v3, v4, v5] ∧ e_v t1 x1 v1 ∧ e_v t2 x2 v2 ∧ e_v t3 x3 v3 ∧ e_v t4 x4 v4 ∧ e_v t5 x5 v5 := by
  obtain ⟨x, xs', v, vs', rfl, rfl, h1, h2⟩ := e_vs_c h
  obtain ⟨y, ys', w, ws', rfl, rfl, h3, h4⟩ := e_vs_c h2
  obtain ⟨x3, x4, x5, v3, v4, v5, rfl, rfl, h5, h6, h7⟩ := e_vs_3 h4
  exact ⟨x, y, x3, x4, x5, v, w, v3, v4, v5, rfl, rfl, h1, h3, h5, h6, h7⟩
theorem e_cats_cons (v : MV) (vs : List MV) : m_cats (v :: vs) = (if m_isL v = true then 2 else 1) + m_cats vs := by
  unfold m_cats; rw [List.map_cons, List.sum_cons]
theorem e_cats_app : ∀ (us vs : List MV), m_cats (us ++ vs) = m_cats us + m_cats vs
  | [], vs => by simp [m_cats]
  | u :: us, vs => by rw [List.cons_append, e_cats_cons, e_cats_cons, e_cats_app us vs, Nat.add_assoc]
theorem e_cats_rev : ∀ vs : List MV, m_cats vs.reverse = m_cats vs
  | [] => rfl
  | v :: vs => by rw [List.reverse_cons, e_cats_app, e_cats_rev vs, e_cats_cons, e_cats_cons]; simp [m_cats]; omega
theorem e_vs_cat : ∀ {ts : List Nat} {xs : List Int} {vs : List MV}, e_vs ts xs vs → m_cats vs = e_cat ts
  | [], [], [], _ => rfl
  | t :: ts, _ :: _, v :: vs, h => by
    rw [e_cats_cons, e_vs_cat h.2, e_v_L h.1]
    simp [e_cat]
theorem e_vs_len : ∀ {ts : List Nat} {xs : List Int} {vs : List MV}, e_vs ts xs vs → ts.length = vs.length ∧ xs.length = vs.length
  | [], [], [], _ => ⟨rfl, rfl⟩
  | _ :: _, _ :: _, _ :: _, h => by have := e_vs_len h.2; simp [this.1, this.2]
theorem e_fit_vs : ∀ {ts us : List Nat} {xs : List Int} {vs : List MV}, e_fit ts us = true → e_vs ts xs vs → e_vs us xs vs
  | [], [], [], [], _, h => h
  | t :: ts, u :: us, x :: xs, v :: vs, hf, h => by
    unfold e_fit at hf
    simp only [Bool.and_eq_true, Bool.or_eq_true, decide_eq_true_eq] at hf
    exact ⟨e_v_sub hf.1 h.1, e_fit_vs hf.2 h.2⟩
  | [], _ :: _, _, _, hf, _ => by simp [e_fit] at hf
  | _ :: _, [], _, _, hf, _ => by simp [e_fit] at hf
/-- locals -/
def e_lr (nl : Nat) (G : List (Nat × Nat)) (L : List Int) (ML1 : ML) : Prop := L.length = nl ∧ ∀ i t, q_find G i = some t → ∃ v, m_get ML1 i = some v ∧ e_v t (L.getD i 0) v
def e_ft2 (ci k : Nat) : Nat := match q_ty ci k with
  | .int => 0
  | .boolean => 3
  | .long => 1
  | _ => 2
/-- what a cell holds -/
def e_ty (a k : Nat) : Nat := if (e_sh a).1 < 100 then e_ft2 (e_sh a).1 k else if (e_sh a).1 = 100 then 0 else if (e_sh a).1 = 101 then 1 else 2
/-- worlds: behind the constructors, the throws counted by a cell of their own -/
def e_wr (ro : MRo) (M : EM) (w : MWd) : Prop :=
  mnx w = e_N ∧ (∀ a, 8 ≤ a → a < e_N → msh w a = e_sh a) ∧ (∀ a k, 8 ≤ a → a < e_N → k < (e_sh a).2 → e_v (e_ty a k) (if e_ty a k = 2 then e_gr a k else M a k) (mmm w a k)) ∧
  0 ≤ M 5 0 ∧ (mcx w : Int) = e_C0 + M 5 0 ∧ (msl w : Int) = e_S0 + 6 * M 5 0 ∧
  ∀ a, a < 8 → (e_sh a).1 = 100 → ∃ n f, ro a = some (n, f) ∧ e_sz M a = n ∧ n < 2147483648 ∧ ∀ k, k < n → (f k).toInt = M a k
def e_re (ro : MRo) (d mid pc : Nat) (L : ML) (st : List MV) (w : MWd) (pc' : Nat) (L' : ML) (st' : List MV) (w' : MWd) : Prop :=
  ∀ k o, m_run ro k d mid pc' L' st' w' = some o → ∃ k', m_run ro k' d mid pc L st w = some o
section ERE
variable {ro : MRo} {d mid pc pc' pc'' : Nat} {L L' L'' : ML} {st st' st'' : List MV} {w w' w'' : MWd} {i : Instr}
theorem e_re_rf : e_re ro d mid pc L st w pc L st w := fun k _ h => ⟨k, h⟩
theorem e_re_tr (h1 : e_re ro d mid pc L st w pc' L' st' w') (h2 : e_re ro d mid pc' L' st' w' pc'' L'' st'' w'') : e_re ro d mid pc L st w pc'' L'' st'' w'' := fun k o h => by
  obtain ⟨k1, h3⟩ := h2 k o h
  exact h1 k1 o h3
theorem e_in_ok (h : e_in mid pc = some i) : q_th mid pc = none ∧ q_i mid pc = some i := by
  unfold e_in at h
  split at h
  · rename_i h1; exact ⟨h1, h⟩
  · cases h
theorem e_re_stp {r : Nat × ML × List MV × MWd} (hi : e_in mid pc = some i) (h : m_stp ro mid d i pc L st w = some r) : e_re ro d mid pc L st w r.1 r.2.1 r.2.2.1 r.2.2.2 := fun k o hk => by
  obtain ⟨h1, h2⟩ := e_in_ok hi
  exact ⟨k + 1, by rw [m_run_stp h1 h2 h]; exact hk⟩
theorem e_re_pr {r : Nat × ML × List MV} (hi : e_in mid pc = some i) (h : m_pure i pc (q_nl mid) L st = some r) : e_re ro d mid pc L st w r.1 r.2.1 r.2.2 w := e_re_stp hi (m_stp_p h)
theorem e_re_p (hi : e_in mid pc = some i) (h : m_pure i pc (q_nl mid) L st = some (pc', L', st')) : e_re ro d mid pc L st w pc' L' st' w := e_re_pr hi h
theorem e_re_h {r : List MV × MWd} (hi : e_in mid pc = some i) (h0 : m_pure i pc (q_nl mid) L st = none) (h : m_heap ro mid i st w = some r) : e_re ro d mid pc L st w (pc + m_len i) L r.1 r.2 := e_re_stp hi (m_stp_h h0 h)
theorem e_re_c {v : MV} (hi : e_in mid pc = some i) (h0 : m_pure i pc (q_nl mid) L st = none) (h1 : m_heap ro mid i st w = none) (h2 : m_new mid i st w = none) (h3 : m_ret mid i st = none) (h4 : m_obj mid i st = none) (h : m_con mid i = some v) : e_re ro d mid pc L st w (pc + m_len i) L (v :: st) w := e_re_stp hi (m_stp_c h0 h1 h2 h3 h4 h)
theorem e_re_o (hi : e_in mid pc = some i) (h0 : m_pure i pc (q_nl mid) L st = none) (h1 : m_heap ro mid i st w = none) (h2 : m_new mid i st w = none) (h3 : m_ret mid i st = none) (h : m_obj mid i st = some st') (hd : 0 < d) : e_re ro d mid pc L st w (pc + 3) L st' w := e_re_stp hi (m_stp_o h0 h1 h2 h3 h (by omega))
theorem e_no_new (h1 : ∀ idx, i ≠ .new idx) (h2 : ∀ t, i ≠ .newarray t) (h3 : ∀ idx, i ≠ .anewarray idx) : m_new mid i st w = none := m_new_none h1 h2 h3
/-- a constant -/
theorem e_re_cst {x : Int32 × Nat} (h : (e_in mid pc).bind (e_cst mid) = some x) : e_re ro d mid pc L st w (pc + x.2) L (.inl x.1 :: st) w := by
  obtain ⟨i, hi, h⟩ := Option.bind_eq_some_iff.mp h
  cases i
  case iconst n => cases h; exact e_re_p hi rfl
  case bipush n => cases h; exact e_re_p hi rfl
  case sipush n => cases h; exact e_re_p hi rfl
  case ldc idx =>
    simp only [e_cst] at h
    split at h
    · rename_i y hq
      cases h
      exact e_re_c hi rfl rfl (e_no_new (fun _ q => by cases q) (fun _ q => by cases q) (fun _ q => by cases q)) rfl rfl (by simp only [m_con, hq])
    · cases h
  case ldc_w idx =>
    simp only [e_cst] at h
    split at h
    · rename_i y hq
      cases h
      exact e_re_c hi rfl rfl (e_no_new (fun _ q => by cases q) (fun _ q => by cases q) (fun _ q => by cases q)) rfl rfl (by simp only [m_con, hq])
    · cases h
  all_goals cases h
theorem e_re_csl {x : Int64 × Nat} (h : (e_in mid pc).bind (e_csl mid) = some x) : e_re ro d mid pc L st w (pc + x.2) L (.inr (.inl x.1) :: st) w := by
  obtain ⟨i, hi, h⟩ := Option.bind_eq_some_iff.mp h
  cases i
  case lconst n => cases h; exact e_re_p hi rfl
  case ldc2_w idx =>
    simp only [e_csl] at h
    split at h
    · rename_i y hq
      cases h
      exact e_re_c hi rfl rfl (e_no_new (fun _ q => by cases q) (fun _ q => by cases q) (fun _ q => by cases q)) rfl rfl (by simp only [m_con, hq])
    · cases h
  all_goals cases h
theorem e_re_null (hi : e_in mid pc = some .aconst_null) : e_re ro d mid pc L st w (pc + 1) L (.inr (.inr none) :: st) w := e_re_p hi rfl
theorem e_re_stat {idx s : Nat} (hi : e_in mid pc = some (.getstatic idx)) (hq : q_s mid idx = some s) : e_re ro d mid pc L st w (pc + 3) L (.inr (.inr (some s)) :: st) w :=
  e_re_c hi rfl rfl (e_no_new (fun _ q => by cases q) (fun _ q => by cases q) (fun _ q => by cases q)) rfl rfl (by simp only [m_con, hq])
theorem e_ld_ok {pc2 i t : Nat} {x : Int} {v : MV} {f : MV → Bool} {c : Nat} (hg : m_get L i = some v) (hv : e_v t x v) (hc : e_kt t = c) (hf : ∀ (x : Int) (v : MV), e_v c x v → f v = true) : m_ld pc2 L st i f = some (pc2, L, v :: st) := by
  subst hc
  unfold m_ld
  rw [hg]
  dsimp only
  rw [if_pos (hf x v (e_v_kt hv))]
theorem e_f0 (x : Int) (v : MV) (h : e_v 0 x v) : m_isI v = true := by obtain ⟨y, rfl, -⟩ := h; rfl
theorem e_f1 (x : Int) (v : MV) (h : e_v 1 x v) : m_isL v = true := by obtain ⟨y, rfl, -⟩ := h; rfl
theorem e_f2 (x : Int) (v : MV) (h : e_v 2 x v) : m_isR v = true := by rcases h with ⟨-, rfl⟩ | ⟨a, -, rfl⟩ <;> rfl
theorem e_re_lod {x : Nat × Nat × Nat} {t : Nat} {y : Int} {v : MV} (h : (e_in mid pc).bind e_lod = some x) (hg : m_get L x.1 = some v) (hv : e_v t y v) (hc : e_kt t = x.2.1) : e_re ro d mid pc L st w (pc + x.2.2) L (v :: st) w := by
  obtain ⟨i, hi, h⟩ := Option.bind_eq_some_iff.mp h
  cases i <;> first
    | (cases h; exact e_re_p hi (e_ld_ok hg hv hc e_f0))
    | (cases h; exact e_re_p hi (e_ld_ok hg hv hc e_f1))
    | (cases h; exact e_re_p hi (e_ld_ok hg hv hc e_f2))
    | (cases h; done)
/-! numbers -/
theorem e_wb (x : Int) : x.bmod 4294967296 = e_w x := by
  unfold e_w Int.bmod
  dsimp only
  split <;> omega
theorem e_Wb (x : Int) : x.bmod 18446744073709551616 = e_W x := by
  unfold e_W Int.bmod
  dsimp only
  split <;> omega
theorem e_of (x : Int32) : Int32.ofInt x.toInt = x := Int32.ofInt_toInt x
theorem e_rng (x : Int32) : -2147483648 ≤ x.toInt ∧ x.toInt ≤ 2147483647 := ⟨Int32.le_toInt x, by have := Int32.toInt_lt x; omega⟩
theorem e_rngL (x : Int64) : -9223372036854775808 ≤ x.toInt ∧ x.toInt ≤ 9223372036854775807 := ⟨Int64.le_toInt x, by have := Int64.toInt_lt x; omega⟩
theorem e_zero {y : Int32} : y = 0 ↔ y.toInt = 0 := by rw [← Int32.toInt_inj]; rfl
theorem e_zeroL {y : Int64} : y = 0 ↔ y.toInt = 0 := by rw [← Int64.toInt_inj]; rfl
theorem e_rem (x y : Int32) : (x - x / y * y).toInt = x.toInt.tmod y.toInt := by
  have h1 := e_rng x
  have h2 : -2147483648 ≤ x.toInt.tmod y.toInt ∧ x.toInt.tmod y.toInt ≤ 2147483647 := by
    by_cases hy : y.toInt = 0
    · rw [hy, Int.tmod_zero]; exact h1
    · have h5 := e_rng y
      have h6 : (x.toInt.tmod y.toInt).natAbs < y.toInt.natAbs := by
        rw [Int.natAbs_tmod]; exact Nat.mod_lt _ (by omega)
      revert h6
      generalize x.toInt.tmod y.toInt = z
      intro h6
      omega
  rw [Int32.toInt_sub, Int32.toInt_mul, Int32.toInt_div]
  have h3 : (((x.toInt.tdiv y.toInt).bmod (2 ^ 32) * y.toInt).bmod (2 ^ 32)) = (x.toInt.tdiv y.toInt * y.toInt).bmod (2 ^ 32) := by
    rw [Int.bmod_mul_bmod]
  rw [h3, Int.sub_bmod_bmod]
  have h4 : x.toInt - x.toInt.tdiv y.toInt * y.toInt = x.toInt.tmod y.toInt := by
    rw [Int.tmod_def, Int.mul_comm]
  rw [h4]
  show Int.bmod _ 4294967296 = _
  rw [e_wb]
  unfold e_w
  clear h3 h4
  revert h2
  generalize x.toInt.tmod y.toInt = z
  intro h2
  omega
end ERE
