section
/-! HOW THE SMALL MACHINE'S VALUES STAND FOR WHOLE NUMBERS -/
def e_v : Nat → Int → MV → Prop
  | 0, x, v => ∃ y : Int32, v = .inl y ∧ y.toInt = x
  | 1, x, v => ∃ y : Int64, v = .inr (.inl y) ∧ y.toInt = x
  | 2, x, v => (x = -1 ∧ v = .inr (.inr none)) ∨ ∃ a : Nat, x = (a : Int) ∧ v = .inr (.inr (some a))
  | 3, x, v => (x = 0 ∨ x = 1) ∧ ∃ y : Int32, v = .inl y ∧ y.toInt = x
  | _, _, _ => False
theorem e_v_int {t : Nat} {x : Int} {v : MV} (ht : e_kt t = 0) (h : e_v t x v) : ∃ y : Int32, v = .inl y ∧ y.toInt = x := by
  unfold e_kt at ht
  split at ht
  · rename_i h3; subst h3; exact h.2
  · subst ht; exact h
theorem e_v_sub {t u : Nat} {x : Int} {v : MV} (ht : t = u ∨ t = 3 ∧ u = 0) (h : e_v t x v) : e_v u x v := by
  rcases ht with rfl | ⟨rfl, rfl⟩
  · exact h
  · exact h.2
theorem e_v_kt {t : Nat} {x : Int} {v : MV} (h : e_v t x v) : e_v (e_kt t) x v := by
  unfold e_kt
  split
  · rename_i h3; subst h3; exact h.2
  · exact h
theorem e_v_L {t : Nat} {x : Int} {v : MV} (h : e_v t x v) : m_isL v = decide (t = 1) := by
  match t, h with
  | 0, h => obtain ⟨y, rfl, -⟩ := h; rfl
  | 1, h => obtain ⟨y, rfl, -⟩ := h; rfl
  | 2, h => rcases h with ⟨-, rfl⟩ | ⟨a, -, rfl⟩ <;> rfl
  | 3, h => obtain ⟨-, y, rfl, -⟩ := h; rfl
def e_vs : List Nat → List Int → List MV → Prop
  | [], [], [] => True
  | t :: ts, x :: xs, v :: vs => e_v t x v ∧ e_vs ts xs vs
  | _, _, _ => False
theorem e_vs_app : ∀ {ts : List Nat} {xs : List Int} {vs : List MV} {ts' : List Nat} {xs' : List Int} {vs' : List MV}, e_vs ts xs vs → e_vs ts' xs' vs' → e_vs (ts ++ ts') (xs ++ xs') (vs ++ vs')
  | [], [], [], _, _, _, _, k => k
  | _ :: _, _ :: _, _ :: _, _, _, _, h, k => ⟨h.1, e_vs_app h.2 k⟩
theorem e_vs_c {t : Nat} {ts : List Nat} {xs : List Int} {vs : List MV} (h : e_vs (t :: ts) xs vs) : ∃ x xs' v vs', xs = x :: xs' ∧ vs = v :: vs' ∧ e_v t x v ∧ e_vs ts xs' vs' := by
  cases xs with
  | nil => cases vs <;> exact False.elim h
  | cons x xs' =>
    cases vs with
    | nil => exact False.elim h
    | cons v vs' => exact ⟨x, xs', v, vs', rfl, rfl, h.1, h.2⟩
theorem e_vs_n {xs : List Int} {vs : List MV} (h : e_vs [] xs vs) : xs = [] ∧ vs = [] := by
  cases xs with
  | nil =>
    cases vs with
    | nil => exact ⟨rfl, rfl⟩
    | cons v vs' => exact False.elim h
  | cons x xs' => cases vs <;> exact False.elim h
theorem e_vs_1 {t : Nat} {xs : List Int} {vs : List MV} (h : e_vs [t] xs vs) : ∃ x v, xs = [x] ∧ vs = [v] ∧ e_v t x v := by
  obtain ⟨x, xs', v, vs', rfl, rfl, h1, h2⟩ := e_vs_c h
  obtain ⟨rfl, rfl⟩ := e_vs_n h2
  exact ⟨x, v, rfl, rfl, h1⟩
theorem e_vs_2 {t u : Nat} {xs : List Int} {vs : List MV} (h : e_vs [t, u] xs vs) : ∃ x y v w, xs = [x, y] ∧ vs = [v, w] ∧ e_v t x v ∧ e_v u y w := by
  obtain ⟨x, xs', v, vs', rfl, rfl, h1, h2⟩ := e_vs_c h
  obtain ⟨y, w, rfl, rfl, h3⟩ := e_vs_1 h2
  exact ⟨x, y, v, w, rfl, rfl, h1, h3⟩
theorem e_vs_3 {t u s : Nat} {xs : List Int} {vs : List MV} (h : e_vs [t, u, s] xs vs) : ∃ x y z v w q, xs = [x, y, z] ∧ vs = [v, w, q] ∧ e_v t x v ∧ e_v u y w ∧ e_v s z q := by
  obtain ⟨x, xs', v, vs', rfl, rfl, h1, h2⟩ := e_vs_c h
  obtain ⟨y, z, w, q, rfl, rfl, h3, h4⟩ := e_vs_2 h2
  exact ⟨x, y, z, v, w, q, rfl, rfl, h1, h3, h4⟩
theorem e_vs_5 {t1 t2 t3 t4 t5 : Nat} {xs : List Int} {vs : List MV} (h : e_vs [t1, t2, t3, t4, t5] xs vs) : ∃ x1 x2 x3 x4 x5 v1 v2 v3 v4 v5, xs = [x1, x2, x3, x4, x5] ∧ vs = [v1, v2, v3, v4, v5] ∧ e_v t1 x1 v1 ∧ e_v t2 x2 v2 ∧ e_v t3 x3 v3 ∧ e_v t4 x4 v4 ∧ e_v t5 x5 v5 := by
  obtain ⟨x, xs', v, vs', rfl, rfl, h1, h2⟩ := e_vs_c h
  obtain ⟨y, ys', w, ws', rfl, rfl, h3, h4⟩ := e_vs_c h2
  obtain ⟨x3, x4, x5, v3, v4, v5, rfl, rfl, h5, h6, h7⟩ := e_vs_3 h4
  exact ⟨x, y, x3, x4, x5, v, w, v3, v4, v5, rfl, rfl, h1, h3, h5, h6, h7⟩
theorem e_cats_cons (v : MV) (vs : List MV) : m_cats (v :: vs) = (if m_isL v = true then 2 else 1) + m_cats vs := by
  unfold m_cats; rw [List.map_cons, List.sum_cons]
theorem e_cats_app : ∀ (us vs : List MV), m_cats (us ++ vs) = m_cats us + m_cats vs
  | [], vs => by simp [m_cats]
  | u :: us, vs => by rw [List.cons_append, e_cats_cons, e_cats_cons, e_cats_app us vs, Nat.add_assoc]
theorem e_cats_rev : ∀ vs : List MV, m_cats vs.reverse = m_cats vs
  | [] => rfl
  | v :: vs => by rw [List.reverse_cons, e_cats_app, e_cats_rev vs, e_cats_cons, e_cats_cons]; simp [m_cats]; omega
theorem e_vs_cat : ∀ {ts : List Nat} {xs : List Int} {vs : List MV}, e_vs ts xs vs → m_cats vs = e_cat ts
  | [], [], [], _ => rfl
  | t :: ts, _ :: _, v :: vs, h => by
    rw [e_cats_cons, e_vs_cat h.2, e_v_L h.1]
    simp [e_cat]
theorem e_vs_len : ∀ {ts : List Nat} {xs : List Int} {vs : List MV}, e_vs ts xs vs → ts.length = vs.length ∧ xs.length = vs.length
  | [], [], [], _ => ⟨rfl, rfl⟩
  | _ :: _, _ :: _, _ :: _, h => by have := e_vs_len h.2; simp [this.1, this.2]
theorem e_fit_vs : ∀ {ts us : List Nat} {xs : List Int} {vs : List MV}, e_fit ts us = true → e_vs ts xs vs → e_vs us xs vs
  | [], [], [], [], _, h => h
  | t :: ts, u :: us, x :: xs, v :: vs, hf, h => by
    unfold e_fit at hf
    simp only [Bool.and_eq_true, Bool.or_eq_true, decide_eq_true_eq] at hf
    exact ⟨e_v_sub hf.1 h.1, e_fit_vs hf.2 h.2⟩
  | [], _ :: _, _, _, hf, _ => by simp [e_fit] at hf
  | _ :: _, [], _, _, hf, _ => by simp [e_fit] at hf
/-- locals -/
def e_lr (nl : Nat) (G : List (Nat × Nat)) (L : List Int) (ML1 : ML) : Prop := L.length = nl ∧ ∀ i t, q_find G i = some t → ∃ v, m_get ML1 i = some v ∧ e_v t (L.getD i 0) v
def e_ft2 (ci k : Nat) : Nat := match q_ty ci k with
  | .int => 0
  | .boolean => 3
  | .long => 1
  | _ => 2
/-- what a cell holds -/
def e_ty (a k : Nat) : Nat := if (e_sh a).1 < 100 then e_ft2 (e_sh a).1 k else if (e_sh a).1 = 100 then 0 else if (e_sh a).1 = 101 then 1 else 2
/-- worlds: behind the constructors, the throws counted by a cell of their own -/
def e_wr (ro : MRo) (M : EM) (w : MWd) : Prop :=
  mnx w = e_N ∧ (∀ a, 8 ≤ a → a < e_N → msh w a = e_sh a) ∧ (∀ a k, 8 ≤ a → a < e_N → k < (e_sh a).2 → e_v (e_ty a k) (if e_ty a k = 2 then e_gr a k else M a k) (mmm w a k)) ∧
  0 ≤ M 5 0 ∧ (mcx w : Int) = e_C0 + M 5 0 ∧ (msl w : Int) = e_S0 + 6 * M 5 0 ∧
  ∀ a, a < 8 → (e_sh a).1 = 100 → ∃ n f, ro a = some (n, f) ∧ e_sz M a = n ∧ n < 2147483648 ∧ ∀ k, k < n → (f k).toInt = M a k
def e_re (ro : MRo) (d mid pc : Nat) (L : ML) (st : List MV) (w : MWd) (pc' : Nat) (L' : ML) (st' : List MV) (w' : MWd) : Prop :=
  ∀ k o, m_run ro k d mid pc' L' st' w' = some o → ∃ k', m_run ro k' d mid pc L st w = some o
section ERE
variable {ro : MRo} {d mid pc pc' pc'' : Nat} {L L' L'' : ML} {st st' st'' : List MV} {w w' w'' : MWd} {i : Instr}
theorem e_re_rf : e_re ro d mid pc L st w pc L st w := fun k _ h => ⟨k, h⟩
theorem e_re_tr (h1 : e_re ro d mid pc L st w pc' L' st' w') (h2 : e_re ro d mid pc' L' st' w' pc'' L'' st'' w'') : e_re ro d mid pc L st w pc'' L'' st'' w'' := fun k o h => by
  obtain ⟨k1, h3⟩ := h2 k o h
  exact h1 k1 o h3
theorem e_in_ok (h : e_in mid pc = some i) : q_th mid pc = none ∧ q_i mid pc = some i := by
  unfold e_in at h
  split at h
  · rename_i h1; exact ⟨h1, h⟩
  · cases h
theorem e_re_stp {r : Nat × ML × List MV × MWd} (hi : e_in mid pc = some i) (h : m_stp ro mid d i pc L st w = some r) : e_re ro d mid pc L st w r.1 r.2.1 r.2.2.1 r.2.2.2 := fun k o hk => by
  obtain ⟨h1, h2⟩ := e_in_ok hi
  exact ⟨k + 1, by rw [m_run_stp h1 h2 h]; exact hk⟩
theorem e_re_pr {r : Nat × ML × List MV} (hi : e_in mid pc = some i) (h : m_pure i pc (q_nl mid) L st = some r) : e_re ro d mid pc L st w r.1 r.2.1 r.2.2 w := e_re_stp hi (m_stp_p h)
theorem e_re_p (hi : e_in mid pc = some i) (h : m_pure i pc (q_nl mid) L st = some (pc', L', st')) : e_re ro d mid pc L st w pc' L' st' w := e_re_pr hi h
theorem e_re_h {r : List MV × MWd} (hi : e_in mid pc = some i) (h0 : m_pure i pc (q_nl mid) L st = none) (h : m_heap ro mid i st w = some r) : e_re ro d mid pc L st w (pc + m_len i) L r.1 r.2 := e_re_stp hi (m_stp_h h0 h)
theorem e_re_c {v : MV} (hi : e_in mid pc = some i) (h0 : m_pure i pc (q_nl mid) L st = none) (h1 : m_heap ro mid i st w = none) (h2 : m_new mid i st w = none) (h3 : m_ret mid i st = none) (h4 : m_obj mid i st = none) (h : m_con mid i = some v) : e_re ro d mid pc L st w (pc + m_len i) L (v :: st) w := e_re_stp hi (m_stp_c h0 h1 h2 h3 h4 h)
theorem e_re_o (hi : e_in mid pc = some i) (h0 : m_pure i pc (q_nl mid) L st = none) (h1 : m_heap ro mid i st w = none) (h2 : m_new mid i st w = none) (h3 : m_ret mid i st = none) (h : m_obj mid i st = some st') (hd : 0 < d) : e_re ro d mid pc L st w (pc + 3) L st' w := e_re_stp hi (m_stp_o h0 h1 h2 h3 h (by omega))
theorem e_no_new (h1 : ∀ idx, i ≠ .new idx) (h2 : ∀ t, i ≠ .newarray t) (h3 : ∀ idx, i ≠ .anewarray idx) : m_new mid i st w = none := m_new_none h1 h2 h3
/-- a constant -/
theorem e_re_cst {x : Int32 × Nat} (h : (e_in mid pc).bind (e_cst mid) = some x) : e_re ro d mid pc L st w (pc + x.2) L (.inl x.1 :: st) w := by
  obtain ⟨i, hi, h⟩ := Option.bind_eq_some_iff.mp h
  cases i
  case iconst n => cases h; exact e_re_p hi rfl
  case bipush n => cases h; exact e_re_p hi rfl
  case sipush n => cases h; exact e_re_p hi rfl
  case ldc idx =>
    simp only [e_cst] at h
    split at h
    · rename_i y hq
      cases h
      exact e_re_c hi rfl rfl (e_no_new (fun _ q => by cases q) (fun _ q => by cases q) (fun _ q => by cases q)) rfl rfl (by simp only [m_con, hq])
    · cases h
  case ldc_w idx =>
    simp only [e_cst] at h
    split at h
    · rename_i y hq
      cases h
      exact e_re_c hi rfl rfl (e_no_new (fun _ q => by cases q) (fun _ q => by cases q) (fun _ q => by cases q)) rfl rfl (by simp only [m_con, hq])
    · cases h
  all_goals cases h
theorem e_re_csl {x : Int64 × Nat} (h : (e_in mid pc).bind (e_csl mid) = some x) : e_re ro d mid pc L st w (pc + x.2) L (.inr (.inl x.1) :: st) w := by
  obtain ⟨i, hi, h⟩ := Option.bind_eq_some_iff.mp h
  cases i
  case lconst n => cases h; exact e_re_p hi rfl
  case ldc2_w idx =>
    simp only [e_csl] at h
    split at h
    · rename_i y hq
      cases h
      exact e_re_c hi rfl rfl (e_no_new (fun _ q => by cases q) (fun _ q => by cases q) (fun _ q => by cases q)) rfl rfl (by simp only [m_con, hq])
    · cases h
  all_goals cases h
theorem e_re_null (hi : e_in mid pc = some .aconst_null) : e_re ro d mid pc L st w (pc + 1) L (.inr (.inr none) :: st) w := e_re_p hi rfl
theorem e_re_stat {idx s : Nat} (hi : e_in mid pc = some (.getstatic idx)) (hq : q_s mid idx = some s) : e_re ro d mid pc L st w (pc + 3) L (.inr (.inr (some s)) :: st) w :=
  e_re_c hi rfl rfl (e_no_new (fun _ q => by cases q) (fun _ q => by cases q) (fun _ q => by cases q)) rfl rfl (by simp only [m_con, hq])
theorem e_ld_ok {pc2 i t : Nat} {x : Int} {v : MV} {f : MV → Bool} {c : Nat} (hg : m_get L i = some v) (hv : e_v t x v) (hc : e_kt t = c) (hf : ∀ (x : Int) (v : MV), e_v c x v → f v = true) : m_ld pc2 L st i f = some (pc2, L, v :: st) := by
  subst hc
  unfold m_ld
  rw [hg]
  dsimp only
  rw [if_pos (hf x v (e_v_kt hv))]
theorem e_f0 (x : Int) (v : MV) (h : e_v 0 x v) : m_isI v = true := by obtain ⟨y, rfl, -⟩ := h; rfl
theorem e_f1 (x : Int) (v : MV) (h : e_v 1 x v) : m_isL v = true := by obtain ⟨y, rfl, -⟩ := h; rfl
theorem e_f2 (x : Int) (v : MV) (h : e_v 2 x v) : m_isR v = true := by rcases h with ⟨-, rfl⟩ | ⟨a, -, rfl⟩ <;> rfl
theorem e_re_lod {x : Nat × Nat × Nat} {t : Nat} {y : Int} {v : MV} (h : (e_in mid pc).bind e_lod = some x) (hg : m_get L x.1 = some v) (hv : e_v t y v) (hc : e_kt t = x.2.1) : e_re ro d mid pc L st w (pc + x.2.2) L (v :: st) w := by
  obtain ⟨i, hi, h⟩ := Option.bind_eq_some_iff.mp h
  cases i <;> first
    | (cases h; exact e_re_p hi (e_ld_ok hg hv hc e_f0))
    | (cases h; exact e_re_p hi (e_ld_ok hg hv hc e_f1))
    | (cases h; exact e_re_p hi (e_ld_ok hg hv hc e_f2))
    | (cases h; done)
/-! numbers -/
theorem e_wb (x : Int) : x.bmod 4294967296 = e_w x := by
  unfold e_w Int.bmod
  dsimp only
  split <;> omega
theorem e_Wb (x : Int) : x.bmod 18446744073709551616 = e_W x := by
  unfold e_W Int.bmod
  dsimp only
  split <;> omega
theorem e_of (x : Int32) : Int32.ofInt x.toInt = x := Int32.ofInt_toInt x
theorem e_rng (x : Int32) : -2147483648 ≤ x.toInt ∧ x.toInt ≤ 2147483647 := ⟨Int32.le_toInt x, by have := Int32.toInt_lt x; omega⟩
theorem e_rngL (x : Int64) : -9223372036854775808 ≤ x.toInt ∧ x.toInt ≤ 9223372036854775807 := ⟨Int64.le_toInt x, by have := Int64.toInt_lt x; omega⟩
theorem e_zero {y : Int32} : y = 0 ↔ y.toInt = 0 := by rw [← Int32.toInt_inj]; rfl
theorem e_zeroL {y : Int64} : y = 0 ↔ y.toInt = 0 := by rw [← Int64.toInt_inj]; rfl
theorem e_rem (x y : Int32) : (x - x / y * y).toInt = x.toInt.tmod y.toInt := by
  have h1 := e_rng x
  have h2 : -2147483648 ≤ x.toInt.tmod y.toInt ∧ x.toInt.tmod y.toInt ≤ 2147483647 := by
    by_cases hy : y.toInt = 0
    · rw [hy, Int.tmod_zero]; exact h1
    · have h5 := e_rng y
      have h6 : (x.toInt.tmod y.toInt).natAbs < y.toInt.natAbs := by
        rw [Int.natAbs_tmod]; exact Nat.mod_lt _ (by omega)
      revert h6
      generalize x.toInt.tmod y.toInt = z
      intro h6
      omega
  rw [Int32.toInt_sub, Int32.toInt_mul, Int32.toInt_div]
  have h3 : (((x.toInt.tdiv y.toInt).bmod (2 ^ 32) * y.toInt).bmod (2 ^ 32)) = (x.toInt.tdiv y.toInt * y.toInt).bmod (2 ^ 32) := by
    rw [Int.bmod_mul_bmod]
  rw [h3, Int.sub_bmod_bmod]
  have h4 : x.toInt - x.toInt.tdiv y.toInt * y.toInt = x.toInt.tmod y.toInt := by
    rw [Int.tmod_def, Int.mul_comm]
  rw [h4]
  show Int.bmod _ 4294967296 = _
  rw [e_wb]
  unfold e_w
  clear h3 h4
  revert h2
  generalize x.toInt.tmod y.toInt = z
  intro h2
  omega
end ERE
end
section
section EOPS
variable {ro : MRo} {d mid pc : Nat} {L : ML} {st : List MV} {w : MWd} {i : Instr}
theorem e_re_i2 {c : Nat × Nat × Nat} {t u : Nat} {x y z : Int} {v v2 : MV} (hi : e_in mid pc = some i) (h : e_i2 i = some c) (ht : e_kt t = c.2.1) (hu : e_kt u = c.2.1) (hv : e_v t x v) (hv2 : e_v u y v2) (he : e_b2 c.1 x y = some z) :
    ∃ q, e_v c.2.2 z q ∧ e_re ro d mid pc L (v2 :: v :: st) w (pc + 1) L (q :: st) w := by
  cases i
  case iadd =>
    cases h
    obtain ⟨a, rfl, rfl⟩ := e_v_int ht hv
    obtain ⟨b, rfl, rfl⟩ := e_v_int hu hv2
    cases he
    exact ⟨.inl (a + b), ⟨_, rfl, by rw [Int32.toInt_add]; exact e_wb _⟩, e_re_p hi rfl⟩
  case isub =>
    cases h
    obtain ⟨a, rfl, rfl⟩ := e_v_int ht hv
    obtain ⟨b, rfl, rfl⟩ := e_v_int hu hv2
    cases he
    exact ⟨.inl (a - b), ⟨_, rfl, by rw [Int32.toInt_sub]; exact e_wb _⟩, e_re_p hi rfl⟩
  case imul =>
    cases h
    obtain ⟨a, rfl, rfl⟩ := e_v_int ht hv
    obtain ⟨b, rfl, rfl⟩ := e_v_int hu hv2
    cases he
    exact ⟨.inl (a * b), ⟨_, rfl, by rw [Int32.toInt_mul]; exact e_wb _⟩, e_re_p hi rfl⟩
  case idiv =>
    cases h
    obtain ⟨a, rfl, rfl⟩ := e_v_int ht hv
    obtain ⟨b, rfl, rfl⟩ := e_v_int hu hv2
    simp only [e_b2] at he
    split at he
    · cases he
    · rename_i h0
      cases he
      exact ⟨.inl (a / b), ⟨_, rfl, by rw [Int32.toInt_div]; exact e_wb _⟩, e_re_p hi (by simp only [m_pure, m_ii, if_neg (fun q => h0 (e_zero.mp q))])⟩
  case irem =>
    cases h
    obtain ⟨a, rfl, rfl⟩ := e_v_int ht hv
    obtain ⟨b, rfl, rfl⟩ := e_v_int hu hv2
    simp only [e_b2] at he
    split at he
    · cases he
    · rename_i h0
      cases he
      exact ⟨.inl (a - a / b * b), ⟨_, rfl, e_rem a b⟩, e_re_p hi (by simp only [m_pure, m_ii, if_neg (fun q => h0 (e_zero.mp q))])⟩
  case iand =>
    cases h
    obtain ⟨a, rfl, rfl⟩ := e_v_int ht hv
    obtain ⟨b, rfl, rfl⟩ := e_v_int hu hv2
    cases he
    exact ⟨.inl (a &&& b), ⟨_, rfl, by unfold e_bit; rw [e_of, e_of]⟩, e_re_p hi rfl⟩
  case ior =>
    cases h
    obtain ⟨a, rfl, rfl⟩ := e_v_int ht hv
    obtain ⟨b, rfl, rfl⟩ := e_v_int hu hv2
    cases he
    exact ⟨.inl (a ||| b), ⟨_, rfl, by unfold e_bit; rw [e_of, e_of]⟩, e_re_p hi rfl⟩
  case ixor =>
    cases h
    obtain ⟨a, rfl, rfl⟩ := e_v_int ht hv
    obtain ⟨b, rfl, rfl⟩ := e_v_int hu hv2
    cases he
    exact ⟨.inl (a ^^^ b), ⟨_, rfl, by unfold e_bit; rw [e_of, e_of]⟩, e_re_p hi rfl⟩
  case ishl =>
    cases h
    obtain ⟨a, rfl, rfl⟩ := e_v_int ht hv
    obtain ⟨b, rfl, rfl⟩ := e_v_int hu hv2
    cases he
    exact ⟨.inl (a <<< (b &&& 31)), ⟨_, rfl, by unfold e_bit; rw [e_of, e_of]⟩, e_re_p hi rfl⟩
  case ishr =>
    cases h
    obtain ⟨a, rfl, rfl⟩ := e_v_int ht hv
    obtain ⟨b, rfl, rfl⟩ := e_v_int hu hv2
    cases he
    exact ⟨.inl (a >>> (b &&& 31)), ⟨_, rfl, by unfold e_bit; rw [e_of, e_of]⟩, e_re_p hi rfl⟩
  case iushr =>
    cases h
    obtain ⟨a, rfl, rfl⟩ := e_v_int ht hv
    obtain ⟨b, rfl, rfl⟩ := e_v_int hu hv2
    cases he
    exact ⟨.inl (a.toUInt32 >>> (b.toUInt32 &&& Int32.toUInt32 31)).toInt32, ⟨_, rfl, by unfold e_bit; rw [e_of, e_of]⟩, e_re_p hi rfl⟩
  case ladd =>
    cases h
    obtain ⟨a, rfl, rfl⟩ := (by have := e_v_kt hv; rw [ht] at this; exact this : e_v 1 x v)
    obtain ⟨b, rfl, rfl⟩ := (by have := e_v_kt hv2; rw [hu] at this; exact this : e_v 1 y v2)
    cases he
    exact ⟨.inr (.inl (a + b)), ⟨_, rfl, by rw [Int64.toInt_add]; exact e_Wb _⟩, e_re_p hi rfl⟩
  case lsub =>
    cases h
    obtain ⟨a, rfl, rfl⟩ := (by have := e_v_kt hv; rw [ht] at this; exact this : e_v 1 x v)
    obtain ⟨b, rfl, rfl⟩ := (by have := e_v_kt hv2; rw [hu] at this; exact this : e_v 1 y v2)
    cases he
    exact ⟨.inr (.inl (a - b)), ⟨_, rfl, by rw [Int64.toInt_sub]; exact e_Wb _⟩, e_re_p hi rfl⟩
  case lmul =>
    cases h
    obtain ⟨a, rfl, rfl⟩ := (by have := e_v_kt hv; rw [ht] at this; exact this : e_v 1 x v)
    obtain ⟨b, rfl, rfl⟩ := (by have := e_v_kt hv2; rw [hu] at this; exact this : e_v 1 y v2)
    cases he
    exact ⟨.inr (.inl (a * b)), ⟨_, rfl, by rw [Int64.toInt_mul]; exact e_Wb _⟩, e_re_p hi rfl⟩
  case ldiv =>
    cases h
    obtain ⟨a, rfl, rfl⟩ := (by have := e_v_kt hv; rw [ht] at this; exact this : e_v 1 x v)
    obtain ⟨b, rfl, rfl⟩ := (by have := e_v_kt hv2; rw [hu] at this; exact this : e_v 1 y v2)
    simp only [e_b2] at he
    split at he
    · cases he
    · rename_i h0
      cases he
      exact ⟨.inr (.inl (a / b)), ⟨_, rfl, by rw [Int64.toInt_div]; exact e_Wb _⟩, e_re_p hi (by simp only [m_pure, m_ll, if_neg (fun q => h0 (e_zeroL.mp q))])⟩
  all_goals cases h
theorem e_re_i1 {c : Nat × Nat × Nat} {t : Nat} {x z : Int} {v : MV} (hi : e_in mid pc = some i) (h : e_i1 i = some c) (ht : e_kt t = c.2.1) (hv : e_v t x v) (he : e_b1 c.1 x = some z) :
    ∃ q, e_v c.2.2 z q ∧ e_re ro d mid pc L (v :: st) w (pc + 1) L (q :: st) w := by
  cases i
  case ineg =>
    cases h
    obtain ⟨a, rfl, rfl⟩ := e_v_int ht hv
    cases he
    exact ⟨.inl (-a), ⟨_, rfl, by rw [Int32.toInt_neg]; exact e_wb _⟩, e_re_p hi rfl⟩
  case i2l =>
    cases h
    obtain ⟨a, rfl, rfl⟩ := e_v_int ht hv
    cases he
    exact ⟨.inr (.inl a.toInt64), ⟨_, rfl, Int32.toInt_toInt64 a⟩, e_re_p hi rfl⟩
  case l2i =>
    cases h
    obtain ⟨a, rfl, rfl⟩ := (by have := e_v_kt hv; rw [ht] at this; exact this : e_v 1 x v)
    cases he
    exact ⟨.inl a.toInt32, ⟨_, rfl, by rw [Int64.toInt_toInt32]; exact e_wb _⟩, e_re_p hi rfl⟩
  case i2b =>
    cases h
    obtain ⟨a, rfl, rfl⟩ := e_v_int ht hv
    cases he
    refine ⟨.inl a.toInt8.toInt32, ⟨_, rfl, ?_⟩, e_re_p hi rfl⟩
    rw [Int8.toInt_toInt32, Int32.toInt_toInt8]
    show Int.bmod _ 256 = _
    unfold Int.bmod
    dsimp only
    split <;> omega
  case i2s =>
    cases h
    obtain ⟨a, rfl, rfl⟩ := e_v_int ht hv
    cases he
    refine ⟨.inl a.toInt16.toInt32, ⟨_, rfl, ?_⟩, e_re_p hi rfl⟩
    rw [Int16.toInt_toInt32, Int32.toInt_toInt16]
    show Int.bmod _ 65536 = _
    unfold Int.bmod
    dsimp only
    split <;> omega
  all_goals cases h
/-! tables' facts -/
theorem e_q_ft : (q_ft.all fun l => l.all fun r => decide (r.2.1 < 13) && decide (r.2.2.1 < q_nf r.2.1)) = true := by decide +kernel
theorem e_q_f {idx ci k : Nat} (h : q_f mid idx = some (ci, k)) : ci < 13 ∧ k < q_nf ci := by
  unfold q_f q_ff at h
  split at h
  · rename_i v hv
    cases h
    have hm := q_find_mem hv
    rcases q_getD (L := q_ft) (i := q_oc mid) with e | e
    · rw [e] at hm; cases hm
    · have h2 := List.all_eq_true.mp (List.all_eq_true.mp e_q_ft _ e) _ hm
      simp only [Bool.and_eq_true, decide_eq_true_eq] at h2
      exact h2
  · cases h
theorem e_sh_all : ((List.range e_N).all fun a => decide (a < 8) || (if (e_sh a).1 < 100 then decide ((e_sh a).2 = q_nf (e_sh a).1) else decide ((e_sh a).2 ≤ 60000) && (decide ((e_sh a).1 = 100) || decide ((e_sh a).1 = 101) || q_ra ((e_sh a).1 - 102)))) = true := by decide +kernel
theorem e_sh_ok {a : Nat} (h8 : 8 ≤ a) (hn : a < e_N) : if (e_sh a).1 < 100 then (e_sh a).2 = q_nf (e_sh a).1 else (e_sh a).2 ≤ 60000 ∧ ((e_sh a).1 = 100 ∨ (e_sh a).1 = 101 ∨ q_ra ((e_sh a).1 - 102) = true) := by
  have h := List.all_eq_true.mp e_sh_all a (List.mem_range.mpr hn)
  rw [Bool.or_eq_true] at h
  rcases h with h | h
  · exact absurd (of_decide_eq_true h) (by omega)
  · split at h
    · rename_i hc; rw [if_pos hc]; exact of_decide_eq_true h
    · rename_i hc; rw [if_neg hc]
      simp only [Bool.and_eq_true, Bool.or_eq_true, decide_eq_true_eq] at h
      rcases h with ⟨h1, (h2 | h2) | h2⟩
      · exact ⟨h1, Or.inl h2⟩
      · exact ⟨h1, Or.inr (Or.inl h2)⟩
      · exact ⟨h1, Or.inr (Or.inr h2)⟩
theorem e_sh_lo : ∀ a, a < 8 → (e_sh a).1 ≤ 100 := by decide +kernel
theorem e_v2 {x : Int} {v : MV} (h : e_v 2 x v) (h0 : 0 ≤ x) : v = .inr (.inr (some x.toNat)) := by
  rcases h with ⟨rfl, -⟩ | ⟨a, rfl, rfl⟩
  · omega
  · simp
/-- a field is read -/
theorem e_re_get {M : EM} {idx key : Nat} {x z : Int} {v : MV} (hi : e_in mid pc = some (.getfield idx)) (hq : q_f mid idx = some (key / 64, key % 64)) (hW : e_wr ro M w) (hv : e_v 2 x v) (he : e_gf key [x] M = some z) :
    ∃ q, e_v (e_fty key) z q ∧ e_re ro d mid pc L (v :: st) w (pc + 3) L (q :: st) w := by
  obtain ⟨w1, w2, w3, -⟩ := hW
  obtain ⟨f1, f2⟩ := e_q_f hq
  simp only [e_gf] at he
  split at he
  · rename_i hc
    obtain ⟨c1, c2, c3⟩ := hc
    cases he
    have h8 : 8 ≤ x.toNat := by omega
    have hs := e_sh_ok h8 c2
    rw [if_pos (by omega)] at hs
    have hty : e_ty x.toNat (key % 64) = e_fty key := by
      unfold e_ty
      rw [if_pos (by omega), c3]
      rfl
    have h3 := w3 x.toNat (key % 64) h8 c2 (by rw [hs, c3]; exact f2)
    rw [hty] at h3
    refine ⟨mmm w x.toNat (key % 64), h3, ?_⟩
    have hv2 := e_v2 hv (by omega)
    subst hv2
    refine e_re_h (r := (mmm w x.toNat (key % 64) :: st, w)) hi rfl ?_
    simp only [m_heap, hq]
    rw [if_pos ⟨h8, by rw [w1]; exact c2, by rw [w2 _ h8 c2, ← c3, ← hs]⟩]
  · cases he
theorem e_clamp {y : Int32} (h : 0 ≤ y.toInt) : ¬ y < 0 ∧ y.toNatClampNeg = y.toInt.toNat := ⟨fun q => by rw [Int32.lt_iff_toInt_lt] at q; have : (0 : Int32).toInt = 0 := rfl; omega, rfl⟩
/-- an int of an array is read -/
theorem e_re_iald {M : EM} {t u : Nat} {x y z : Int} {v v2 : MV} (hi : e_in mid pc = some .iaload) (hW : e_wr ro M w) (ht : t = 2) (hu : e_kt u = 0) (hv : e_v t x v) (hv2 : e_v u y v2) (he : e_op 60 [x, y] M = some z) :
    ∃ q, e_v 0 z q ∧ e_re ro d mid pc L (v2 :: v :: st) w (pc + 1) L (q :: st) w := by
  subst ht
  obtain ⟨w1, w2, w3, -, -, -, w7⟩ := hW
  obtain ⟨b, rfl, rfl⟩ := e_v_int hu hv2
  simp only [e_op, if_neg (show ¬ (60 = 63) by decide), if_pos] at he
  split at he
  · rename_i hc
    obtain ⟨c1, c2, c3, c4, c5⟩ := hc
    cases he
    have hv3 := e_v2 hv c1
    subst hv3
    obtain ⟨g1, g2⟩ := e_clamp c4
    by_cases h8 : x.toNat < 8
    · obtain ⟨n, f, k1, k2, k3, k4⟩ := w7 _ h8 c3
      rw [k2] at c5
      refine ⟨.inl (f b.toNatClampNeg), ⟨_, rfl, by rw [g2]; exact k4 _ c5⟩, ?_⟩
      refine e_re_h (r := (.inl (f b.toNatClampNeg) :: st, w)) hi rfl ?_
      simp only [m_heap]
      rw [if_pos h8, k1]
      dsimp only
      rw [if_pos ⟨g1, by rw [g2]; exact c5⟩]
    · have h8' : 8 ≤ x.toNat := by omega
      have hsz : e_sz M x.toNat = (e_sh x.toNat).2 := if_neg (by omega)
      rw [hsz] at c5
      have h3 := w3 x.toNat b.toInt.toNat h8' c2 c5
      have hty : e_ty x.toNat b.toInt.toNat = 0 := by
        unfold e_ty
        rw [if_neg (by omega), if_pos c3]
      rw [hty, if_neg (by decide)] at h3
      obtain ⟨q, hq, hq2⟩ := h3
      refine ⟨.inl q, ⟨_, rfl, hq2⟩, ?_⟩
      refine e_re_h (r := (.inl q :: st, w)) hi rfl ?_
      simp only [m_heap]
      rw [if_neg h8, if_pos ⟨by rw [w1]; exact c2, by rw [w2 _ h8' c2]; exact c3, g1, by rw [w2 _ h8' c2, g2]; exact c5⟩, g2, hq]
      rfl
  · cases he
theorem e_re_lald {M : EM} {t u : Nat} {x y z : Int} {v v2 : MV} (hi : e_in mid pc = some .laload) (hW : e_wr ro M w) (ht : t = 2) (hu : e_kt u = 0) (hv : e_v t x v) (hv2 : e_v u y v2) (he : e_op 61 [x, y] M = some z) :
    ∃ q, e_v 1 z q ∧ e_re ro d mid pc L (v2 :: v :: st) w (pc + 1) L (q :: st) w := by
  subst ht
  obtain ⟨w1, w2, w3, -, -, -, w7⟩ := hW
  obtain ⟨b, rfl, rfl⟩ := e_v_int hu hv2
  simp only [e_op, if_neg (show ¬ (61 = 63) by decide), if_neg (show ¬ (61 = 60) by decide), if_pos] at he
  split at he
  · rename_i hc
    obtain ⟨c1, c2, c3, c4, c5⟩ := hc
    cases he
    have hv3 := e_v2 hv c1
    subst hv3
    obtain ⟨g1, g2⟩ := e_clamp c4
    have h8' : 8 ≤ x.toNat := by
      refine Nat.le_of_not_lt fun h8 => ?_
      have := e_sh_lo _ h8
      omega
    have hsz : e_sz M x.toNat = (e_sh x.toNat).2 := if_neg (by omega)
    rw [hsz] at c5
    have h3 := w3 x.toNat b.toInt.toNat h8' c2 c5
    have hty : e_ty x.toNat b.toInt.toNat = 1 := by
      unfold e_ty
      rw [if_neg (by omega), if_neg (by omega), if_pos c3]
    rw [hty, if_neg (by decide)] at h3
    obtain ⟨q, hq, hq2⟩ := h3
    refine ⟨.inr (.inl q), ⟨_, rfl, hq2⟩, ?_⟩
    refine e_re_h (r := (.inr (.inl q) :: st, w)) hi rfl ?_
    simp only [m_heap]
    rw [if_pos ⟨h8', by rw [w1]; exact c2, by rw [w2 _ h8' c2]; exact c3, g1, by rw [w2 _ h8' c2, g2]; exact c5⟩, g2, hq]
    rfl
  · cases he
theorem e_re_aald {M : EM} {t u : Nat} {x y z : Int} {v v2 : MV} (hi : e_in mid pc = some .aaload) (hW : e_wr ro M w) (ht : t = 2) (hu : e_kt u = 0) (hv : e_v t x v) (hv2 : e_v u y v2) (he : e_op 62 [x, y] M = some z) :
    ∃ q, e_v 2 z q ∧ e_re ro d mid pc L (v2 :: v :: st) w (pc + 1) L (q :: st) w := by
  subst ht
  obtain ⟨w1, w2, w3, -, -, -, w7⟩ := hW
  obtain ⟨b, rfl, rfl⟩ := e_v_int hu hv2
  simp only [e_op, if_neg (show ¬ (62 = 63) by decide), if_neg (show ¬ (62 = 60) by decide), if_neg (show ¬ (62 = 61) by decide), if_pos] at he
  split at he
  · rename_i hc
    obtain ⟨c1, c2, c3, c4, c5⟩ := hc
    cases he
    have hv3 := e_v2 hv c1
    subst hv3
    obtain ⟨g1, g2⟩ := e_clamp c4
    have h8' : 8 ≤ x.toNat := by
      refine Nat.le_of_not_lt fun h8 => ?_
      have := e_sh_lo _ h8
      omega
    have hsz : e_sz M x.toNat = (e_sh x.toNat).2 := if_neg (by omega)
    rw [hsz] at c5
    have h3 := w3 x.toNat b.toInt.toNat h8' c2 c5
    have hs := e_sh_ok h8' c2
    rw [if_neg (by omega)] at hs
    have hra : q_ra ((e_sh x.toNat).1 - 102) = true := by
      rcases hs.2 with h | h | h
      · omega
      · omega
      · exact h
    have hty : e_ty x.toNat b.toInt.toNat = 2 := by
      unfold e_ty
      rw [if_neg (by omega), if_neg (by omega), if_neg (by omega)]
    rw [hty, if_pos rfl] at h3
    refine ⟨mmm w x.toNat b.toInt.toNat, h3, ?_⟩
    refine e_re_h (r := (mmm w x.toNat b.toInt.toNat :: st, w)) hi rfl ?_
    simp only [m_heap]
    rw [if_pos ⟨h8', by rw [w1]; exact c2, by rw [w2 _ h8' c2]; exact c3, by rw [w2 _ h8' c2]; exact hra, g1, by rw [w2 _ h8' c2, g2]; exact c5⟩, g2]
    rcases h3 with ⟨-, h4⟩ | ⟨a, -, h4⟩ <;> rw [h4] <;> rfl
  · cases he
theorem e_re_alen {M : EM} {x z : Int} {v : MV} (hi : e_in mid pc = some .arraylength) (hW : e_wr ro M w) (hv : e_v 2 x v) (he : e_op 63 [x] M = some z) :
    ∃ q, e_v 0 z q ∧ e_re ro d mid pc L (v :: st) w (pc + 1) L (q :: st) w := by
  obtain ⟨w1, w2, w3, -, -, -, w7⟩ := hW
  simp only [e_op, if_pos] at he
  split at he
  · rename_i hc
    obtain ⟨c1, c2, c3⟩ := hc
    cases he
    have hv3 := e_v2 hv c1
    subst hv3
    by_cases h8 : x.toNat < 8
    · have := e_sh_lo _ h8
      obtain ⟨n, f, k1, k2, k3, k4⟩ := w7 _ h8 (by omega)
      refine ⟨.inl (Int32.ofNat n), ⟨_, rfl, by rw [k2]; exact Int32.toInt_ofNat_of_lt k3⟩, ?_⟩
      refine e_re_h (r := (.inl (Int32.ofNat n) :: st, w)) hi rfl ?_
      simp only [m_heap]
      rw [if_pos h8, k1]
    · have h8' : 8 ≤ x.toNat := by omega
      have hs := e_sh_ok h8' c2
      rw [if_neg (by omega)] at hs
      have hsz : e_sz M x.toNat = (e_sh x.toNat).2 := if_neg (by omega)
      have hk : (e_sh x.toNat).1 ≤ 101 ∨ q_ra ((e_sh x.toNat).1 - 102) = true := by
        rcases hs.2 with h | h | h
        · exact Or.inl (by omega)
        · exact Or.inl (by omega)
        · exact Or.inr h
      refine ⟨.inl (Int32.ofNat (e_sh x.toNat).2), ⟨_, rfl, by rw [hsz]; exact Int32.toInt_ofNat_of_lt (by omega)⟩, ?_⟩
      refine e_re_h (r := (.inl (Int32.ofNat (e_sh x.toNat).2) :: st, w)) hi rfl ?_
      simp only [m_heap]
      rw [if_neg h8, if_pos ⟨by rw [w1]; exact c2, by rw [w2 _ h8' c2]; exact c3, by rw [w2 _ h8' c2]; exact hk⟩, w2 _ h8' c2]
  · cases he
end EOPS
end
section
def e_ok (o : MOut) (thr : Bool) (rt : Option Nat) (x : Int) : Prop :=
  (∃ ov, o = .inl ov ∧ match rt with
    | some t => ∃ v, ov = some v ∧ e_v t x v
    | none => ov = none) ∨ (thr = true ∧ ((x = e_TH ∧ o = .inr (e_ex 0)) ∨ (x = e_TH + 1 ∧ o = .inr (e_ex 1))))
/-- calls do what the machine does -/
def e_KOK (ro : MRo) (K : Nat → List Int → EM → EO) : Prop := ∀ u as M r, K u as M = some r → e_rok u as = true ∧ ∀ d vs w, e_ht u ≤ d → e_vs (e_pt u) as vs → e_cat (e_pt u) ≤ q_nl (e_vm u) → e_nl u = q_nl (e_vm u) → e_wr ro M w →
  ∃ k o w', m_run ro k d (e_vm u) 0 (m_ent 0 vs) [] w = some (o, w') ∧ e_wr ro r.2 w' ∧ e_ok o (e_thr u) (e_rt (e_vm u)) r.1
def e_crb : Nat → Int → Int → Bool
  | 0, a, b => decide (a = b)
  | 1, a, b => decide (a ≠ b)
  | 2, a, b => decide (a < b)
  | 3, a, b => decide (b ≤ a)
  | 4, a, b => decide (b < a)
  | _, a, b => decide (a ≤ b)
theorem e_cr2 {n : Nat} (hn : n < 6) (a b : Int) : e_b2 (40 + n) a b = some (if e_crb n a b = true then 1 else 0) ∧ e_b2 (54 + n) a b = some (if e_crb n a b = true then 1 else 0) ∧ e_b1 (46 + n) a = some (if e_crb n a 0 = true then 1 else 0) := by
  match n, hn with
  | 0, _ => simp [e_b2, e_b1, e_crb]
  | 1, _ => simp [e_b2, e_b1, e_crb]
  | 2, _ => simp [e_b2, e_b1, e_crb]
  | 3, _ => simp [e_b2, e_b1, e_crb]
  | 4, _ => simp [e_b2, e_b1, e_crb]
  | 5, _ => simp [e_b2, e_b1, e_crb]
theorem e_cr_ng {n : Nat} (hn : n < 6) (a b : Int) : e_crb (e_ng n) a b = !e_crb n a b := by
  match n, hn with
  | 0, _ => simp [e_ng, e_crb]
  | 1, _ => simp [e_ng, e_crb]
  | 2, _ => simp only [e_ng, e_crb]; rw [← decide_not]; exact decide_eq_decide.mpr (by omega)
  | 3, _ => simp only [e_ng, e_crb]; rw [← decide_not]; exact decide_eq_decide.mpr (by omega)
  | 4, _ => simp only [e_ng, e_crb]; rw [← decide_not]; exact decide_eq_decide.mpr (by omega)
  | 5, _ => simp only [e_ng, e_crb]; rw [← decide_not]; exact decide_eq_decide.mpr (by omega)
theorem e_cn_lt (c : Jvm.ClassFile.Cond) : e_cn c < 6 := by cases c <;> decide
theorem e_ng_lt {n : Nat} (hn : n < 6) : e_ng n < 6 := by
  match n, hn with
  | 0, _ => decide
  | 1, _ => decide
  | 2, _ => decide
  | 3, _ => decide
  | 4, _ => decide
  | 5, _ => decide
theorem e_cmp (c : Jvm.ClassFile.Cond) (x y : Int32) : m_cmp c x y = e_crb (e_cn c) x.toInt y.toInt := by
  cases c
  case eq => show decide (x = y) = decide (x.toInt = y.toInt); exact decide_eq_decide.mpr Int32.toInt_inj.symm
  case ne => show decide (x ≠ y) = decide (x.toInt ≠ y.toInt); exact decide_eq_decide.mpr (not_congr Int32.toInt_inj.symm)
  case lt => exact decide_eq_decide.mpr Int32.lt_iff_toInt_lt
  case ge => exact decide_eq_decide.mpr Int32.le_iff_toInt_le
  case gt => exact decide_eq_decide.mpr Int32.lt_iff_toInt_lt
  case le => exact decide_eq_decide.mpr Int32.le_iff_toInt_le
theorem e_br_ok {k b c : Nat} {tgt : Int} {nx pt pf : Nat} (h : e_br k b c tgt nx pt pf = true) : (k = b + c ∧ tgt = pt ∧ nx = pf) ∨ (k = b + e_ng c ∧ tgt = pf ∧ nx = pt) := by
  unfold e_br at h
  simp only [Bool.or_eq_true, Bool.and_eq_true, decide_eq_true_eq] at h
  rcases h with ⟨⟨h1, h2⟩, h3⟩ | ⟨⟨h1, h2⟩, h3⟩
  · exact Or.inl ⟨h1, h2, h3⟩
  · exact Or.inr ⟨h1, h2, h3⟩
/-- where a branch goes -/
theorem e_br_to {k b c : Nat} {tgt : Int} {nx pt pf : Nat} (h : e_br k b c tgt nx pt pf = true) (hc : c < 6) {x y z : Int} (hz : ∀ n, n < 6 → k = b + n → z = if e_crb n x y = true then 1 else 0) :
    (if e_crb c x y = true then tgt.toNat else nx) = (if z = 0 then pf else pt) ∧ 0 ≤ tgt := by
  rcases e_br_ok h with ⟨h1, h2, h3⟩ | ⟨h1, h2, h3⟩
  · have h4 := hz c hc h1
    subst h2 h3
    refine ⟨?_, by omega⟩
    cases hb : e_crb c x y
    · rw [hb] at h4; subst h4; simp
    · rw [hb] at h4; subst h4; simp
  · have h4 := hz (e_ng c) (e_ng_lt hc) h1
    rw [e_cr_ng hc] at h4
    subst h2 h3
    refine ⟨?_, by omega⟩
    cases hb : e_crb c x y
    · rw [hb] at h4; subst h4; simp
    · rw [hb] at h4; subst h4; simp
theorem e_lgcmp (x y : Int64) : (lg_cmp x y).toInt = if x.toInt < y.toInt then -1 else if x.toInt = y.toInt then 0 else 1 := by
  unfold lg_cmp
  repeat' split
  all_goals simp_all [Int64.lt_iff_toInt_lt, ← Int64.toInt_inj]
  all_goals (first | rfl | omega | decide)
theorem e_rc_all : (q_recs.all fun l => l.all fun r => match r.2.2.2.2.2.2.2.1 with
  | some c => decide (c < 13)
  | none => true) = true := by decide +kernel
theorem e_rc_lt {mid ci : Nat} (h : q_rc mid = some ci) : ci < 13 := by
  have h2 : (match q_rc mid with
    | some c => decide (c < 13)
    | none => true) = true := q_r_all (P := fun r => (match r.2.2.2.2.2.2.2.1 with
    | some c => decide (c < 13)
    | none => true) = true) rfl (fun l hl r hr => List.all_eq_true.mp (List.all_eq_true.mp e_rc_all l hl) r hr) mid
  rw [h] at h2
  exact of_decide_eq_true h2
section ECHK
variable {ro : MRo} {d mid hv : Nat} {K : Nat → List Int → EM → EO} {G : List (Nat × Nat)} {L : List Int} {ML1 : ML}
theorem e_re_cj {k p pt pf : Nat} {ts : List Nat} {xs : List Int} {vs st : List MV} {M : EM} {w : MWd} {b : Int} (hj : e_cj mid k ts p pt pf = true) (hvs : e_vs ts xs vs) (he : e_op k xs M = some b) :
    e_re ro d mid p ML1 (vs.reverse ++ st) w (if b = 0 then pf else pt) ML1 st w := by
  unfold e_cj at hj
  split at hj
  · rename_i c off hi
    split at hj
    · rename_i t u
      obtain ⟨x, y, v, v2, rfl, rfl, h1, h2⟩ := e_vs_2 hvs
      simp only [Bool.and_eq_true, decide_eq_true_eq] at hj
      obtain ⟨⟨ht, hu⟩, hbr⟩ := hj
      obtain ⟨a, rfl, rfl⟩ := e_v_int ht h1
      obtain ⟨a2, rfl, rfl⟩ := e_v_int hu h2
      have hk : ∀ n, n < 6 → k = 40 + n → b = if e_crb n a.toInt a2.toInt = true then 1 else 0 := by
        intro n hn hk
        subst hk
        simp only [e_op, if_neg (show ¬ (40 + n = 60) by omega), if_neg (show ¬ (40 + n = 61) by omega), if_neg (show ¬ (40 + n = 62) by omega), (e_cr2 hn a.toInt a2.toInt).1] at he
        cases he; rfl
      obtain ⟨h4, h5⟩ := e_br_to hbr (e_cn_lt c) hk
      rw [← h4]
      refine e_re_pr (r := (if e_crb (e_cn c) a.toInt a2.toInt = true then ((p : Int) + off).toNat else p + 3, ML1, st)) hi ?_
      show m_br2 p off ML1 (.inl a2 :: .inl a :: st) (m_cmp c) = _
      simp only [m_br2, if_pos h5, e_cmp]
    · cases hj
  · rename_i c off hi
    split at hj
    · rename_i t
      obtain ⟨x, v, rfl, rfl, h1⟩ := e_vs_1 hvs
      simp only [Bool.and_eq_true, decide_eq_true_eq] at hj
      obtain ⟨ht, hbr⟩ := hj
      obtain ⟨a, rfl, rfl⟩ := e_v_int ht h1
      have hk : ∀ n, n < 6 → k = 46 + n → b = if e_crb n a.toInt 0 = true then 1 else 0 := by
        intro n hn hk
        subst hk
        simp only [e_op, if_neg (show ¬ (46 + n = 63) by omega), (e_cr2 hn a.toInt 0).2.2] at he
        cases he; rfl
      obtain ⟨h4, h5⟩ := e_br_to hbr (e_cn_lt c) hk
      rw [← h4]
      refine e_re_pr (r := (if e_crb (e_cn c) a.toInt 0 = true then ((p : Int) + off).toNat else p + 3, ML1, st)) hi ?_
      show m_br1 p off ML1 (.inl a :: st) (fun x => m_cmp c x 0) = _
      simp only [m_br1, if_pos h5, e_cmp]
      rfl
    · cases hj
  · rename_i hi
    split at hj
    · rename_i t u c off hi2
      obtain ⟨x, y, v, v2, rfl, rfl, h1, h2⟩ := e_vs_2 hvs
      simp only [Bool.and_eq_true, decide_eq_true_eq] at hj
      obtain ⟨⟨rfl, rfl⟩, hbr⟩ := hj
      obtain ⟨a, rfl, rfl⟩ := h1
      obtain ⟨a2, rfl, rfl⟩ := h2
      have hk : ∀ n, n < 6 → k = 54 + n → b = if e_crb n a.toInt a2.toInt = true then 1 else 0 := by
        intro n hn hk
        subst hk
        by_cases h60 : 54 + n < 60
        · simp only [e_op, if_neg (show ¬ (54 + n = 60) by omega), if_neg (show ¬ (54 + n = 61) by omega), if_neg (show ¬ (54 + n = 62) by omega), (e_cr2 hn a.toInt a2.toInt).2.1] at he
          cases he; rfl
        · omega
      obtain ⟨h4, h5⟩ := e_br_to hbr (e_cn_lt c) hk
      rw [← h4]
      refine e_re_tr (e_re_pr (r := (p + 1, ML1, .inl (lg_cmp a a2) :: st)) hi rfl) ?_
      refine e_re_pr (r := (if e_crb (e_cn c) a.toInt a2.toInt = true then ((p : Int) + 1 + off).toNat else p + 4, ML1, st)) hi2 ?_
      show m_br1 (p + 1) off ML1 (.inl (lg_cmp a a2) :: st) (fun x => m_cmp c x 0) = _
      have h6 : (((p + 1 : Nat) : Int) + off) = (p : Int) + 1 + off := by omega
      have h7 : e_crb (e_cn c) (lg_cmp a a2).toInt 0 = e_crb (e_cn c) a.toInt a2.toInt := by
        rw [e_lgcmp]
        cases c <;> simp only [e_cn, e_crb, decide_eq_decide] <;> (repeat' split) <;> omega
      simp only [m_br1, h6, if_pos h5, e_cmp]
      rw [show (0 : Int32).toInt = 0 from rfl, h7]
    · cases hj
  · rename_i off hi
    split at hj
    · rename_i t
      obtain ⟨x, v, rfl, rfl, h1⟩ := e_vs_1 hvs
      simp only [Bool.and_eq_true, Bool.or_eq_true, decide_eq_true_eq] at hj
      obtain ⟨rfl, ⟨⟨rfl, h2⟩, h3⟩ | ⟨⟨rfl, h2⟩, h3⟩⟩ := hj
      · simp only [e_op, if_neg (show ¬ (52 = 63) by decide), e_b1] at he
        cases he
        rcases h1 with ⟨rfl, rfl⟩ | ⟨a, rfl, rfl⟩
        · refine e_re_pr (r := (pt, ML1, st)) hi ?_
          show m_to p off ML1 st = _
          unfold m_to; rw [h2, if_pos (by omega)]; simp
        · rw [if_neg (show ¬ ((a : Int) = -1) by omega), if_pos rfl]
          exact e_re_pr (r := (pf, ML1, st)) hi (by rw [← h3]; rfl)
      · simp only [e_op, if_neg (show ¬ (53 = 63) by decide), e_b1] at he
        cases he
        rcases h1 with ⟨rfl, rfl⟩ | ⟨a, rfl, rfl⟩
        · refine e_re_pr (r := (pf, ML1, st)) hi ?_
          show m_to p off ML1 st = _
          unfold m_to; rw [h2, if_pos (by omega)]; simp
        · rw [if_pos (show ((a : Int) ≠ -1) by omega), if_neg (by decide)]
          exact e_re_pr (r := (pt, ML1, st)) hi (by rw [← h3]; rfl)
    · cases hj
  · rename_i off hi
    split at hj
    · rename_i t
      obtain ⟨x, v, rfl, rfl, h1⟩ := e_vs_1 hvs
      simp only [Bool.and_eq_true, Bool.or_eq_true, decide_eq_true_eq] at hj
      obtain ⟨rfl, ⟨⟨rfl, h2⟩, h3⟩ | ⟨⟨rfl, h2⟩, h3⟩⟩ := hj
      · simp only [e_op, if_neg (show ¬ (53 = 63) by decide), e_b1] at he
        cases he
        rcases h1 with ⟨rfl, rfl⟩ | ⟨a, rfl, rfl⟩
        · exact e_re_pr (r := (pf, ML1, st)) hi (by rw [← h3]; rfl)
        · rw [if_pos (show ((a : Int) ≠ -1) by omega), if_neg (by decide)]
          refine e_re_pr (r := (pt, ML1, st)) hi ?_
          show m_to p off ML1 st = _
          unfold m_to; rw [h2, if_pos (by omega)]; simp
      · simp only [e_op, if_neg (show ¬ (52 = 63) by decide), e_b1] at he
        cases he
        rcases h1 with ⟨rfl, rfl⟩ | ⟨a, rfl, rfl⟩
        · exact e_re_pr (r := (pt, ML1, st)) hi (by rw [← h3]; rfl)
        · rw [if_neg (show ¬ ((a : Int) = -1) by omega), if_pos rfl]
          refine e_re_pr (r := (pf, ML1, st)) hi ?_
          show m_to p off ML1 st = _
          unfold m_to; rw [h2, if_pos (by omega)]; simp
    · cases hj
  · cases hj
theorem e_take {vs st : List MV} {n : Nat} (h : n = vs.length) : ((vs.reverse ++ st).take n).reverse = vs ∧ (vs.reverse ++ st).drop n = st ∧ n ≤ (vs.reverse ++ st).length := by
  subst h
  have h1 : vs.length = vs.reverse.length := by simp
  refine ⟨?_, ?_, ?_⟩
  · rw [h1, List.take_left, List.reverse_reverse]
  · rw [h1, List.drop_left]
  · simp
/-- a call -/
theorem e_re_call (HK : e_KOK ro K) (hvd : hv ≤ d) {u p h : Nat} {ts : List Nat} {xs : List Int} {vs st : List MV} {M : EM} {w : MWd} {r : Int × EM} (hcc : e_cc mid hv u ts p h = true) (hvs : e_vs ts xs vs) (hst : m_cats st = h) (hW : e_wr ro M w) (hK : K u xs M = some r) :
    ∃ o w', e_wr ro r.2 w' ∧ e_ok o (e_thr u) (e_rt (e_vm u)) r.1 ∧ ∀ n o2, m_aft ro n d mid p ML1 st w' o = some o2 → ∃ n', m_run ro n' d mid p ML1 (vs.reverse ++ st) w = some o2 := by
  unfold e_cc at hcc
  simp only [Bool.and_eq_true, decide_eq_true_eq] at hcc
  obtain ⟨⟨⟨⟨⟨c1, c2⟩, c3⟩, c4⟩, c5⟩, c6⟩ := hcc
  obtain ⟨k1, k2⟩ := HK u xs M r hK
  have hvs2 := e_fit_vs c2 hvs
  obtain ⟨d', rfl⟩ : ∃ d', d = d' + 1 := ⟨d - 1, by omega⟩
  obtain ⟨k, o, w', g1, g2, g3⟩ := k2 d' vs w (by omega) hvs2 c3 c5 hW
  refine ⟨o, w', g2, g3, ?_⟩
  have hcat := e_vs_cat hvs2
  have hlen := e_vs_len hvs2
  subst hst
  intro n o2 hn
  have key : ∀ (i : Instr) (hi : e_in mid p = some i) (hz : m_call mid i (vs.reverse ++ st) w = some (e_vm u, vs, st))
      (hk : (∃ idx kd, i = .invokestatic idx ∧ q_m mid idx = some (e_vm u, kd) ∧ (kd = 1 ∨ kd = 3 ∨ kd = 7)) ∨ (∃ idx, i = .invokevirtual idx) ∨ (∃ idx kd, i = .invokespecial idx ∧ q_m mid idx = some (e_vm u, kd) ∧ (kd = 2 ∨ kd = 6))), ∃ n', m_run ro n' (d' + 1) mid p ML1 (vs.reverse ++ st) w = some o2 := by
    intro i hi hz hk
    obtain ⟨h1, h2⟩ := e_in_ok hi
    refine ⟨max k n + 1, ?_⟩
    rw [m_run_call (z := (e_vm u, vs, st)) h1 h2 hz hk (m_run_le g1 (Nat.le_max_left _ _))]
    revert hn
    rcases o with v | E
    · exact fun hn => m_run_le hn (Nat.le_max_right _ _)
    · intro hn
      simp only [m_aft] at hn ⊢
      split at hn
      · cases hn
      · exact m_run_le hn (Nat.le_max_right _ _)
  split at c6
  · rename_i idx hi
    split at c6
    · rename_i cm kd hq
      simp only [Bool.and_eq_true, Bool.or_eq_true, decide_eq_true_eq] at c6
      obtain ⟨⟨rfl, c7⟩, c8⟩ := c6
      have hkd : kd = 1 ∨ kd = 3 ∨ kd = 7 := by rcases c7 with (h | h) | h <;> omega
      obtain ⟨t1, t2, t3⟩ := e_take (st := st) (show q_np (e_vm u) = vs.length by rw [← c8]; exact hlen.1)
      refine key _ hi ?_ (Or.inl ⟨idx, kd, rfl, hq, hkd⟩)
      simp only [m_call, hq]
      rw [t1, t2, if_pos ⟨hkd, t3, c4, by rw [hcat]; exact c3⟩]
    · cases c6
  · rename_i idx hi
    split at c6
    · rename_i cm kd hq
      simp only [Bool.and_eq_true, decide_eq_true_eq] at c6
      obtain ⟨⟨⟨⟨rfl, rfl⟩, c7⟩, c8⟩, c9⟩ := c6
      unfold e_rok at k1
      cases hrc : q_rc (e_vm u) with
      | none => rw [hrc] at c9; cases c9
      | some ci =>
        rw [hrc] at k1
        obtain ⟨r1, r2, r3⟩ := of_decide_eq_true k1
        match hP : e_pt u, xs, vs, hvs2 with
        | [], _, _, _ => rw [hP] at c7; simp at c7
        | t :: P, x :: xs', v :: vs', hvs3 =>
          rw [hP] at c8 c7 hlen
          simp at c8 c7 r1 r2 r3 hlen
          subst c8
          have hv := e_v2 hvs3.1 (by omega)
          subst hv
          obtain ⟨t1, t2, t3⟩ := e_take (vs := vs') (st := .inr (.inr (some x.toNat)) :: st) (show q_np (e_vm u) = vs'.length by omega)
          obtain ⟨w1, w2, -⟩ := hW
          have h8 : 8 ≤ x.toNat := by omega
          refine key _ hi ?_ (Or.inr (Or.inl ⟨idx, rfl⟩))
          have happ : ((.inr (.inr (some x.toNat)) : MV) :: vs').reverse ++ st = vs'.reverse ++ .inr (.inr (some x.toNat)) :: st := by simp
          rw [happ]
          simp only [m_call, hq]
          rw [t2]
          dsimp only
          have hlo : (e_sh x.toNat).1 < 100 := by
            have := e_rc_lt hrc
            omega
          rw [t1, if_pos ⟨trivial, t3, c4, by rw [hcat]; exact c3, h8, by rw [w1]; exact r2, by rw [w2 _ h8 r2]; exact hlo, by rw [hrc, w2 _ h8 r2, r3]⟩]
    · cases c6
  · cases c6
end ECHK
end
