/-! HOW THE SMALL MACHINE'S VALUES STAND FOR WHOLE NUMBERS -/
def e_v : Nat → Int → MV → Prop
  | 0, x, v => ∃ y : Int32, v = .inl y ∧ y.toInt = x
  | 1, x, v => ∃ y : Int64, v = .inr (.inl y) ∧ y.toInt = x
  | 2, x, v => (x = -1 ∧ v = .inr (.inr none)) ∨ ∃ a : Nat, x = (a : Int) ∧ v = .inr (.inr (some a))
  | 3, x, v => (x = 0 ∨ x = 1) ∧ ∃ y : Int32, v = .inl y ∧ y.toInt = x
  | _, _, _ => False
theorem e_v_int {t : Nat} {x : Int} {v : MV} (ht : e_kt t = 0) (h : e_v t x v) : ∃ y : Int32, v = .inl y ∧ y.toInt = x := by
  unfold e_kt at ht
  split at ht
  · rename_i h3; subst h3; exact h.2
  · subst ht; exact h
theorem e_v_sub {t u : Nat} {x : Int} {v : MV} (ht : t = u ∨ t = 3 ∧ u = 0) (h : e_v t x v) : e_v u x v := by
  rcases ht with rfl | ⟨rfl, rfl⟩
  · exact h
  · exact h.2
theorem e_v_kt {t : Nat} {x : Int} {v : MV} (h : e_v t x v) : e_v (e_kt t) x v := by
  unfold e_kt
  split
  · rename_i h3; subst h3; exact h.2
  · exact h
theorem e_v_L {t : Nat} {x : Int} {v : MV} (h : e_v t x v) : m_isL v = decide (t = 1) := by
  match t, h with
  | 0, h => obtain ⟨y, rfl, -⟩ := h; rfl
  | 1, h => obtain ⟨y, rfl, -⟩ := h; rfl
  | 2, h => rcases h with ⟨-, rfl⟩ | ⟨a, -, rfl⟩ <;> rfl
  | 3, h => obtain ⟨-, y, rfl, -⟩ := h; rfl
def e_vs : List Nat → List Int → List MV → Prop
  | [], [], [] => True
  | t :: ts, x :: xs, v :: vs => e_v t x v ∧ e_vs ts xs vs
  | _, _, _ => False
theorem e_vs_app : ∀ {ts : List Nat} {xs : List Int} {vs : List MV} {ts' : List Nat} {xs' : List Int} {vs' : List MV}, e_vs ts xs vs → e_vs ts' xs' vs' → e_vs (ts ++ ts') (xs ++ xs') (vs ++ vs')
  | [], [], [], _, _, _, _, k => k
  | _ :: _, _ :: _, _ :: _, _, _, _, h, k => ⟨h.1, e_vs_app h.2 k⟩
theorem e_vs_c {t : Nat} {ts : List Nat} {xs : List Int} {vs : List MV} (h : e_vs (t :: ts) xs vs) : ∃ x xs' v vs', xs = x :: xs' ∧ vs = v :: vs' ∧ e_v t x v ∧ e_vs ts xs' vs' := by
  cases xs with
  | nil => cases vs <;> exact False.elim h
  | cons x xs' =>
    cases vs with
    | nil => exact False.elim h
    | cons v vs' => exact ⟨x, xs', v, vs', rfl, rfl, h.1, h.2⟩
theorem e_vs_n {xs : List Int} {vs : List MV} (h : e_vs [] xs vs) : xs = [] ∧ vs = [] := by
  cases xs with
  | nil =>
    cases vs with
    | nil => exact ⟨rfl, rfl⟩
    | cons v vs' => exact False.elim h
  | cons x xs' => cases vs <;> exact False.elim h
theorem e_vs_1 {t : Nat} {xs : List Int} {vs : List MV} (h : e_vs [t] xs vs) : ∃ x v, xs = [x] ∧ vs = [v] ∧ e_v t x v := by
  obtain ⟨x, xs', v, vs', rfl, rfl, h1, h2⟩ := e_vs_c h
  obtain ⟨rfl, rfl⟩ := e_vs_n h2
  exact ⟨x, v, rfl, rfl, h1⟩
theorem e_vs_2 {t u : Nat} {xs : List Int} {vs : List MV} (h : e_vs [t, u] xs vs) : ∃ x y v w, xs = [x, y] ∧ vs = [v, w] ∧ e_v t x v ∧ e_v u y w := by
  obtain ⟨x, xs', v, vs', rfl, rfl, h1, h2⟩ := e_vs_c h
  obtain ⟨y, w, rfl, rfl, h3⟩ := e_vs_1 h2
  exact ⟨x, y, v, w, rfl, rfl, h1, h3⟩
theorem e_vs_3 {t u s : Nat} {xs : List Int} {vs : List MV} (h : e_vs [t, u, s] xs vs) : ∃ x y z v w q, xs = [x, y, z] ∧ vs = [v, w, q] ∧ e_v t x v ∧ e_v u y w ∧ e_v s z q := by
  obtain ⟨x, xs', v, vs', rfl, rfl, h1, h2⟩ := e_vs_c h
  obtain ⟨y, z, w, q, rfl, rfl, h3, h4⟩ := e_vs_2 h2
  exact ⟨x, y, z, v, w, q, rfl, rfl, h1, h3, h4⟩
theorem e_vs_5 {t1 t2 t3 t4 t5 : Nat} {xs : List Int} {vs : List MV} (h : e_vs [t1, t2, t3, t4, t5] xs vs) : ∃ x1 x2 x3 x4 x5 v1 v2 v3 v4 v5, xs = [x1, x2, x3, x4, x5] ∧ vs = [v1, v2, v3, v4, v5] ∧ e_v t1 x1 v1 ∧ e_v t2 x2 v2 ∧ e_v t3 x3 v3 ∧ e_v t4 x4 v4 ∧ e_v t5 x5 v5 := by
  obtain ⟨x, xs', v, vs', rfl, rfl, h1, h2⟩ := e_vs_c h
  obtain ⟨y, ys', w, ws', rfl, rfl, h3, h4⟩ := e_vs_c h2
  obtain ⟨x3, x4, x5, v3, v4, v5, rfl, rfl, h5, h6, h7⟩ := e_vs_3 h4
  exact ⟨x, y, x3, x4, x5, v, w, v3, v4, v5, rfl, rfl, h1, h3, h5, h6, h7⟩
theorem e_cats_cons (v : MV) (vs : List MV) : m_cats (v :: vs) = (if m_isL v = true then 2 else 1) + m_cats vs := by
  unfold m_cats; rw [List.map_cons, List.sum_cons]
theorem e_cats_app : ∀ (us vs : List MV), m_cats (us ++ vs) = m_cats us + m_cats vs
  | [], vs => by simp [m_cats]
  | u :: us, vs => by rw [List.cons_append, e_cats_cons, e_cats_cons, e_cats_app us vs, Nat.add_assoc]
theorem e_cats_rev : ∀ vs : List MV, m_cats vs.reverse = m_cats vs
  | [] => rfl
  | v :: vs => by rw [List.reverse_cons, e_cats_app, e_cats_rev vs, e_cats_cons, e_cats_cons]; simp [m_cats]; omega
theorem e_vs_cat : ∀ {ts : List Nat} {xs : List Int} {vs : List MV}, e_vs ts xs vs → m_cats vs = e_cat ts
  | [], [], [], _ => rfl
  | t :: ts, _ :: _, v :: vs, h => by
    rw [e_cats_cons, e_vs_cat h.2, e_v_L h.1]
    simp [e_cat]
theorem e_vs_len : ∀ {ts : List Nat} {xs : List Int} {vs : List MV}, e_vs ts xs vs → ts.length = vs.length ∧ xs.length = vs.length
  | [], [], [], _ => ⟨rfl, rfl⟩
  | _ :: _, _ :: _, _ :: _, h => by have := e_vs_len h.2; simp [this.1, this.2]
theorem e_fit_vs : ∀ {ts us : List Nat} {xs : List Int} {vs : List MV}, e_fit ts us = true → e_vs ts xs vs → e_vs us xs vs
  | [], [], [], [], _, h => h
  | t :: ts, u :: us, x :: xs, v :: vs, hf, h => by
    unfold e_fit at hf
    simp only [Bool.and_eq_true, Bool.or_eq_true, decide_eq_true_eq] at hf
    exact ⟨e_v_sub hf.1 h.1, e_fit_vs hf.2 h.2⟩
  | [], _ :: _, _, _, hf, _ => by simp [e_fit] at hf
  | _ :: _, [], _, _, hf, _ => by simp [e_fit] at hf
/-- locals -/
def e_lr (nl : Nat) (G : List (Nat × Nat)) (L : List Int) (ML1 : ML) : Prop := L.length = nl ∧ ∀ i t, q_find G i = some t → ∃ v, m_get ML1 i = some v ∧ e_v t (L.getD i 0) v
def e_ft2 (ci k : Nat) : Nat := match q_ty ci k with
  | .int => 0
  | .boolean => 3
  | .long => 1
  | _ => 2
/-- what a cell holds -/
def e_ty (a k : Nat) : Nat := if (e_sh a).1 < 100 then e_ft2 (e_sh a).1 k else if (e_sh a).1 = 100 then 0 else if (e_sh a).1 = 101 then 1 else 2
/-- worlds: behind the constructors, the throws counted by a cell of their own -/
def e_wr (ro : MRo) (M : EM) (w : MWd) : Prop :=
  mnx w = e_N ∧ (∀ a, 8 ≤ a → a < e_N → msh w a = e_sh a) ∧ (∀ a k, 8 ≤ a → a < e_N → k < (e_sh a).2 → e_v (e_ty a k) (if e_ty a k = 2 then e_gr a k else M a k) (mmm w a k)) ∧
  0 ≤ M 5 0 ∧ (mcx w : Int) = e_C0 + M 5 0 ∧ (msl w : Int) = e_S0 + 6 * M 5 0 ∧
  ∀ a, a < 8 → (e_sh a).1 = 100 → ∃ n f, ro a = some (n, f) ∧ e_sz M a = n ∧ n < 2147483648 ∧ ∀ k, k < n → (f k).toInt = M a k
