section
/-! PUSH of a CELL at a CURRENT by its POINTS as they are now: it never rises -/
def cu_bt (P C : Nat → Int) (l : Nat) (c : Int) : Int := if C (l - 1) = C l then P l else P l - ((P l - P (l - 1)) * (c - C l)).tdiv (C (l - 1) - C l)
def cu_sg (P C : Nat → Int) (c : Int) : Nat → Int
  | 0 => 0
  | l + 1 => if C (l + 1) ≤ c ∧ c ≤ C l then cu_bt P C (l + 1) c else cu_sg P C c l
def cu_cp (n : Nat) (P C : Nat → Int) (c : Int) : Int := if C 0 < c then (if 10 < c - C 0 then -20 else -2 * (c - C 0)) else cu_sg P C c (n - 1)
def cu_ok (n : Nat) (P C : Nat → Int) : Prop := 1 ≤ n ∧ 0 ≤ P 0 ∧ P (n - 1) ≤ 60 ∧ C (n - 1) = 0 ∧ ∀ i, i + 1 < n → P i ≤ P (i + 1) ∧ C (i + 1) ≤ C i
theorem cu_q {A B D : Int} (hA : 0 ≤ A) (hB : 0 ≤ B) (hD : 0 < D) (h : B ≤ D) : 0 ≤ (A * B).tdiv D ∧ (A * B).tdiv D ≤ A := by
  have h1 : 0 ≤ A * B := Int.mul_nonneg hA hB
  rw [Int.tdiv_eq_ediv_of_nonneg h1]
  exact ⟨Int.ediv_nonneg h1 (by omega), Int.ediv_le_of_le_mul hD (Int.mul_le_mul_of_nonneg_left h hA)⟩
theorem cu_bt_bd {P C : Nat → Int} {l : Nat} {c : Int} (hP : P (l - 1) ≤ P l) (h1 : C l ≤ c) (h2 : c ≤ C (l - 1)) : P (l - 1) ≤ cu_bt P C l c ∧ cu_bt P C l c ≤ P l := by
  unfold cu_bt
  by_cases e : C (l - 1) = C l
  · rw [if_pos e]
    exact ⟨hP, Int.le_refl _⟩
  · rw [if_neg e]
    have q := cu_q (A := P l - P (l - 1)) (B := c - C l) (D := C (l - 1) - C l) (by omega) (by omega) (by omega) (by omega)
    revert q
    generalize ((P l - P (l - 1)) * (c - C l)).tdiv (C (l - 1) - C l) = z
    intro q
    omega
theorem cu_bt_mono {P C : Nat → Int} {l : Nat} {c : Int} (hP : P (l - 1) ≤ P l) (h1 : C l ≤ c) (h2 : c + 1 ≤ C (l - 1)) : cu_bt P C l (c + 1) ≤ cu_bt P C l c := by
  unfold cu_bt
  by_cases e : C (l - 1) = C l
  · rw [if_pos e, if_pos e]
    exact Int.le_refl _
  · rw [if_neg e, if_neg e]
    have h : (P l - P (l - 1)) * (c - C l) ≤ (P l - P (l - 1)) * (c + 1 - C l) := Int.mul_le_mul_of_nonneg_left (by omega) (by omega)
    have q := Int.tdiv_le_tdiv (c := C (l - 1) - C l) (by omega) h
    omega
theorem cu_mon {P : Nat → Int} : ∀ k, (∀ i, i < k → P i ≤ P (i + 1)) → P 0 ≤ P k := by
  intro k
  induction k with
  | zero => intro _; exact Int.le_refl _
  | succ k ih =>
    intro h
    have a := ih (fun i hi => h i (by omega))
    have b := h k (by omega)
    omega
theorem cu_sg_y {P C : Nat → Int} {l : Nat} {c : Int} (h : C (l + 1) ≤ c ∧ c ≤ C l) : cu_sg P C c (l + 1) = cu_bt P C (l + 1) c := if_pos h
theorem cu_sg_n {P C : Nat → Int} {l : Nat} {c : Int} (h : ¬ (C (l + 1) ≤ c ∧ c ≤ C l)) : cu_sg P C c (l + 1) = cu_sg P C c l := if_neg h
theorem cu_sg_ok {P C : Nat → Int} : ∀ k, (∀ i, i < k + 1 → P i ≤ P (i + 1) ∧ C (i + 1) ≤ C i) → ∀ c, C (k + 1) ≤ c → c ≤ C 0 → (P 0 ≤ cu_sg P C c (k + 1) ∧ cu_sg P C c (k + 1) ≤ P (k + 1)) ∧ (c + 1 ≤ C 0 → cu_sg P C (c + 1) (k + 1) ≤ cu_sg P C c (k + 1)) := by
  intro k
  induction k with
  | zero =>
    intro h c h1 h2
    have a := h 0 (by omega)
    rw [cu_sg_y ⟨h1, h2⟩]
    refine ⟨cu_bt_bd (l := 1) a.1 h1 h2, fun h3 => ?_⟩
    rw [cu_sg_y ⟨by omega, h3⟩]
    exact cu_bt_mono (l := 1) a.1 h1 h3
  | succ k ih =>
    intro h c h1 h2
    have a := h (k + 1) (by omega)
    have ih1 := ih (fun i hi => h i (by omega))
    have m := cu_mon (P := P) (k + 1) (fun i hi => (h i (by omega)).1)
    rcases x_le c (C (k + 1)) with ⟨q, q_n⟩ | ⟨q, q_n⟩
    · have r := cu_bt_bd (P := P) (C := C) (l := k + 1 + 1) (c := c) a.1 h1 q
      rw [cu_sg_y ⟨h1, q⟩]
      have r1 : P (k + 1) ≤ cu_bt P C (k + 1 + 1) c := r.1
      have r2 := r.2
      refine ⟨⟨by omega, r2⟩, fun h3 => ?_⟩
      rcases x_le (c + 1) (C (k + 1)) with ⟨q2, q2_n⟩ | ⟨q2, q2_n⟩
      · rw [cu_sg_y ⟨by omega, q2⟩]
        exact cu_bt_mono (l := k + 1 + 1) a.1 h1 q2
      · rw [cu_sg_n (fun x => q2 x.2)]
        have b := (ih1 (c + 1) (by omega) h3).1.2
        omega
    · rw [cu_sg_n (fun x => q x.2)]
      have b := ih1 c (by omega) h2
      refine ⟨⟨b.1.1, by omega⟩, fun h3 => ?_⟩
      rw [cu_sg_n (fun x => by have := x.2; omega)]
      exact b.2 h3
theorem cu_sg_bd {n : Nat} {P C : Nat → Int} (h : cu_ok n P C) {c : Int} (h0 : 0 ≤ c) (h1 : c ≤ C 0) : (0 ≤ cu_sg P C c (n - 1) ∧ cu_sg P C c (n - 1) ≤ 60) ∧ (c + 1 ≤ C 0 → cu_sg P C (c + 1) (n - 1) ≤ cu_sg P C c (n - 1)) := by
  obtain ⟨a1, a2, a3, a4, a5⟩ := h
  rcases Nat.lt_or_ge n 2 with q | q
  · have e : n - 1 = 0 := by omega
    rw [e]
    exact ⟨⟨Int.le_refl _, by show (0 : Int) ≤ 60; omega⟩, fun _ => Int.le_refl _⟩
  · obtain ⟨k, rfl⟩ : ∃ k, n = k + 2 := ⟨n - 2, by omega⟩
    rw [show k + 2 - 1 = k + 1 by omega] at a3 a4 ⊢
    have b := cu_sg_ok (P := P) (C := C) k (fun i hi => a5 i (by omega)) c (by omega) h1
    exact ⟨⟨by omega, by omega⟩, b.2⟩
theorem cu_cp_bd {n : Nat} {P C : Nat → Int} (h : cu_ok n P C) {c : Int} (h0 : 0 ≤ c) : -20 ≤ cu_cp n P C c ∧ cu_cp n P C c ≤ 60 := by
  unfold cu_cp
  rcases x_lt (C 0) c with ⟨q, q_n⟩ | ⟨q, q_n⟩
  · rw [if_pos q]
    rcases x_lt 10 (c - C 0) with ⟨q2, q2_n⟩ | ⟨q2, q2_n⟩
    · rw [if_pos q2]; omega
    · rw [if_neg q2]; omega
  · rw [if_neg q]
    have b := (cu_sg_bd h h0 (by omega)).1
    omega
theorem cu_cp_mono {n : Nat} {P C : Nat → Int} (h : cu_ok n P C) {c : Int} (h0 : 0 ≤ c) : cu_cp n P C (c + 1) ≤ cu_cp n P C c := by
  unfold cu_cp
  rcases x_lt (C 0) c with ⟨q, q_n⟩ | ⟨q, q_n⟩
  · rw [if_pos q, if_pos (show C 0 < c + 1 by omega)]
    rcases x_lt 10 (c - C 0) with ⟨q2, q2_n⟩ | ⟨q2, q2_n⟩
    · rw [if_pos q2, if_pos (show 10 < c + 1 - C 0 by omega)]
      exact Int.le_refl _
    · rw [if_neg q2]
      rcases x_lt 10 (c + 1 - C 0) with ⟨q3, q3_n⟩ | ⟨q3, q3_n⟩
      · rw [if_pos q3]; omega
      · rw [if_neg q3]; omega
  · rw [if_neg q]
    have b := cu_sg_bd h h0 (by omega)
    rcases x_lt (C 0) (c + 1) with ⟨q3, q3_n⟩ | ⟨q3, q3_n⟩
    · rw [if_pos q3]
      rcases x_lt 10 (c + 1 - C 0) with ⟨q2, q2_n⟩ | ⟨q2, q2_n⟩
      · rw [if_pos q2]; omega
      · rw [if_neg q2]; omega
    · rw [if_neg q3]
      exact b.2 (by omega)
/-! GROUPS of a ROW: one behind another, as the class sums them, or each of all CELLS, as the reference does -/
def cu_gs (G v : Nat → Int) (y : Int) : Nat → Int
  | 0 => 0
  | i + 1 => cu_gs G v y i + (if G i = y then v i else 0)
def cu_cl (d t : Int) : Int := if d ≠ 0 ∧ t < -1 then -1 else t
def cu_R (G v : Nat → Int) (D : Nat → Int) (i : Nat) : Nat → Int
  | 0 => 0
  | m + 1 => cu_R G v D i m + cu_cl (D m) (cu_gs G v m i)
def cu_st (n : Nat) (G v : Nat → Int) (D : Nat → Int) : Nat → Int × Int
  | 0 => (0, 0)
  | j + 1 => if j + 1 = n ∨ G (j + 1) ≠ G j then ((cu_st n G v D j).1 + cu_cl (D (G j).toNat) ((cu_st n G v D j).2 + v j), 0) else ((cu_st n G v D j).1, (cu_st n G v D j).2 + v j)
def cu_gp (G : Nat → Int) (n gr : Nat) : Prop := (n = 0 → gr = 0) ∧ (0 < n → G 0 = 0 ∧ G (n - 1) = (gr : Int) - 1) ∧ ∀ j, j + 1 < n → G (j + 1) = G j ∨ G (j + 1) = G j + 1
theorem cu_gs_0 {G v : Nat → Int} {y : Int} : ∀ i, (∀ k, k < i → G k ≠ y) → cu_gs G v y i = 0 := by
  intro i
  induction i with
  | zero => intro _; rfl
  | succ i ih =>
    intro h
    show cu_gs G v y i + (if G i = y then v i else 0) = 0
    rw [ih (fun k hk => h k (by omega)), if_neg (h i (by omega))]
    rfl
theorem cu_R_s {G v : Nat → Int} {D : Nat → Int} {i : Nat} : ∀ m : Nat, (m : Int) ≤ G i → cu_R G v D (i + 1) m = cu_R G v D i m := by
  intro m
  induction m with
  | zero => intro _; rfl
  | succ m ih =>
    intro h
    show cu_R G v D (i + 1) m + cu_cl (D m) (cu_gs G v m i + (if G i = m then v i else 0)) = cu_R G v D i m + cu_cl (D m) (cu_gs G v m i)
    rw [ih (by omega), if_neg (by omega), Int.add_zero]
theorem cu_st_in {G v : Nat → Int} {D : Nat → Int} {n gr : Nat} (h : cu_gp G n gr) : ∀ i, i < n → ∃ y : Nat, G i = y ∧ (∀ k, k ≤ i → G k ≤ y) ∧ cu_st n G v D i = (cu_R G v D i y, cu_gs G v y i) := by
  intro i
  induction i with
  | zero =>
    intro hi
    refine ⟨0, (h.2.1 (by omega)).1, fun k hk => ?_, rfl⟩
    have : k = 0 := by omega
    rw [this, (h.2.1 (by omega)).1]
    exact Int.le_refl _
  | succ i ih =>
    intro hi
    obtain ⟨y, y1, y2, y3⟩ := ih (by omega)
    have e : cu_st n G v D (i + 1) = if i + 1 = n ∨ G (i + 1) ≠ G i then ((cu_st n G v D i).1 + cu_cl (D (G i).toNat) ((cu_st n G v D i).2 + v i), 0) else ((cu_st n G v D i).1, (cu_st n G v D i).2 + v i) := rfl
    have es : cu_gs G v y (i + 1) = cu_gs G v y i + v i := by
      show cu_gs G v y i + (if G i = y then v i else 0) = _
      rw [if_pos y1]
    have eR : cu_R G v D (i + 1) y = cu_R G v D i y := cu_R_s y (by omega)
    rcases h.2.2 i hi with q | q
    · refine ⟨y, by omega, fun k hk => ?_, ?_⟩
      · by_cases c : k = i + 1
        · subst c; omega
        · exact y2 k (by omega)
      · rw [e, if_neg (fun x => by rcases x with x | x; omega; exact x q), y3, eR, es]
    · refine ⟨y + 1, by omega, fun k hk => ?_, ?_⟩
      · by_cases c : k = i + 1
        · subst c; omega
        · have := y2 k (by omega); omega
      · have e0 : cu_gs G v ((y + 1 : Nat) : Int) (i + 1) = 0 := cu_gs_0 (i + 1) (fun k hk => by have := y2 k (by omega); omega)
        have e1 : cu_R G v D (i + 1) (y + 1) = cu_R G v D (i + 1) y + cu_cl (D y) (cu_gs G v y (i + 1)) := rfl
        rw [e, if_pos (Or.inr (by omega)), y3, e0, e1, eR, es, y1, Int.toNat_natCast]
theorem cu_gp_b {G : Nat → Int} {n gr : Nat} (h : cu_gp G n gr) : ∀ d i, i + d + 1 = n → G i ≤ (gr : Int) - 1 := by
  intro d
  induction d with
  | zero =>
    intro i hi
    have := (h.2.1 (by omega)).2
    rw [show n - 1 = i by omega] at this
    omega
  | succ d ih =>
    intro i hi
    have a := ih (i + 1) (by omega)
    rcases h.2.2 i (by omega) with q | q
    · omega
    · omega
theorem cu_gp_lt {G : Nat → Int} {n gr : Nat} (h : cu_gp G n gr) (i : Nat) (hi : i < n) : G i < gr := by
  have := cu_gp_b h (n - i - 1) i (by omega)
  omega
/-- each GROUP has a CELL -/
theorem cu_gp_on {G : Nat → Int} {n gr : Nat} (h : cu_gp G n gr) : ∀ y : Nat, y < gr → ∃ i, i < n ∧ G i = y := by
  have key : ∀ i, i < n → ∀ y : Nat, (y : Int) ≤ G i → ∃ k, k ≤ i ∧ G k = y := by
    intro i
    induction i with
    | zero =>
      intro hi y hy
      have := (h.2.1 (by omega)).1
      exact ⟨0, Nat.le_refl _, by omega⟩
    | succ i ih =>
      intro hi y hy
      by_cases e : G (i + 1) = y
      · exact ⟨i + 1, Nat.le_refl _, e⟩
      · obtain ⟨k, k1, k2⟩ := ih (by omega) y (by rcases h.2.2 i hi with q | q <;> omega)
        exact ⟨k, by omega, k2⟩
  intro y hy
  rcases Nat.eq_zero_or_pos n with z | z
  · have := h.1 z
    omega
  · obtain ⟨k, k1, k2⟩ := key (n - 1) (by omega) y (by rw [(h.2.1 z).2]; omega)
    exact ⟨k, by omega, k2⟩
theorem cu_st_ok {G v : Nat → Int} {D : Nat → Int} {n gr : Nat} (h : cu_gp G n gr) : (cu_st n G v D n).1 = cu_R G v D n gr := by
  rcases Nat.eq_zero_or_pos n with q | q
  · subst q
    rw [h.1 rfl]
    rfl
  · obtain ⟨i, rfl⟩ : ∃ i, n = i + 1 := ⟨n - 1, by omega⟩
    obtain ⟨y, y1, y2, y3⟩ := cu_st_in (v := v) (D := D) h i (by omega)
    have e : cu_st (i + 1) G v D (i + 1) = ((cu_st (i + 1) G v D i).1 + cu_cl (D (G i).toNat) ((cu_st (i + 1) G v D i).2 + v i), 0) := if_pos (Or.inl rfl)
    have g := (h.2.1 q).2
    rw [show i + 1 - 1 = i by omega] at g
    have hg : gr = y + 1 := by omega
    have es : cu_gs G v y (i + 1) = cu_gs G v y i + v i := by
      show cu_gs G v y i + (if G i = y then v i else 0) = _
      rw [if_pos y1]
    have e1 : cu_R G v D (i + 1) (y + 1) = cu_R G v D (i + 1) y + cu_cl (D y) (cu_gs G v y (i + 1)) := rfl
    rw [e, y3, hg, e1, cu_R_s y (by omega), es, y1, Int.toNat_natCast]
theorem cu_cl_mono {d t t' : Int} (h : t ≤ t') : cu_cl d t ≤ cu_cl d t' := by
  unfold cu_cl
  by_cases q : d ≠ 0 ∧ t < -1
  · rw [if_pos q]
    by_cases q2 : d ≠ 0 ∧ t' < -1
    · rw [if_pos q2]; exact Int.le_refl _
    · rw [if_neg q2]
      have : ¬ t' < -1 := fun e => q2 ⟨q.1, e⟩
      omega
  · rw [if_neg q]
    by_cases q2 : d ≠ 0 ∧ t' < -1
    · have : ¬ t < -1 := fun e => q ⟨q2.1, e⟩
      omega
    · rw [if_neg q2]; exact h
theorem cu_gs_mono {G v v' : Nat → Int} {y : Int} : ∀ i, (∀ k, k < i → v k ≤ v' k) → cu_gs G v y i ≤ cu_gs G v' y i := by
  intro i
  induction i with
  | zero => intro _; exact Int.le_refl _
  | succ i ih =>
    intro h
    show cu_gs G v y i + (if G i = y then v i else 0) ≤ cu_gs G v' y i + (if G i = y then v' i else 0)
    have a := ih (fun k hk => h k (by omega))
    have b := h i (by omega)
    by_cases c : G i = y
    · rw [if_pos c, if_pos c]; omega
    · rw [if_neg c, if_neg c]; omega
theorem cu_R_mono {G v v' : Nat → Int} {D : Nat → Int} {i : Nat} (h : ∀ k, k < i → v k ≤ v' k) : ∀ m, cu_R G v D i m ≤ cu_R G v' D i m := by
  intro m
  induction m with
  | zero => exact Int.le_refl _
  | succ m ih =>
    have a : cu_cl (D m) (cu_gs G v m i) ≤ cu_cl (D m) (cu_gs G v' m i) := cu_cl_mono (cu_gs_mono i h)
    show cu_R G v D i m + cu_cl (D m) (cu_gs G v m i) ≤ cu_R G v' D i m + cu_cl (D m) (cu_gs G v' m i)
    omega
/-- sums stay small -/
theorem cu_gs_bd {G v : Nat → Int} {y b : Int} (hb : 0 ≤ b) : ∀ i, (∀ k, k < i → -b ≤ v k ∧ v k ≤ b) → -(b * i) ≤ cu_gs G v y i ∧ cu_gs G v y i ≤ b * i := by
  intro i
  induction i with
  | zero => intro _; exact ⟨by show -(b * 0) ≤ 0; omega, by show (0 : Int) ≤ b * 0; omega⟩
  | succ i ih =>
    intro h
    have a := ih (fun k hk => h k (by omega))
    have c := h i (by omega)
    have e : b * ((i + 1 : Nat) : Int) = b * i + b := by rw [Int.natCast_succ, Int.mul_add, Int.mul_one]
    show -(b * ((i + 1 : Nat) : Int)) ≤ cu_gs G v y i + (if G i = y then v i else 0) ∧ cu_gs G v y i + (if G i = y then v i else 0) ≤ b * ((i + 1 : Nat) : Int)
    rw [e]
    by_cases q : G i = y
    · rw [if_pos q]; omega
    · rw [if_neg q]; omega
/-! CURRENT at a PUSH -/
def cu_cu (f : Nat → Int) (u : Int) : Nat → Nat
  | 0 => 0
  | t + 1 => if f (t + 1) < u then cu_cu f u t else t + 1
theorem cu_cu_le {f : Nat → Int} {u : Int} : ∀ t, cu_cu f u t ≤ t := by
  intro t
  induction t with
  | zero => exact Nat.le_refl _
  | succ t ih =>
    show (if f (t + 1) < u then cu_cu f u t else t + 1) ≤ t + 1
    rcases x_lt (f (t + 1)) u with ⟨q, q_n⟩ | ⟨q, q_n⟩
    · rw [if_pos q]; omega
    · rw [if_neg q]; exact Nat.le_refl _
theorem cu_cu_u {f : Nat → Int} {u : Int} {c : Nat} (h0 : c = 0 ∨ u ≤ f c) : ∀ t, c ≤ t → (∀ c', c < c' → c' ≤ t → f c' < u) → cu_cu f u t = c := by
  intro t
  induction t with
  | zero => intro h _; show 0 = c; omega
  | succ t ih =>
    intro h h1
    show (if f (t + 1) < u then cu_cu f u t else t + 1) = c
    by_cases e : c = t + 1
    · subst e
      rw [if_neg (by omega)]
    · rw [if_pos (h1 (t + 1) (by omega) (Nat.le_refl _))]
      exact ih (by omega) (fun c' a b => h1 c' a (by omega))
theorem cu_cu_s {f : Nat → Int} {u : Int} : ∀ t, (cu_cu f u t = 0 ∨ u ≤ f (cu_cu f u t)) ∧ ∀ c', cu_cu f u t < c' → c' ≤ t → f c' < u := by
  intro t
  induction t with
  | zero => exact ⟨Or.inl rfl, fun c' a b => absurd (show c' ≤ 0 from b) (by have : 0 < c' := a; omega)⟩
  | succ t ih =>
    have e : cu_cu f u (t + 1) = if f (t + 1) < u then cu_cu f u t else t + 1 := rfl
    rcases x_lt (f (t + 1)) u with ⟨q, q_n⟩ | ⟨q, q_n⟩
    · rw [e, if_pos q]
      refine ⟨ih.1, fun c' a b => ?_⟩
      by_cases k : c' = t + 1
      · rw [k]; exact q
      · exact ih.2 c' a (by omega)
    · rw [e, if_neg q]
      exact ⟨Or.inr (by omega), fun c' a b => by omega⟩
theorem cu_fall {f : Nat → Int} {t : Nat} (h : ∀ c, c < t → f (c + 1) ≤ f c) : ∀ d c, c + d ≤ t → f (c + d) ≤ f c := by
  intro d
  induction d with
  | zero => intro c _; exact Int.le_refl _
  | succ d ih =>
    intro c hc
    have a := ih c (by omega)
    have b := h (c + d) (by omega)
    rw [show c + (d + 1) = c + d + 1 by omega]
    omega
/-- seen from below, where it never rises -/
theorem cu_cu_f {f : Nat → Int} {u : Int} {c t : Nat} (hf : ∀ c, c < t → f (c + 1) ≤ f c) (h0 : c = 0 ∨ u ≤ f c) (hc : c ≤ t) (h1 : c + 1 ≤ t → f (c + 1) < u) : cu_cu f u t = c :=
  cu_cu_u h0 t hc (fun c' a b => by
    have := cu_fall hf (c' - (c + 1)) (c + 1) (by omega)
    rw [show c + 1 + (c' - (c + 1)) = c' by omega] at this
    have := h1 (by omega)
    omega)
theorem cu_cu_mono {f : Nat → Int} {u u' : Int} (h : u ≤ u') : ∀ t, cu_cu f u' t ≤ cu_cu f u t := by
  intro t
  induction t with
  | zero => exact Nat.le_refl _
  | succ t ih =>
    show (if f (t + 1) < u' then cu_cu f u' t else t + 1) ≤ (if f (t + 1) < u then cu_cu f u t else t + 1)
    rcases x_lt (f (t + 1)) u with ⟨q, q_n⟩ | ⟨q, q_n⟩
    · rw [if_pos (show f (t + 1) < u' by omega), if_pos q]; exact ih
    · rw [if_neg q]
      rcases x_lt (f (t + 1)) (u') with ⟨q2, q2_n⟩ | ⟨q2, q2_n⟩
      · rw [if_pos q2]; have := cu_cu_le (f := f) (u := u') t; omega
      · rw [if_neg q2]; exact Nat.le_refl _
def cu_S (F : Nat → Nat → Int) (u : Int) : Nat → Int
  | 0 => 0
  | m + 1 => cu_S F u m + (cu_cu (F m) u 99 : Int)
theorem cu_S_bd {F : Nat → Nat → Int} {u : Int} : ∀ m : Nat, 0 ≤ cu_S F u m ∧ cu_S F u m ≤ 99 * m := by
  intro m
  induction m with
  | zero => exact ⟨Int.le_refl _, Int.le_refl _⟩
  | succ m ih =>
    have a := cu_cu_le (f := F m) (u := u) 99
    show 0 ≤ cu_S F u m + (cu_cu (F m) u 99 : Int) ∧ cu_S F u m + (cu_cu (F m) u 99 : Int) ≤ 99 * ((m + 1 : Nat) : Int)
    omega
/-- the first u of the greatest POWER -/
def cu_b (s : Nat → Int) : Nat → Nat
  | 0 => 0
  | u + 1 => if (cu_b s u : Int) * s (cu_b s u) < ((u + 1 : Nat) : Int) * s (u + 1) then u + 1 else cu_b s u
theorem cu_b_le {s : Nat → Int} : ∀ t, cu_b s t ≤ t := by
  intro t
  induction t with
  | zero => exact Nat.le_refl _
  | succ t ih =>
    show (if (cu_b s t : Int) * s (cu_b s t) < ((t + 1 : Nat) : Int) * s (t + 1) then t + 1 else cu_b s t) ≤ t + 1
    rcases x_lt ((cu_b s t : Int) * s (cu_b s t)) (((t + 1 : Nat) : Int) * s (t + 1)) with ⟨q, q_n⟩ | ⟨q, q_n⟩
    · rw [if_pos q]; exact Nat.le_refl _
    · rw [if_neg q]; omega
theorem cu_b_cg {s s' : Nat → Int} : ∀ t, (∀ u, u ≤ t → s' u = s u) → cu_b s' t = cu_b s t := by
  intro t
  induction t with
  | zero => intro _; rfl
  | succ t ih =>
    intro h
    have e := ih (fun u hu => h u (by omega))
    have l := cu_b_le (s := s) t
    show (if (cu_b s' t : Int) * s' (cu_b s' t) < ((t + 1 : Nat) : Int) * s' (t + 1) then t + 1 else cu_b s' t) = (if (cu_b s t : Int) * s (cu_b s t) < ((t + 1 : Nat) : Int) * s (t + 1) then t + 1 else cu_b s t)
    rw [e, h (t + 1) (Nat.le_refl _), h (cu_b s t) (by omega)]
end
section
/-! what the reference reads of CELLS and ROWS: exactly -/
/-- a CELL has a CURVE -/
def hd_cv (g : Int → Int) (q : Int) : Prop := ∃ n : Nat, 2 ≤ n ∧ n ≤ 6 ∧ g (28 * q + 2) = n ∧ g (28 * q + 3) = 0 ∧ g (28 * q + 3 + ((n - 1 : Nat) : Int)) ≤ 60 ∧ g (28 * q + 9 + ((n - 1 : Nat) : Int)) = 0 ∧ g (28 * q + 9) ≤ 99 ∧ ∀ i : Nat, i + 1 < n → g (28 * q + 3 + (i : Int)) < g (28 * q + 3 + ((i + 1 : Nat) : Int)) ∧ g (28 * q + 9 + ((i + 1 : Nat) : Int)) < g (28 * q + 9 + (i : Int))
def cu_pv (g : Int → Int) (w q : Int) (i : Nat) : Int := g (28 * q + 3 + (i : Int)) - (g (28 * q + 3 + (i : Int)) * w).tdiv 100
def cu_cv (g : Int → Int) (s q : Int) (i : Nat) : Int := (g (28 * q + 9 + (i : Int)) * s).tdiv 100
theorem cu_up {X : Nat → Int} : ∀ d i : Nat, (∀ j, i ≤ j → j < i + d → X j < X (j + 1)) → X i + d ≤ X (i + d) := by
  intro d
  induction d with
  | zero => intro i _; show X i + 0 ≤ X i; omega
  | succ d ih =>
    intro i h
    have a := ih i (fun j h1 h2 => h j h1 (by omega))
    have b := h (i + d) (by omega) (by omega)
    rw [show i + (d + 1) = i + d + 1 by omega]
    omega
theorem hd_cv_bd {g : Int → Int} {q : Int} {n : Nat} (h : hd_cv g q) (hn : g (28 * q + 2) = n) : 2 ≤ n ∧ n ≤ 6 ∧ (∀ i : Nat, i < n → (0 ≤ g (28 * q + 3 + (i : Int)) ∧ g (28 * q + 3 + (i : Int)) ≤ 60) ∧ 0 ≤ g (28 * q + 9 + (i : Int)) ∧ g (28 * q + 9 + (i : Int)) ≤ 99) ∧ g (28 * q + 3) = 0 ∧ g (28 * q + 9 + ((n - 1 : Nat) : Int)) = 0 ∧ ∀ i : Nat, i + 1 < n → g (28 * q + 3 + (i : Int)) < g (28 * q + 3 + ((i + 1 : Nat) : Int)) ∧ g (28 * q + 9 + ((i + 1 : Nat) : Int)) < g (28 * q + 9 + (i : Int)) := by
  obtain ⟨m, m1, m2, m3, m4, m5, m6, m7, m8⟩ := h
  have e : m = n := by omega
  subst e
  refine ⟨m1, m2, fun i hi => ?_, m4, m6, m8⟩
  have a1 := cu_up (X := fun j : Nat => g (28 * q + 3 + (j : Int))) i 0 (fun j _ h2 => (m8 j (by omega)).1)
  have a2 := cu_up (X := fun j : Nat => g (28 * q + 3 + (j : Int))) (m - 1 - i) i (fun j _ h2 => (m8 j (by omega)).1)
  have a3 := cu_up (X := fun j : Nat => - g (28 * q + 9 + (j : Int))) i 0 (fun j _ h2 => by have := (m8 j (by omega)).2; show - g (28 * q + 9 + (j : Int)) < - g (28 * q + 9 + ((j + 1 : Nat) : Int)); omega)
  have a4 := cu_up (X := fun j : Nat => - g (28 * q + 9 + (j : Int))) (m - 1 - i) i (fun j _ h2 => by have := (m8 j (by omega)).2; show - g (28 * q + 9 + (j : Int)) < - g (28 * q + 9 + ((j + 1 : Nat) : Int)); omega)
  simp only [Nat.zero_add] at a1 a3
  rw [show i + (m - 1 - i) = m - 1 by omega] at a2 a4
  have z3 : g (28 * q + 3 + ((0 : Nat) : Int)) = 0 := by rw [← m4]; exact congrArg g (by omega)
  have z9 : g (28 * q + 9 + ((0 : Nat) : Int)) ≤ 99 := by rw [show 28 * q + 9 + ((0 : Nat) : Int) = 28 * q + 9 by omega]; exact m7
  omega
/-- what WARM takes off -/
theorem cu_wv {p w : Int} (h0 : 0 ≤ p ∧ p ≤ 100) (h1 : 0 ≤ w ∧ w ≤ 100) : (0 ≤ p * w ∧ p * w ≤ 10000) ∧ 0 ≤ (p * w).tdiv 100 ∧ (p * w).tdiv 100 ≤ p := by
  have a : 0 ≤ p * w := Int.mul_nonneg h0.1 h1.1
  have b : p * w ≤ p * 100 := Int.mul_le_mul_of_nonneg_left h1.2 h0.1
  rw [Int.tdiv_eq_ediv_of_nonneg a]
  omega
theorem cu_wm {p p' w : Int} (h0 : 0 ≤ p) (h1 : p ≤ p') (hw : 0 ≤ w ∧ w ≤ 100) : (p * w).tdiv 100 ≤ (p' * w).tdiv 100 ∧ (p' * w).tdiv 100 - (p * w).tdiv 100 ≤ p' - p := by
  have a : 0 ≤ p * w := Int.mul_nonneg h0 hw.1
  have a' : 0 ≤ p' * w := Int.mul_nonneg (by omega) hw.1
  have b : (p' - p) * w ≤ (p' - p) * 100 := Int.mul_le_mul_of_nonneg_left hw.2 (by omega)
  have c : 0 ≤ (p' - p) * w := Int.mul_nonneg (by omega) hw.1
  rw [Int.sub_mul] at b c
  rw [Int.tdiv_eq_ediv_of_nonneg a, Int.tdiv_eq_ediv_of_nonneg a']
  omega
theorem cu_vok {g : Int → Int} {q s w : Int} {n : Nat} (h : hd_cv g q) (hn : g (28 * q + 2) = n) (hs : 0 ≤ s ∧ s ≤ 100) (hw : 0 ≤ w ∧ w ≤ 100) : cu_ok n (cu_pv g w q) (cu_cv g s q) ∧ ∀ i : Nat, i < n → (0 ≤ cu_pv g w q i ∧ cu_pv g w q i ≤ 60) ∧ 0 ≤ cu_cv g s q i ∧ cu_cv g s q i ≤ 99 := by
  obtain ⟨b1, b2, b3, b4, b5, b6⟩ := hd_cv_bd h hn
  have k : ∀ i : Nat, i < n → (0 ≤ cu_pv g w q i ∧ cu_pv g w q i ≤ 60) ∧ 0 ≤ cu_cv g s q i ∧ cu_cv g s q i ≤ 99 := by
    intro i hi
    obtain ⟨c1, c2⟩ := b3 i hi
    have d1 := cu_wv (p := g (28 * q + 3 + (i : Int))) (w := w) ⟨c1.1, by omega⟩ hw
    have d2 := cu_wv (p := g (28 * q + 9 + (i : Int))) (w := s) ⟨c2.1, by omega⟩ hs
    unfold cu_pv cu_cv
    omega
  refine ⟨⟨by omega, (k 0 (by omega)).1.1, (k (n - 1) (by omega)).1.2, ?_, fun i hi => ?_⟩, k⟩
  · unfold cu_cv
    rw [b5, Int.zero_mul]
    rfl
  · obtain ⟨e1, e2⟩ := b6 i hi
    have c1 := b3 i (by omega)
    have c2 := b3 (i + 1) (by omega)
    have d1 := cu_wm (p := g (28 * q + 3 + (i : Int))) (p' := g (28 * q + 3 + ((i + 1 : Nat) : Int))) (w := w) c1.1.1 (by omega) hw
    have d2 := cu_wm (p := g (28 * q + 9 + ((i + 1 : Nat) : Int))) (p' := g (28 * q + 9 + (i : Int))) (w := s) c2.2.1 (by omega) hs
    unfold cu_pv cu_cv
    omega
/-- CURRENT of a POINT -/
theorem rx_cur {q s : Int} {i : Nat} {M : EM} (hq : 0 ≤ q ∧ q < 40) (hi : i < 6) (hb : 0 ≤ r_G M (28 * q + 9 + (i : Int)) ∧ r_G M (28 * q + 9 + (i : Int)) ≤ 99) (hs : 0 ≤ s ∧ s ≤ 100) : E_C 194 [192, q, (i : Int), s] M = some (cu_cv (r_G M) s q i, M) := by
  have w1 : e_w (28 * q) = 28 * q := a_w_id (by omega) (by omega)
  have w2 : e_w (28 * q + 9) = 28 * q + 9 := a_w_id (by omega) (by omega)
  have w3 : e_w (28 * q + 9 + (i : Int)) = 28 * q + 9 + (i : Int) := a_w_id (by omega) (by omega)
  have l1 : e_op 60 [193, 28 * q + 9 + (i : Int)] M = some (r_G M (28 * q + 9 + (i : Int))) := r_rd (by omega) (by omega)
  have d := cu_wv (p := r_G M (28 * q + 9 + (i : Int))) (w := s) ⟨hb.1, by omega⟩ hs
  unfold cu_cv
  revert l1 d hb
  generalize r_G M (28 * q + 9 + (i : Int)) = z
  intro hb l1 d
  have w4 : e_w (z * s) = z * s := a_w_id (by omega) (by omega)
  have w5 : e_w ((z * s).tdiv 100) = (z * s).tdiv 100 := a_w_id (by omega) (by omega)
  rw [r_ent (show e_rok 194 [192, q, (i : Int), s] = true from decide_eq_true r_ref)]
  show e_tv E_C (E_V 194) e_t194_0 [192, q, (i : Int), s] M = _
  unfold e_t194_0
  simp [zq_a, zq_b, zq_c, zq_d, zq_e, zq_f, zq_g, zq_h, zq_i, zq_j, zq_k, zq_l, zq_m, zq_n, zq_o, zq_p, zq_q, zq_r, zq_s, zq_t, zq_u, zq_v, zq_w, zq_x, zq_y, zq_z, zq_A, zq_B, zq_C, zq_D, zq_E, zq_F, zq_G, zq_H, zq_I, zq_J, zq_K, zq_L, ↓zq_M, ↓zq_N, ↓zq_O, ↓zq_P, ↓zq_Q, ↓zq_R, zq_S, zq_T, zq_U, zq_V, zq_W, zq_X, zq_Y, zq_Z, zq_0, zq_1, zq_2, zq_3, zq_4, zq_5, ↓zq_6, ↓zq_7, ↓zq_8, ↓zq_9, ↓zq_aa, zq_ab, zq_ac, zq_ad, zq_ae, zq_af, zq_ag, ↓zq_ah, ↓zq_ai, ↓zq_aj, zq_ak, ↓zq_al, ↓zq_am, e_b1, e_b2, x_o1, x_o2, r_O0, w1, w2, w3, l1, w4, w5]
/-- how things stand as the reference asks: SHARES, WARMS, DIODES -/
def rx_md (M : EM) (SH WM : Int → Int) (DI : Int → Nat → Int) : Prop :=
  (∀ b q, b ≤ 40 → b ≤ r_G M 1198 → r_cl (r_G M) b q → (E_C 192 [192, q] M = some (SH q, M) ∧ 0 ≤ SH q ∧ SH q ≤ 100) ∧ (0 ≤ WM q ∧ WM q ≤ 100) ∧ ∀ i : Nat, i < 6 → 0 ≤ r_G M (28 * q + 3 + (i : Int)) → r_G M (28 * q + 3 + (i : Int)) ≤ 60 → E_C 193 [192, q, (i : Int)] M = some (cu_pv (r_G M) (WM q) q i, M)) ∧
  (∀ q (y : Nat), 0 ≤ q → q < 40 → y < 8 → E_C 200 [192, q, (y : Int)] M = some (DI q y, M) ∧ (DI q y = 0 ∨ DI q y = 1))
def cu_v (g : Int → Int) (SH WM : Int → Int) (q c : Int) : Int := cu_cp (g (28 * q + 2)).toNat (cu_pv g (WM q) q) (cu_cv g (SH q) q) c
theorem rx_ar {s t a b c : Int} (h1 : 0 ≤ t) (h2 : t ≤ s) (h3 : s ≤ 60) (h4 : 0 ≤ a) (h5 : a ≤ c) (h6 : c ≤ b) (h7 : b ≤ 99) (h8 : a ≠ b) : e_w (s - e_w ((e_w (e_w (s - t) * e_w (c - a))).tdiv (e_w (b - a)))) = s - ((s - t) * (c - a)).tdiv (b - a) := by
  have q := cu_q (A := s - t) (B := c - a) (D := b - a) (by omega) (by omega) (by omega) (by omega)
  have m : (s - t) * (c - a) ≤ (s - t) * 99 := Int.mul_le_mul_of_nonneg_left (by omega) (by omega)
  have m0 : 0 ≤ (s - t) * (c - a) := Int.mul_nonneg (by omega) (by omega)
  rw [a_w_id (x := s - t) (by omega) (by omega), a_w_id (x := c - a) (by omega) (by omega), a_w_id (x := b - a) (by omega) (by omega)]
  revert q m m0
  generalize (s - t) * (c - a) = z
  intro q m m0
  rw [a_w_id (x := z) (by omega) (by omega)]
  revert q
  generalize z.tdiv (b - a) = y
  intro q
  rw [a_w_id (x := y) (by omega) (by omega), a_w_id (by omega) (by omega)]
theorem rx_sg {q c s x4 : Int} {n : Nat} {P : Nat → Int} {M : EM} (hq : 0 ≤ q ∧ q < 40) (hc : -2147483648 ≤ c ∧ c ≤ 2147483647) (hs : 0 ≤ s ∧ s ≤ 100) (hn6 : n ≤ 6) (hb : ∀ i : Nat, i < n → 0 ≤ r_G M (28 * q + 9 + (i : Int)) ∧ r_G M (28 * q + 9 + (i : Int)) ≤ 99) (hC : ∀ i : Nat, i < n → 0 ≤ cu_cv (r_G M) s q i ∧ cu_cv (r_G M) s q i ≤ 99) (hP : ∀ i : Nat, i < n → E_C 193 [192, q, (i : Int)] M = some (P i, M) ∧ 0 ≤ P i ∧ P i ≤ 60) (hm : ∀ i, i + 1 < n → P i ≤ P (i + 1)) : ∀ (l : Nat) (x5 x6 x7 x8 : Int), x5 = l → l < n → E_V 198 46 [192, q, c, s, x4, x5, x6, x7, x8] M = some (cu_sg P (cu_cv (r_G M) s q) c l, M) := by
  intro l
  induction l with
  | zero =>
    intro x5 x6 x7 x8 hx _
    have hx0 : x5 = 0 := hx
    subst hx0
    rw [E_V_eq]
    show e_tv E_C (E_V 198) e_t198_46 [192, q, c, s, x4, 0, x6, x7, x8] M = _
    unfold e_t198_46
    simp [zq_a, zq_b, zq_c, zq_d, zq_e, zq_f, zq_g, zq_h, zq_i, zq_j, zq_k, zq_l, zq_m, zq_n, zq_o, zq_p, zq_q, zq_r, zq_s, zq_t, zq_u, zq_v, zq_w, zq_x, zq_y, zq_z, zq_A, zq_B, zq_C, zq_D, zq_E, zq_F, zq_G, zq_H, zq_I, zq_J, zq_K, zq_L, ↓zq_M, ↓zq_N, ↓zq_O, ↓zq_P, ↓zq_Q, ↓zq_R, zq_S, zq_T, zq_U, zq_V, zq_W, zq_X, zq_Y, zq_Z, zq_0, zq_1, zq_2, zq_3, zq_4, zq_5, ↓zq_6, ↓zq_7, ↓zq_8, ↓zq_9, ↓zq_aa, zq_ab, zq_ac, zq_ad, zq_ae, zq_af, zq_ag, ↓zq_ah, ↓zq_ai, ↓zq_aj, zq_ak, ↓zq_al, ↓zq_am, e_b1, e_b2, x_o1, x_o2, cu_sg]
  | succ l ih =>
    intro x5 x6 x7 x8 hx hl
    have q0 : 0 < x5 := by omega
    have w1 : e_w (x5 - 1) = x5 - 1 := a_w_id (by omega) (by omega)
    have w2 : e_w (x5 + -1) = x5 - 1 := (a_w_id (by omega) (by omega)).trans (by omega)
    have ka : E_C 194 [192, q, x5, s] M = some (cu_cv (r_G M) s q (l + 1), M) := by
      rw [hx]
      exact rx_cur hq (by omega) (hb (l + 1) hl) hs
    have kb : E_C 194 [192, q, x5 - 1, s] M = some (cu_cv (r_G M) s q l, M) := by
      rw [show x5 - 1 = (l : Int) by omega]
      exact rx_cur hq (by omega) (hb l (by omega)) hs
    obtain ⟨ks0, s1, s2⟩ := hP (l + 1) hl
    obtain ⟨kt0, t1, t2⟩ := hP l (by omega)
    have ks : E_C 193 [192, q, x5] M = some (P (l + 1), M) := by rw [hx]; exact ks0
    have kt : E_C 193 [192, q, x5 - 1] M = some (P l, M) := by rw [show x5 - 1 = (l : Int) by omega]; exact kt0
    clear ks0 kt0
    have ha := hC (l + 1) hl
    have hb' := hC l (by omega)
    have hmm := hm l hl
    have esg : cu_sg P (cu_cv (r_G M) s q) c (l + 1) = if cu_cv (r_G M) s q (l + 1) ≤ c ∧ c ≤ cu_cv (r_G M) s q l then cu_bt P (cu_cv (r_G M) s q) (l + 1) c else cu_sg P (cu_cv (r_G M) s q) c l := rfl
    have ebt : cu_bt P (cu_cv (r_G M) s q) (l + 1) c = if cu_cv (r_G M) s q l = cu_cv (r_G M) s q (l + 1) then P (l + 1) else P (l + 1) - ((P (l + 1) - P l) * (c - cu_cv (r_G M) s q (l + 1))).tdiv (cu_cv (r_G M) s q l - cu_cv (r_G M) s q (l + 1)) := rfl
    have hgo : ∀ y6 y7 y8, E_V 198 136 [192, q, c, s, x4, x5, y6, y7, y8] M = some (cu_sg P (cu_cv (r_G M) s q) c l, M) := by
      intro y6 y7 y8
      have k := ih (x5 - 1) y6 y7 y8 (by omega) (by omega)
      rw [E_V_eq]
      show e_tv E_C (E_V 198) e_t198_136 [192, q, c, s, x4, x5, y6, y7, y8] M = _
      unfold e_t198_136
      simp [zq_a, zq_b, zq_c, zq_d, zq_e, zq_f, zq_g, zq_h, zq_i, zq_j, zq_k, zq_l, zq_m, zq_n, zq_o, zq_p, zq_q, zq_r, zq_s, zq_t, zq_u, zq_v, zq_w, zq_x, zq_y, zq_z, zq_A, zq_B, zq_C, zq_D, zq_E, zq_F, zq_G, zq_H, zq_I, zq_J, zq_K, zq_L, ↓zq_M, ↓zq_N, ↓zq_O, ↓zq_P, ↓zq_Q, ↓zq_R, zq_S, zq_T, zq_U, zq_V, zq_W, zq_X, zq_Y, zq_Z, zq_0, zq_1, zq_2, zq_3, zq_4, zq_5, ↓zq_6, ↓zq_7, ↓zq_8, ↓zq_9, ↓zq_aa, zq_ab, zq_ac, zq_ad, zq_ae, zq_af, zq_ag, ↓zq_ah, ↓zq_ai, ↓zq_aj, zq_ak, ↓zq_al, ↓zq_am, e_b1, e_b2, x_o1, x_o2, w2, k]
    rw [esg, ebt]
    clear esg ebt ih hP hC hb
    revert ka kb ha hb' hgo
    generalize cu_sg P (cu_cv (r_G M) s q) c l = zz
    generalize cu_cv (r_G M) s q (l + 1) = a
    generalize cu_cv (r_G M) s q l = b
    intro ka kb ha hb' hgo
    rcases x_le a c with ⟨c1, c1_n⟩ | ⟨c1, c1_n⟩
    · rcases x_lt b c with ⟨c2, c2_n⟩ | ⟨c2, c2_n⟩
      · have k := hgo a b x8
        rw [if_neg (fun e => by omega)]
        rw [E_V_eq]
        show e_tv E_C (E_V 198) e_t198_46 [192, q, c, s, x4, x5, x6, x7, x8] M = _
        unfold e_t198_46
        simp [zq_a, zq_b, zq_c, zq_d, zq_e, zq_f, zq_g, zq_h, zq_i, zq_j, zq_k, zq_l, zq_m, zq_n, zq_o, zq_p, zq_q, zq_r, zq_s, zq_t, zq_u, zq_v, zq_w, zq_x, zq_y, zq_z, zq_A, zq_B, zq_C, zq_D, zq_E, zq_F, zq_G, zq_H, zq_I, zq_J, zq_K, zq_L, ↓zq_M, ↓zq_N, ↓zq_O, ↓zq_P, ↓zq_Q, ↓zq_R, zq_S, zq_T, zq_U, zq_V, zq_W, zq_X, zq_Y, zq_Z, zq_0, zq_1, zq_2, zq_3, zq_4, zq_5, ↓zq_6, ↓zq_7, ↓zq_8, ↓zq_9, ↓zq_aa, zq_ab, zq_ac, zq_ad, zq_ae, zq_af, zq_ag, ↓zq_ah, ↓zq_ai, ↓zq_aj, zq_ak, ↓zq_al, ↓zq_am, e_b1, e_b2, x_o1, x_o2, q0, w1, ka, kb, c1, c1_n, c2, c2_n, k]
      · rw [if_pos ⟨c1, by omega⟩]
        by_cases c3 : b = a
        · rw [if_pos c3]
          subst c3
          rw [E_V_eq]
          show e_tv E_C (E_V 198) e_t198_46 [192, q, c, s, x4, x5, x6, x7, x8] M = _
          unfold e_t198_46
          simp [zq_a, zq_b, zq_c, zq_d, zq_e, zq_f, zq_g, zq_h, zq_i, zq_j, zq_k, zq_l, zq_m, zq_n, zq_o, zq_p, zq_q, zq_r, zq_s, zq_t, zq_u, zq_v, zq_w, zq_x, zq_y, zq_z, zq_A, zq_B, zq_C, zq_D, zq_E, zq_F, zq_G, zq_H, zq_I, zq_J, zq_K, zq_L, ↓zq_M, ↓zq_N, ↓zq_O, ↓zq_P, ↓zq_Q, ↓zq_R, zq_S, zq_T, zq_U, zq_V, zq_W, zq_X, zq_Y, zq_Z, zq_0, zq_1, zq_2, zq_3, zq_4, zq_5, ↓zq_6, ↓zq_7, ↓zq_8, ↓zq_9, ↓zq_aa, zq_ab, zq_ac, zq_ad, zq_ae, zq_af, zq_ag, ↓zq_ah, ↓zq_ai, ↓zq_aj, zq_ak, ↓zq_al, ↓zq_am, e_b1, e_b2, x_o1, x_o2, q0, w1, ka, kb, ks, c1, c1_n, c2, c2_n]
        · have w3 := rx_ar (s := P (l + 1)) (t := P l) (a := a) (b := b) (c := c) t1 hmm s2 ha.1 c1 (by omega) hb'.2 (fun e => c3 e.symm)
          have c4 : e_w (b - a) ≠ 0 := r_ne_w ⟨by omega, by omega⟩ ⟨by omega, by omega⟩ c3
          rw [if_neg c3, ← w3]
          rw [E_V_eq]
          show e_tv E_C (E_V 198) e_t198_46 [192, q, c, s, x4, x5, x6, x7, x8] M = _
          unfold e_t198_46
          simp [zq_a, zq_b, zq_c, zq_d, zq_e, zq_f, zq_g, zq_h, zq_i, zq_j, zq_k, zq_l, zq_m, zq_n, zq_o, zq_p, zq_q, zq_r, zq_s, zq_t, zq_u, zq_v, zq_w, zq_x, zq_y, zq_z, zq_A, zq_B, zq_C, zq_D, zq_E, zq_F, zq_G, zq_H, zq_I, zq_J, zq_K, zq_L, ↓zq_M, ↓zq_N, ↓zq_O, ↓zq_P, ↓zq_Q, ↓zq_R, zq_S, zq_T, zq_U, zq_V, zq_W, zq_X, zq_Y, zq_Z, zq_0, zq_1, zq_2, zq_3, zq_4, zq_5, ↓zq_6, ↓zq_7, ↓zq_8, ↓zq_9, ↓zq_aa, zq_ab, zq_ac, zq_ad, zq_ae, zq_af, zq_ag, ↓zq_ah, ↓zq_ai, ↓zq_aj, zq_ak, ↓zq_al, ↓zq_am, e_b1, e_b2, x_o1, x_o2, q0, w1, ka, kb, ks, kt, c1, c1_n, c2, c2_n, c3, c4]
    · have k := hgo a b x8
      rw [if_neg (fun e => by omega)]
      rw [E_V_eq]
      show e_tv E_C (E_V 198) e_t198_46 [192, q, c, s, x4, x5, x6, x7, x8] M = _
      unfold e_t198_46
      simp [zq_a, zq_b, zq_c, zq_d, zq_e, zq_f, zq_g, zq_h, zq_i, zq_j, zq_k, zq_l, zq_m, zq_n, zq_o, zq_p, zq_q, zq_r, zq_s, zq_t, zq_u, zq_v, zq_w, zq_x, zq_y, zq_z, zq_A, zq_B, zq_C, zq_D, zq_E, zq_F, zq_G, zq_H, zq_I, zq_J, zq_K, zq_L, ↓zq_M, ↓zq_N, ↓zq_O, ↓zq_P, ↓zq_Q, ↓zq_R, zq_S, zq_T, zq_U, zq_V, zq_W, zq_X, zq_Y, zq_Z, zq_0, zq_1, zq_2, zq_3, zq_4, zq_5, ↓zq_6, ↓zq_7, ↓zq_8, ↓zq_9, ↓zq_aa, zq_ab, zq_ac, zq_ad, zq_ae, zq_af, zq_ag, ↓zq_ah, ↓zq_ai, ↓zq_aj, zq_ak, ↓zq_al, ↓zq_am, e_b1, e_b2, x_o1, x_o2, q0, w1, ka, kb, c1, c1_n, k]
theorem rx_cell {b q c : Int} {SH WM : Int → Int} {DI : Int → Nat → Int} {M : EM} (hm : rx_md M SH WM DI) (hb : b ≤ 40) (hb1 : b ≤ r_G M 1198) (hq : r_cl (r_G M) b q) (hv : hd_cv (r_G M) q) (hc : 0 ≤ c ∧ c ≤ 2000) : E_C 198 [192, q, c, SH q] M = some (cu_v (r_G M) SH WM q c, M) := by
  have h40 : 0 ≤ q ∧ q < 40 := ⟨hq.1, by have := hq.2.1; omega⟩
  obtain ⟨⟨-, s1, s2⟩, m3, m2⟩ := hm.1 b q hb hb1 hq
  obtain ⟨n, hn⟩ : ∃ n : Nat, r_G M (28 * q + 2) = n := ⟨(r_G M (28 * q + 2)).toNat, by have := hq.2.2.2.1; omega⟩
  obtain ⟨b1, b2, b3, b4, b5, b6⟩ := hd_cv_bd hv hn
  obtain ⟨v1, v2⟩ := cu_vok (s := SH q) (w := WM q) hv hn ⟨s1, s2⟩ m3
  have km : E_C 171 [192, q] M = some ((n : Int), M) := by rw [← hn]; exact r_many h40
  obtain ⟨n1, hn1⟩ : ∃ n1 : Int, ((n - 1 : Nat) : Int) = n1 := ⟨_, rfl⟩
  obtain ⟨nn, hnn⟩ : ∃ nn : Int, (n : Int) = nn := ⟨_, rfl⟩
  have w1 : e_w (nn - 1) = n1 := (a_w_id (by omega) (by omega)).trans (by omega)
  rw [hnn] at km
  have ka := rx_cur (M := M) (s := SH q) h40 (show 0 < 6 by decide) (b3 0 (by omega)).2 ⟨s1, s2⟩
  have k := fun x4 => rx_sg (P := cu_pv (r_G M) (WM q) q) (c := c) (x4 := x4) (n := n) h40 ⟨by omega, by omega⟩ ⟨s1, s2⟩ b2 (fun i hi => (b3 i hi).2) (fun i hi => (v2 i hi).2) (fun i hi => ⟨m2 i (by omega) (b3 i hi).1.1 (b3 i hi).1.2, (v2 i hi).1⟩) (fun i hi => (v1.2.2.2.2 i hi).1) (n - 1) ((n - 1 : Nat) : Int) 0 0 0 rfl (by omega)
  have c0 := (v2 0 (by omega)).2
  unfold cu_v cu_cp
  rw [hn, Int.toNat_natCast]
  revert ka k c0
  generalize cu_sg (cu_pv (r_G M) (WM q) q) (cu_cv (r_G M) (SH q) q) c (n - 1) = z
  generalize cu_cv (r_G M) (SH q) q 0 = a
  intro ka k c0
  have ka' : E_C 194 [192, q, 0, SH q] M = some (a, M) := ka
  have k' := k a
  rw [hn1] at k'
  have w2 : e_w (c - a) = c - a := a_w_id (by omega) (by omega)
  rcases x_lt a c with ⟨c1, c1_n⟩ | ⟨c1, c1_n⟩
  · rw [if_pos c1]
    rcases x_lt 10 (c - a) with ⟨c2, c2_n⟩ | ⟨c2, c2_n⟩
    · rw [if_pos c2]
      rw [r_ent (show e_rok 198 [192, q, c, SH q] = true from decide_eq_true r_ref)]
      show e_tv E_C (E_V 198) e_t198_0 [192, q, c, SH q, 0, 0, 0, 0, 0] M = _
      unfold e_t198_0
      simp [zq_a, zq_b, zq_c, zq_d, zq_e, zq_f, zq_g, zq_h, zq_i, zq_j, zq_k, zq_l, zq_m, zq_n, zq_o, zq_p, zq_q, zq_r, zq_s, zq_t, zq_u, zq_v, zq_w, zq_x, zq_y, zq_z, zq_A, zq_B, zq_C, zq_D, zq_E, zq_F, zq_G, zq_H, zq_I, zq_J, zq_K, zq_L, ↓zq_M, ↓zq_N, ↓zq_O, ↓zq_P, ↓zq_Q, ↓zq_R, zq_S, zq_T, zq_U, zq_V, zq_W, zq_X, zq_Y, zq_Z, zq_0, zq_1, zq_2, zq_3, zq_4, zq_5, ↓zq_6, ↓zq_7, ↓zq_8, ↓zq_9, ↓zq_aa, zq_ab, zq_ac, zq_ad, zq_ae, zq_af, zq_ag, ↓zq_ah, ↓zq_ai, ↓zq_aj, zq_ak, ↓zq_al, ↓zq_am, e_b1, e_b2, x_o1, x_o2, ka', c1, c1_n, w2, c2, c2_n]
    · rw [if_neg c2]
      have w3 : e_w (-2 * (c - a)) = -2 * (c - a) := a_w_id (by omega) (by omega)
      have w4 : e_w (-(2 * (c - a))) = -(2 * (c - a)) := a_w_id (by omega) (by omega)
      rw [r_ent (show e_rok 198 [192, q, c, SH q] = true from decide_eq_true r_ref)]
      show e_tv E_C (E_V 198) e_t198_0 [192, q, c, SH q, 0, 0, 0, 0, 0] M = _
      unfold e_t198_0
      simp [zq_a, zq_b, zq_c, zq_d, zq_e, zq_f, zq_g, zq_h, zq_i, zq_j, zq_k, zq_l, zq_m, zq_n, zq_o, zq_p, zq_q, zq_r, zq_s, zq_t, zq_u, zq_v, zq_w, zq_x, zq_y, zq_z, zq_A, zq_B, zq_C, zq_D, zq_E, zq_F, zq_G, zq_H, zq_I, zq_J, zq_K, zq_L, ↓zq_M, ↓zq_N, ↓zq_O, ↓zq_P, ↓zq_Q, ↓zq_R, zq_S, zq_T, zq_U, zq_V, zq_W, zq_X, zq_Y, zq_Z, zq_0, zq_1, zq_2, zq_3, zq_4, zq_5, ↓zq_6, ↓zq_7, ↓zq_8, ↓zq_9, ↓zq_aa, zq_ab, zq_ac, zq_ad, zq_ae, zq_af, zq_ag, ↓zq_ah, ↓zq_ai, ↓zq_aj, zq_ak, ↓zq_al, ↓zq_am, e_b1, e_b2, x_o1, x_o2, ka', c1, c1_n, w2, c2, c2_n, w3, w4]
  · rw [if_neg c1]
    rw [r_ent (show e_rok 198 [192, q, c, SH q] = true from decide_eq_true r_ref)]
    show e_tv E_C (E_V 198) e_t198_0 [192, q, c, SH q, 0, 0, 0, 0, 0] M = _
    unfold e_t198_0
    simp [zq_a, zq_b, zq_c, zq_d, zq_e, zq_f, zq_g, zq_h, zq_i, zq_j, zq_k, zq_l, zq_m, zq_n, zq_o, zq_p, zq_q, zq_r, zq_s, zq_t, zq_u, zq_v, zq_w, zq_x, zq_y, zq_z, zq_A, zq_B, zq_C, zq_D, zq_E, zq_F, zq_G, zq_H, zq_I, zq_J, zq_K, zq_L, ↓zq_M, ↓zq_N, ↓zq_O, ↓zq_P, ↓zq_Q, ↓zq_R, zq_S, zq_T, zq_U, zq_V, zq_W, zq_X, zq_Y, zq_Z, zq_0, zq_1, zq_2, zq_3, zq_4, zq_5, ↓zq_6, ↓zq_7, ↓zq_8, ↓zq_9, ↓zq_aa, zq_ab, zq_ac, zq_ad, zq_ae, zq_af, zq_ag, ↓zq_ah, ↓zq_ai, ↓zq_aj, zq_ak, ↓zq_al, ↓zq_am, e_b1, e_b2, x_o1, x_o2, ka', c1, c1_n, km, w1, k']
theorem cu_v_bd {g : Int → Int} {SH WM : Int → Int} {q c : Int} (hv : hd_cv g q) (hs : 0 ≤ SH q ∧ SH q ≤ 100) (hw : 0 ≤ WM q ∧ WM q ≤ 100) (hc : 0 ≤ c) : (-20 ≤ cu_v g SH WM q c ∧ cu_v g SH WM q c ≤ 60) ∧ cu_v g SH WM q (c + 1) ≤ cu_v g SH WM q c := by
  obtain ⟨n, hn⟩ : ∃ n : Nat, g (28 * q + 2) = n := by
    obtain ⟨n, h⟩ := hv
    exact ⟨n, h.2.2.1⟩
  have k := (cu_vok hv hn hs hw).1
  unfold cu_v
  rw [hn, Int.toNat_natCast]
  exact ⟨cu_cp_bd k hc, cu_cp_mono k hc⟩
end
