section
/-! copy: the two answers, and SHELVES stay related -/
/-- which of n elements have come after q steps -/
def h_W (i j n q t : Nat) : Prop := if j < i then t < q else n ≤ q + t
theorem h_262l {d e i j n : Nat} (hd : d < 8) (he : e < 8) (hi : i + n ≤ 120) (hj : j + n ≤ 120) (M0 : EM) : ∀ (m q : Nat) (y : Int) (M : EM), q + m = n → ((∀ t, t < n → h_W i j n q t → M 198 (120 * e + j + t) = M0 198 (120 * d + i + t)) ∧ (∀ id k, ¬ (id = 198 ∧ ∃ t, t < n ∧ h_W i j n q t ∧ k = 120 * e + j + t) → M id k = M0 id k)) → ∃ M', E_V 262 122 [192, (d : Int), (i : Int), (e : Int), (j : Int), (n : Int), (q : Int), y] M = some ((n : Int), M') ∧ (∀ t, t < n → M' 198 (120 * e + j + t) = M0 198 (120 * d + i + t)) ∧ (∀ id k, ¬ (id = 198 ∧ 120 * e + j ≤ k ∧ k < 120 * e + j + n) → M' id k = M0 id k) := by
  intro m
  induction m with
  | zero =>
    intro q y M hm h
    have e : q = n := by omega
    subst e
    obtain ⟨h1, h2⟩ := h
    refine ⟨M, h_262z, fun t ht => h1 t ht ?_, fun id k hk => h2 id k (fun hc => hk ?_)⟩
    · unfold h_W
      split <;> omega
    · obtain ⟨a, t, b, c, f⟩ := hc
      exact ⟨a, by omega, by omega⟩
  | succ m ih =>
    intro q y M hm h
    obtain ⟨h1, h2⟩ := h
    obtain ⟨t, ht⟩ : ∃ t : Nat, t = if j < i then q else n - 1 - q := ⟨_, rfl⟩
    have tn : t < n := by
      rw [ht]
      split <;> omega
    have nw : ¬ h_W i j n q t := by
      unfold h_W
      rw [ht]
      split <;> omega
    have src : M 198 (120 * d + i + t) = M0 198 (120 * d + i + t) := h2 _ _ (fun hc => by
      obtain ⟨-, t', t1, t2, t3⟩ := hc
      unfold h_W at t2 nw
      by_cases c : i > j
      · rw [if_pos c] at t2 nw ht
        omega
      · rw [if_neg (by omega)] at t2 nw ht
        omega)
    have b1 : 0 ≤ 120 * (d : Int) + (i : Int) + (t : Int) ∧ 120 * (d : Int) + (i : Int) + (t : Int) < 960 := by omega
    have b2 : 0 ≤ 120 * (e : Int) + (j : Int) + (t : Int) ∧ 120 * (e : Int) + (j : Int) + (t : Int) < 960 := by omega
    have n1 : (120 * (d : Int) + (i : Int) + (t : Int)).toNat = 120 * d + i + t := by omega
    have n2 : (120 * (e : Int) + (j : Int) + (t : Int)).toNat = 120 * e + j + t := by omega
    have l : e_op 60 [198, 120 * (d : Int) + (i : Int) + (t : Int)] M = some (M 198 (120 * d + i + t)) := (r_rdE b1.1 b1.2).trans (by rw [n1])
    have st : ∀ v, e_st 100 [198, 120 * (e : Int) + (j : Int) + (t : Int), v] M = some (e_up M 198 (120 * e + j + t) v) := fun v => (r_st (n := 960) (by decide) (by decide +kernel) (by decide +kernel) b2.1 b2.2).trans (by rw [n2]; rfl)
    obtain ⟨M', k1, c1, c2⟩ := ih (q + 1) (t : Int) (e_up M 198 (120 * e + j + t) (M 198 (120 * d + i + t))) (by omega) ⟨fun t' t1 t2 => by
      by_cases c : t' = t
      · subst c
        rw [c_up_s]
        exact src
      · rw [c_up_n (by omega)]
        refine h1 t' t1 ?_
        unfold h_W at t2 ⊢
        by_cases c2 : i > j
        · rw [if_pos c2] at t2 ht ⊢
          omega
        · rw [if_neg (by omega)] at t2 ht ⊢
          omega, fun id k hk => by
      rw [c_up_n (fun hc => hk ⟨hc.1, t, tn, by
        unfold h_W
        by_cases c2 : i > j
        · rw [if_pos c2] at ht ⊢
          omega
        · rw [if_neg (by omega)] at ht ⊢
          omega, hc.2⟩)]
      refine h2 id k (fun hc => hk ?_)
      obtain ⟨a, t', t1, t2, t3⟩ := hc
      refine ⟨a, t', t1, ?_, t3⟩
      unfold h_W at t2 ⊢
      by_cases c2 : i > j
      · rw [if_pos c2] at t2 ⊢
        omega
      · rw [if_neg (by omega)] at t2 ⊢
        omega⟩
    refine ⟨M', ?_, c1, c2⟩
    rw [← k1]
    have hqn : (q : Int) < (n : Int) := by omega
    have htt : (t : Int) = if (j : Int) < (i : Int) then (q : Int) else ((n - 1 - q : Nat) : Int) := by
      by_cases c : i > j
      · rw [if_pos (by omega)]
        rw [if_pos c] at ht
        omega
      · rw [if_neg (by omega)]
        rw [if_neg (by omega)] at ht
        omega
    have w : e_w ((n : Int) - 1) = (n : Int) - 1 ∧ e_w ((n : Int) - 1 - (q : Int)) = ((n - 1 - q : Nat) : Int) ∧ e_w (120 * (e : Int)) = 120 * (e : Int) ∧ e_w (120 * (e : Int) + (j : Int)) = 120 * (e : Int) + (j : Int) ∧ e_w (120 * (e : Int) + (j : Int) + (t : Int)) = 120 * (e : Int) + (j : Int) + (t : Int) ∧ e_w (120 * (d : Int)) = 120 * (d : Int) ∧ e_w (120 * (d : Int) + (i : Int)) = 120 * (d : Int) + (i : Int) ∧ e_w (120 * (d : Int) + (i : Int) + (t : Int)) = 120 * (d : Int) + (i : Int) + (t : Int) ∧ e_w ((q : Int) + 1) = ((q + 1 : Nat) : Int) := by
      clear k1 c1 c2 ih h1 h2 l st src nw htt ht n1 n2
      refine ⟨?_, ?_, ?_, ?_, ?_, ?_, ?_, ?_, ?_⟩
      · exact a_w_id (by omega) (by omega)
      · exact (a_w_id (by omega) (by omega)).trans (by omega)
      · exact a_w_id (by omega) (by omega)
      · exact a_w_id (by omega) (by omega)
      · exact a_w_id (by omega) (by omega)
      · exact a_w_id (by omega) (by omega)
      · exact a_w_id (by omega) (by omega)
      · exact a_w_id (by omega) (by omega)
      · exact (a_w_id (by omega) (by omega)).trans (by omega)
    obtain ⟨w1, w2, w3, w4, w5, w6, w7, w8, w9⟩ := w
    rw [← w2] at htt
    exact h_262s hqn w1 htt w3 w4 w5 w6 w7 w8 w9 l (st _)
theorem h_copy {d i e j n r1 r2 : Int} {M M1 M2 : EM} (hJ : r_J M) (hS : h_S M) (hi : -2147483648 ≤ i ∧ i ≤ 2147483647) (hj : -2147483648 ≤ j ∧ j ≤ 2147483647) (hn : -2147483648 ≤ n ∧ n ≤ 2147483647) (k1 : E_C 143 [8, d, i, e, j, n] M = some (r1, M1)) (k2 : E_C 262 [192, d, i, e, j, n] M1 = some (r2, M2)) : r1 = r2 ∧ h_S M2 := by
  by_cases hde : (0 ≤ d ∧ d < 8) ∧ (0 ≤ e ∧ e < 8)
  · obtain ⟨hd, he⟩ := hde
    obtain ⟨m, hm⟩ : ∃ m : Nat, d = m := ⟨d.toNat, by omega⟩
    obtain ⟨l, hl⟩ : ∃ l : Nat, e = l := ⟨e.toNat, by omega⟩
    subst hm
    subst hl
    have m8 : m < 8 := by omega
    have l8 : l < 8 := by omega
    have hhm := (h_gr145 m8).2
    have hhl := (h_gr145 l8).2
    have c0 := h_154a (M := M) hd.1 hd.2 (h_rd145 m8 M)
    have c1 := h_154a (M := M) he.1 he.2 (h_rd145 l8 M)
    have hx : ((146 + 2 * m : Nat) : Int) ≠ -1 := by omega
    have hy : ((146 + 2 * l : Nat) : Int) ≠ -1 := by omega
    have t1 := h_84 hhm M
    have t2 := h_84 hhl M
    obtain ⟨-, fm1, fm4, -⟩ := h_sf hhm M
    obtain ⟨-, fl1, fl4, -⟩ := h_sf hhl M
    rw [Int.toNat_natCast] at t1 t2 fm1 fm4 fl1 fl4
    have i0 := h_is (d := (m : Int)) M
    have i1 := h_is (d := (l : Int)) M
    rw [if_pos hd] at i0
    rw [if_pos he] at i1
    obtain ⟨a1, a2, a3, -⟩ := r_isD (m : Int) M ⟨hd.1, by omega⟩
    obtain ⟨b1, b2, b3, -⟩ := r_isD (l : Int) M ⟨he.1, by omega⟩
    rw [Int.toNat_natCast] at a1 a2 a3 b1 b2 b3
    have km := hS m m8
    have kl := hS l l8
    by_cases q11 : M 195 m = 0 ∨ M 195 l = 0
    · have u : (if M (146 + 2 * m) 0 = 0 ∧ M (146 + 2 * m) 1 = 0 then (1 : Int) else 0) ≠ 0 ∨ (if M (146 + 2 * l) 0 = 0 ∧ M (146 + 2 * l) 1 = 0 then (1 : Int) else 0) ≠ 0 := by
        rcases q11 with q | q
        · refine Or.inl ?_
          rw [if_pos (by omega)]
          decide
        · refine Or.inr ?_
          rw [if_pos (by omega)]
          decide
      have e1 := Prod.mk.inj (Option.some.inj (k1.symm.trans (h_143b (i := i) (j := j) (n := n) c0 c1 hx hy t1 t2 u)))
      obtain ⟨e1, e2⟩ := e1
      subst e2
      have e3 := Prod.mk.inj (Option.some.inj (k2.symm.trans (h_262b (i := i) (j := j) (n := n) i0 i1 a1 b1 q11)))
      rw [e1, e3.1, e3.2]
      exact ⟨rfl, hS⟩
    · have u1 : ¬ (M (146 + 2 * m) 0 = 0 ∧ M (146 + 2 * m) 1 = 0) := by omega
      have u2 : ¬ (M (146 + 2 * l) 0 = 0 ∧ M (146 + 2 * l) 1 = 0) := by omega
      rw [if_neg u1] at t1
      rw [if_neg u2] at t2
      by_cases q12 : M 195 m ≠ 2 ∨ M 195 l ≠ 2 ∨ M 196 m ≠ M 196 l
      · have u : M (146 + 2 * m) 1 = 0 ∨ M (146 + 2 * l) 1 = 0 ∨ M (146 + 2 * m) 4 ≠ M (146 + 2 * l) 4 := by omega
        have e1 := Prod.mk.inj (Option.some.inj (k1.symm.trans (h_143c (i := i) (j := j) (n := n) c0 c1 hx hy t1 t2 fm1 fl1 fm4 fl4 u)))
        obtain ⟨e1, e2⟩ := e1
        subst e2
        have e3 := Prod.mk.inj (Option.some.inj (k2.symm.trans (h_262c (i := i) (j := j) (n := n) i0 i1 a1 b1 (by omega) (by omega) a2 b2 q12)))
        rw [e1, e3.1, e3.2]
        exact ⟨rfl, hS⟩
      · have rm : M 195 m = 2 ∧ M (146 + 2 * m) 1 = 1 ∧ M (146 + 2 * m) 4 = M 196 m ∧ M (146 + 2 * m) 5 = M 197 m ∧ ∀ i, i < 120 → M (147 + 2 * m) i = M 198 (120 * m + i) := by
          rcases km with ⟨a, -⟩ | ⟨a, -⟩ | ⟨a, -, c, f, g, h⟩
          · omega
          · omega
          · exact ⟨a, c, f, g, h⟩
        have rl : M 195 l = 2 ∧ M (146 + 2 * l) 1 = 1 ∧ M (146 + 2 * l) 4 = M 196 l ∧ M (146 + 2 * l) 5 = M 197 l ∧ ∀ i, i < 120 → M (147 + 2 * l) i = M 198 (120 * l + i) := by
          rcases kl with ⟨a, -⟩ | ⟨a, -⟩ | ⟨a, -, c, f, g, h⟩
          · omega
          · omega
          · exact ⟨a, c, f, g, h⟩
        obtain ⟨rm0, rm1, rm4, rm5, rme⟩ := rm
        obtain ⟨rl0, rl1, rl4, rl5, rle⟩ := rl
        have ss : M 196 m = M 196 l := by omega
        rw [rm4] at fm4
        rw [rl4, ← ss] at fl4
        rw [← ss] at b2
        rw [rm0] at a1
        rw [rl0] at b1
        have zm := hJ.2.1 m m8
        have zl := hJ.2.1 l l8
        have g1 := c_hasRun (i := i) (n := n) hhm hJ.1 hi hn
        have g2 := c_hasRun (i := j) (n := n) hhl hJ.1 hj hn
        rw [Int.toNat_natCast, rm5] at g1
        rw [Int.toNat_natCast, rl5] at g2
        have p1 : M (146 + 2 * m) 1 ≠ 0 := by omega
        have p2 : M (146 + 2 * l) 1 ≠ 0 := by omega
        have wi : 0 ≤ i → e_w (M 197 m - i) = M 197 m - i := fun h => a_w_id (by omega) (by omega)
        have wj : 0 ≤ j → e_w (M 197 l - j) = M 197 l - j := fun h => a_w_id (by omega) (by omega)
        by_cases q13 : 0 ≤ n ∧ 0 ≤ i ∧ 0 ≤ j ∧ n ≤ M 197 m - i ∧ n ≤ M 197 l - j
        · obtain ⟨n0, i00, j00, nm, nl⟩ := q13
          have u3 : 0 ≤ i ∧ 0 ≤ n ∧ i + n ≤ M 197 m := ⟨i00, n0, by clear wi wj; omega⟩
          have u4 : 0 ≤ j ∧ 0 ≤ n ∧ j + n ≤ M 197 l := ⟨j00, n0, by clear wi wj; omega⟩
          rw [if_pos u3] at g1
          rw [if_pos u4] at g2
          obtain ⟨x1, x2, x3, x4, x5, -⟩ := w_sh hhm
          obtain ⟨y1, y2, y3, y4, y5, -⟩ := w_sh hhl
          have f5 : e_gf 518 [((146 + 2 * m : Nat) : Int)] M = some (((146 + 2 * m : Nat) : Int) + 1) := (c_gr x1 (by decide +kernel)).trans (congrArg some x5)
          have f6 : e_gf 518 [((146 + 2 * l : Nat) : Int)] M = some (((146 + 2 * l : Nat) : Int) + 1) := (c_gr y1 (by decide +kernel)).trans (congrArg some y5)
          obtain ⟨I, hI⟩ : ∃ I : Nat, i = I := ⟨i.toNat, by clear wi wj; omega⟩
          obtain ⟨J, hJ'⟩ : ∃ J : Nat, j = J := ⟨j.toNat, by clear wi wj; omega⟩
          obtain ⟨L, hL⟩ : ∃ L : Nat, n = L := ⟨n.toNat, by clear wi wj; omega⟩
          subst hI
          subst hJ'
          subst hL
          obtain ⟨-, -, -, o1, -⟩ := c_el hhm
          obtain ⟨-, -, -, o2, -⟩ := c_el hhl
          rw [x5] at o1
          rw [y5] at o2
          have cp : e_cp [((146 + 2 * m : Nat) : Int) + 1, (I : Int), ((146 + 2 * l : Nat) : Int) + 1, (J : Int), (L : Int)] M = some (e_cpm M (147 + 2 * m) I (147 + 2 * l) J L) := by
            refine (if_pos ⟨o2, o1, i00, j00, n0, by rw [x4]; clear wi wj; omega, by rw [y4]; clear wi wj; omega⟩).trans ?_
            rw [show (((146 + 2 * m : Nat) : Int) + 1).toNat = 147 + 2 * m by clear wi wj; omega, show (((146 + 2 * l : Nat) : Int) + 1).toNat = 147 + 2 * l by clear wi wj; omega, Int.toNat_natCast, Int.toNat_natCast, Int.toNat_natCast]
          have e1 := Prod.mk.inj (Option.some.inj (k1.symm.trans (h_143e c0 c1 hx hy t1 t2 fm1 fl1 fm4 fl4 p1 p2 g1 g2 (by decide) (by decide) f5 f6 cp)))
          obtain ⟨e1, e2⟩ := e1
          have cO : ∀ id k, id ≠ 147 + 2 * l → M1 id k = M id k := fun id k h => by rw [e2]; exact if_neg (fun hc => h hc.1)
          have cI : ∀ k, M1 (147 + 2 * l) k = if J ≤ k ∧ k < J + L then M (147 + 2 * m) (I + (k - J)) else M (147 + 2 * l) k := fun k => by
            rw [e2]
            unfold e_cpm
            by_cases c : J ≤ k ∧ k < J + L
            · rw [if_pos ⟨rfl, c⟩, if_pos c]
            · rw [if_neg (fun hc => c hc.2), if_neg c]
          clear e2
          have i0' := h_is (d := (m : Int)) M1
          have i1' := h_is (d := (l : Int)) M1
          rw [if_pos hd] at i0'
          rw [if_pos he] at i1'
          obtain ⟨A1, A2, A3, -⟩ := r_isD (m : Int) M1 ⟨hd.1, by clear wi wj; omega⟩
          obtain ⟨B1, B2, B3, -⟩ := r_isD (l : Int) M1 ⟨he.1, by clear wi wj; omega⟩
          rw [Int.toNat_natCast, cO _ _ (by clear wi wj; omega)] at A1 A2 A3 B1 B2 B3
          rw [rm0] at A1
          rw [rl0] at B1
          rw [← ss] at B2
          have wi' := wi i00
          have wj' := wj j00
          clear wi wj
          have bI : I + L ≤ 120 := by clear wi' wj'; omega
          have bJ : J + L ≤ 120 := by clear wi' wj'; omega
          obtain ⟨M', v1, v2, v3⟩ := h_262l (d := m) (e := l) (i := I) (j := J) (n := L) m8 l8 bI bJ M1 L 0 0 M1 (Nat.zero_add _) ⟨fun t ht hw => by
            exfalso
            unfold h_W at hw
            clear wi' wj'
            split at hw <;> omega, fun _ _ _ => rfl⟩
          have v1' : E_V 262 122 [192, (m : Int), (I : Int), (l : Int), (J : Int), (L : Int), 0, 0] M1 = some ((L : Int), M') := v1
          have e3 := Prod.mk.inj (Option.some.inj (k2.symm.trans (h_262e i0' i1' A1 B1 A2 B2 A3 B3 wi' wj' n0 i00 j00 nm nl v1')))
          obtain ⟨e3, e4⟩ := e3
          subst e4
          clear wi' wj'
          refine ⟨e1.trans e3.symm, fun d' hd' => ?_⟩
          have z : ∀ id k, id ≠ 198 → id ≠ 147 + 2 * l → M2 id k = M id k := fun id k a c => (v3 id k (fun h => a h.1)).trans (cO id k c)
          rw [z 195 _ (by decide) (by omega), z 196 _ (by decide) (by omega), z 197 _ (by decide) (by omega), z (146 + 2 * d') _ (by omega) (by omega), z (146 + 2 * d') _ (by omega) (by omega), z (146 + 2 * d') _ (by omega) (by omega), z (146 + 2 * d') _ (by omega) (by omega)]
          rcases hS d' hd' with h | h | ⟨h1, h2, h3, h4, h5, h6⟩
          · exact Or.inl h
          · exact Or.inr (Or.inl h)
          · refine Or.inr (Or.inr ⟨h1, h2, h3, h4, h5, fun k hk => ?_⟩)
            by_cases c : d' = l
            · subst c
              rw [v3 _ _ (by omega), cI]
              by_cases c2 : J ≤ k ∧ k < J + L
              · rw [if_pos c2]
                have vv := v2 (k - J) (by omega)
                rw [show 120 * d' + J + (k - J) = 120 * d' + k by omega, cO _ _ (by omega)] at vv
                rw [vv, rme _ (by omega)]
                congr 1
                omega
              · rw [if_neg c2, v3 _ _ (by omega), cO _ _ (by omega)]
                exact h6 k hk
            · rw [v3 _ _ (by omega), v3 _ _ (by omega), cO _ _ (by omega), cO _ _ (by omega)]
              exact h6 k hk
        · have u : (if 0 ≤ i ∧ 0 ≤ n ∧ i + n ≤ M 197 m then (1 : Int) else 0) = 0 ∨ (if 0 ≤ j ∧ 0 ≤ n ∧ j + n ≤ M 197 l then (1 : Int) else 0) = 0 := by
            clear wi wj
            by_cases c : 0 ≤ i ∧ 0 ≤ n ∧ i + n ≤ M 197 m
            · refine Or.inr (if_neg (fun h => q13 ?_))
              omega
            · exact Or.inl (if_neg c)
          have e1 := Prod.mk.inj (Option.some.inj (k1.symm.trans (h_143d c0 c1 hx hy t1 t2 fm1 fl1 fm4 fl4 p1 p2 g1 g2 u)))
          obtain ⟨e1, e2⟩ := e1
          subst e2
          have e3 := Prod.mk.inj (Option.some.inj (k2.symm.trans (h_262d i0 i1 a1 b1 a2 b2 a3 b3 wi wj q13)))
          rw [e1, e3.1, e3.2]
          exact ⟨rfl, hS⟩
  · have cx : ∃ x y, E_C 154 [8, d] M = some (x, M) ∧ E_C 154 [8, e] M = some (y, M) ∧ (x = -1 ∨ y = -1) := by
      by_cases hd : 0 ≤ d ∧ d < 8
      · have he : ¬ (0 ≤ e ∧ e < 8) := fun h => hde ⟨hd, h⟩
        obtain ⟨m, hm⟩ : ∃ m : Nat, d = m := ⟨d.toNat, by omega⟩
        refine ⟨((146 + 2 * m : Nat) : Int), -1, ?_, h_154n he, Or.inr rfl⟩
        rw [hm]
        exact h_154a (by omega) (by omega) (h_rd145 (by omega) M)
      · by_cases he : 0 ≤ e ∧ e < 8
        · obtain ⟨m, hm⟩ : ∃ m : Nat, e = m := ⟨e.toNat, by omega⟩
          refine ⟨-1, ((146 + 2 * m : Nat) : Int), h_154n hd, ?_, Or.inl rfl⟩
          rw [hm]
          exact h_154a (by omega) (by omega) (h_rd145 (by omega) M)
        · exact ⟨-1, -1, h_154n hd, h_154n he, Or.inl rfl⟩
    obtain ⟨x, y, c0, c1, c2⟩ := cx
    have e1 := Prod.mk.inj (Option.some.inj (k1.symm.trans (h_143a (i := i) (j := j) (n := n) c0 c1 c2)))
    obtain ⟨e1, e2⟩ := e1
    subst e2
    have i0 := h_is (d := d) M1
    have i1 := h_is (d := e) M1
    have u : (if 0 ≤ d ∧ d < 8 then (1 : Int) else 0) = 0 ∨ (if 0 ≤ e ∧ e < 8 then (1 : Int) else 0) = 0 := by
      by_cases hd : 0 ≤ d ∧ d < 8
      · exact Or.inr (if_neg (fun h => hde ⟨hd, h⟩))
      · exact Or.inl (if_neg hd)
    have e3 := Prod.mk.inj (Option.some.inj (k2.symm.trans (h_262a (i := i) (j := j) (n := n) i0 i1 u)))
    rw [e1, e3.1, e3.2]
    exact ⟨rfl, hS⟩
end
section
/-! the relation's keepers by frames; sky's answers -/
theorem h_cG {W : AW} {M M1 : EM} (h4 : a_fr W M M1) (hW : (W.all fun w => decide (8 ≤ w.1) && decide (w.1 < 192)) = true) : ∀ id i, 192 ≤ id → M1 id i = M id i := fun id i hi => h4 id i (fun w hw hc => by
  have h := List.all_eq_true.mp hW w hw
  simp only [Bool.and_eq_true, decide_eq_true_eq] at h
  omega)
theorem h_keB {W : AW} {M M' : EM} (h : h_av h_KB W = true) (hf : a_fr W M M') (hB : h_B M 0 (r_G M)) : h_B M' 0 (r_G M') := h_keepB (h_av_ok h hf) hB
theorem h_keI {W : AW} {M M' : EM} (h : h_av h_KI W = true) (hf : a_fr W M M') (hB : h_B M 68 (r_Gi M)) : h_B M' 68 (r_Gi M') := h_keepI (h_av_ok h hf) hB
theorem h_keS {W : AW} {M M' : EM} (h : h_av h_KS W = true) (hf : a_fr W M M') (hS : h_S M) : h_S M' := h_keepS (h_av_ok h hf) hS
theorem h_keF {W : AW} {M M' : EM} (h : h_av [(165, 0, 0)] W = true) (hf : a_fr W M M') (h0 : M 165 0 = 0) : M' 165 0 = 0 := (h_av_ok h hf (165, 0, 0) List.mem_cons_self 0 (Nat.le_refl _) (Nat.le_refl _)).trans h0
theorem h_121n {d x z : Int} {M : EM} (c0 : E_C 154 [8, d] M = some (x, M)) (c1 : E_C 156 [x, -1] M = some (z, M)) (hz : z ≠ 0) : E_C 121 [8, d] M = some (z, M) := by
  have s0 : E_C 121 [8, d] M = e_tv E_C (E_V 121) e_t121_0 [8, d, 0, 0] M := r_ent (u := 121) (as := [8, d]) (M := M) (decide_eq_true c_this)
  rw [s0]
  unfold e_t121_0
  simp [zq_a, zq_b, zq_c, zq_d, zq_e, zq_f, zq_g, zq_h, zq_i, zq_j, zq_k, zq_l, zq_m, zq_n, zq_o, zq_p, zq_q, zq_r, zq_s, zq_t, zq_u, zq_v, zq_w, zq_x, zq_y, zq_z, zq_A, zq_B, zq_C, zq_D, zq_E, zq_F, zq_G, zq_H, zq_I, zq_J, zq_K, zq_L, ↓zq_M, ↓zq_N, ↓zq_O, ↓zq_P, ↓zq_Q, ↓zq_R, zq_S, zq_T, zq_U, zq_V, zq_W, zq_X, zq_Y, zq_Z, zq_0, zq_1, zq_2, zq_3, zq_4, zq_5, ↓zq_6, ↓zq_7, ↓zq_8, ↓zq_9, ↓zq_aa, zq_ab, zq_ac, zq_ad, zq_ae, zq_af, zq_ag, ↓zq_ah, ↓zq_ai, ↓zq_aj, zq_ak, ↓zq_al, ↓zq_am, e_b1, e_b2, x_o1, x_o2, c0, c1, hz]
theorem h_121y {d h r n : Int} {M M1 : EM} (c0 : E_C 154 [8, d] M = some (h, M)) (hx : h ≠ -1) (c1 : E_C 156 [h, -1] M = some (0, M)) (k : E_C 76 [26, h] M = some (r, M1)) (f : e_gf 517 [h] M1 = some n) : E_C 121 [8, d] M = some (n, M1) := by
  have s0 : E_C 121 [8, d] M = e_tv E_C (E_V 121) e_t121_0 [8, d, 0, 0] M := r_ent (u := 121) (as := [8, d]) (M := M) (decide_eq_true c_this)
  rw [s0]
  unfold e_t121_0
  simp [zq_a, zq_b, zq_c, zq_d, zq_e, zq_f, zq_g, zq_h, zq_i, zq_j, zq_k, zq_l, zq_m, zq_n, zq_o, zq_p, zq_q, zq_r, zq_s, zq_t, zq_u, zq_v, zq_w, zq_x, zq_y, zq_z, zq_A, zq_B, zq_C, zq_D, zq_E, zq_F, zq_G, zq_H, zq_I, zq_J, zq_K, zq_L, ↓zq_M, ↓zq_N, ↓zq_O, ↓zq_P, ↓zq_Q, ↓zq_R, zq_S, zq_T, zq_U, zq_V, zq_W, zq_X, zq_Y, zq_Z, zq_0, zq_1, zq_2, zq_3, zq_4, zq_5, ↓zq_6, ↓zq_7, ↓zq_8, ↓zq_9, ↓zq_aa, zq_ab, zq_ac, zq_ad, zq_ae, zq_af, zq_ag, ↓zq_ah, ↓zq_ai, ↓zq_aj, zq_ak, ↓zq_al, ↓zq_am, e_b1, e_b2, x_o1, x_o2, p_704, p_195, c0, hx, c1, k, f]
theorem h_121i {d h r1 : Int} {M M1 : EM} (hh : h ∈ a_SH) (c0 : E_C 154 [8, d] M = some (h, M)) (c1 : E_C 156 [h, -1] M = some (0, M)) (k1 : E_C 121 [8, d] M = some (r1, M1)) : r1 = M1 h.toNat 5 := by
  have hx : h ≠ -1 := by
    have := w_sh hh
    omega
  cases hk : E_C 76 [26, h] M with
  | none =>
    exfalso
    have s0 : E_C 121 [8, d] M = e_tv E_C (E_V 121) e_t121_0 [8, d, 0, 0] M := r_ent (u := 121) (as := [8, d]) (M := M) (decide_eq_true c_this)
    rw [s0] at k1
    unfold e_t121_0 at k1
    simp [e_tv, e_ev, e_sv, e_b1, e_b2, x_o1, x_o2, p_704, p_195, c0, hx, c1, hk] at k1
  | some z =>
    obtain ⟨r, N⟩ := z
    obtain ⟨-, -, -, f5⟩ := h_sf hh N
    have e := Prod.mk.inj (Option.some.inj (k1.symm.trans (h_121y c0 hx c1 hk f5)))
    rw [e.1, e.2]
end
section
/-! sky: the two answers -/
theorem h_225s {d z i y ia ib ic : Int} {na : Nat} {v : Int} {M : EM} (q : i < 120) (w0 : e_w (1202 + i) = ia) (w1 : e_w (120 * d) = ib) (w2 : e_w (ib + i) = ic) (w3 : e_w (i + 1) = y) (l : e_op 60 [198, ic] M = some v) (st : ∀ v, e_st 100 [193, ia, v] M = some (e_up M 193 na v)) : E_V 225 43 [192, d, z, i] M = E_V 225 43 [192, d, z, y] (e_up M 193 na v) := by
  rw [E_V_eq]
  show e_tv E_C (E_V 225) e_t225_43 [192, d, z, i] M = _
  unfold e_t225_43
  simp [zq_a, zq_b, zq_c, zq_d, zq_e, zq_f, zq_g, zq_h, zq_i, zq_j, zq_k, zq_l, zq_m, zq_n, zq_o, zq_p, zq_q, zq_r, zq_s, zq_t, zq_u, zq_v, zq_w, zq_x, zq_y, zq_z, zq_A, zq_B, zq_C, zq_D, zq_E, zq_F, zq_G, zq_H, zq_I, zq_J, zq_K, zq_L, ↓zq_M, ↓zq_N, ↓zq_O, ↓zq_P, ↓zq_Q, ↓zq_R, zq_S, zq_T, zq_U, zq_V, zq_W, zq_X, zq_Y, zq_Z, zq_0, zq_1, zq_2, zq_3, zq_4, zq_5, ↓zq_6, ↓zq_7, ↓zq_8, ↓zq_9, ↓zq_aa, zq_ab, zq_ac, zq_ad, zq_ae, zq_af, zq_ag, ↓zq_ah, ↓zq_ai, ↓zq_aj, zq_ak, ↓zq_al, ↓zq_am, e_b1, e_b2, x_o1, x_o2, r_O0, r_O5, q, w0, w1, w2, w3, l, st]
theorem h_225e {d z n : Int} {M : EM} (l : e_op 60 [197, d] M = some n) : E_V 225 43 [192, d, z, 120] M = some (n, M) := by
  rw [E_V_eq]
  show e_tv E_C (E_V 225) e_t225_43 [192, d, z, 120] M = _
  unfold e_t225_43
  simp [zq_a, zq_b, zq_c, zq_d, zq_e, zq_f, zq_g, zq_h, zq_i, zq_j, zq_k, zq_l, zq_m, zq_n, zq_o, zq_p, zq_q, zq_r, zq_s, zq_t, zq_u, zq_v, zq_w, zq_x, zq_y, zq_z, zq_A, zq_B, zq_C, zq_D, zq_E, zq_F, zq_G, zq_H, zq_I, zq_J, zq_K, zq_L, ↓zq_M, ↓zq_N, ↓zq_O, ↓zq_P, ↓zq_Q, ↓zq_R, zq_S, zq_T, zq_U, zq_V, zq_W, zq_X, zq_Y, zq_Z, zq_0, zq_1, zq_2, zq_3, zq_4, zq_5, ↓zq_6, ↓zq_7, ↓zq_8, ↓zq_9, ↓zq_aa, zq_ab, zq_ac, zq_ad, zq_ae, zq_af, zq_ag, ↓zq_ah, ↓zq_ai, ↓zq_aj, zq_ak, ↓zq_al, ↓zq_am, e_b1, e_b2, x_o1, x_o2, r_O4, l]
theorem h_225l {d : Nat} {z : Int} (hd : d < 8) : ∀ (m i : Nat) (M : EM), i + m = 120 → ∃ M', E_V 225 43 [192, (d : Int), z, (i : Int)] M = some (M 197 d, M') := by
  intro m
  induction m with
  | zero =>
    intro i M hm
    have e : i = 120 := by omega
    subst e
    have b : 0 ≤ (d : Int) ∧ (d : Int) ≤ 7 := by omega
    have l := (r_isD (d : Int) M b).2.2.1
    rw [Int.toNat_natCast] at l
    exact ⟨M, h_225e l⟩
  | succ m ih =>
    intro i M hm
    have q : (i : Int) < 120 := by omega
    have b1 : 0 ≤ 1202 + (i : Int) ∧ 1202 + (i : Int) < 1330 := by omega
    have b2 : 0 ≤ 120 * (d : Int) + (i : Int) ∧ 120 * (d : Int) + (i : Int) < 960 := by omega
    have st := fun v => r_stw (i := 1202 + (i : Int)) (v := v) (M := M) b1.1 b1.2
    have l := r_rdE (M := M) b2.1 b2.2
    have w : e_w (1202 + (i : Int)) = 1202 + (i : Int) ∧ e_w (120 * (d : Int)) = 120 * (d : Int) ∧ e_w (120 * (d : Int) + (i : Int)) = 120 * (d : Int) + (i : Int) ∧ e_w ((i : Int) + 1) = ((i + 1 : Nat) : Int) := by
      clear st l ih
      refine ⟨?_, ?_, ?_, (a_w_id (by omega) (by omega)).trans (by omega)⟩ <;> exact a_w_id (by omega) (by omega)
    obtain ⟨M', k⟩ := ih (i + 1) (e_up M 193 (1202 + (i : Int)).toNat (M 198 (120 * (d : Int) + (i : Int)).toNat)) (by omega)
    rw [c_up_n (fun h => absurd h.1 (by decide))] at k
    exact ⟨M', (h_225s q w.1 w.2.1 w.2.2.1 w.2.2.2 l st).trans k⟩
theorem h_225n {d z : Int} {M : EM} (k : E_C 189 [192, d, -1] M = some (z, M)) (hz : z ≠ 0) : E_C 225 [192, d] M = some (z, M) := by
  rw [r_ent (show e_rok 225 [192, d] = true from decide_eq_true r_ref)]
  show e_tv E_C (E_V 225) e_t225_0 [192, d, 0, 0] M = _
  unfold e_t225_0
  simp [zq_a, zq_b, zq_c, zq_d, zq_e, zq_f, zq_g, zq_h, zq_i, zq_j, zq_k, zq_l, zq_m, zq_n, zq_o, zq_p, zq_q, zq_r, zq_s, zq_t, zq_u, zq_v, zq_w, zq_x, zq_y, zq_z, zq_A, zq_B, zq_C, zq_D, zq_E, zq_F, zq_G, zq_H, zq_I, zq_J, zq_K, zq_L, ↓zq_M, ↓zq_N, ↓zq_O, ↓zq_P, ↓zq_Q, ↓zq_R, zq_S, zq_T, zq_U, zq_V, zq_W, zq_X, zq_Y, zq_Z, zq_0, zq_1, zq_2, zq_3, zq_4, zq_5, ↓zq_6, ↓zq_7, ↓zq_8, ↓zq_9, ↓zq_aa, zq_ab, zq_ac, zq_ad, zq_ae, zq_af, zq_ag, ↓zq_ah, ↓zq_ai, ↓zq_aj, zq_ak, ↓zq_al, ↓zq_am, e_b1, e_b2, x_o1, x_o2, k, hz]
theorem h_225y {d a c : Int} {M : EM} {o : EO} (k : E_C 189 [192, d, -1] M = some (0, M)) (l1 : ∀ M', M' 197 = M 197 → e_op 60 [197, d] M' = some a) (l2 : ∀ M', M' 196 = M 196 → e_op 60 [196, d] M' = some c) (g : E_V 225 43 [192, d, 0, 0] (e_up (e_up M 193 1200 a) 193 1201 c) = o) : E_C 225 [192, d] M = o := by
  have s1 : ∀ v M, e_st 100 [193, 1200, v] M = some (e_up M 193 1200 v) := fun v M => r_stw (i := 1200) (by decide) (by decide)
  have s2 : ∀ v M, e_st 100 [193, 1201, v] M = some (e_up M 193 1201 v) := fun v M => r_stw (i := 1201) (by decide) (by decide)
  have e1 := l1 M rfl
  have e2 := l2 (e_up M 193 1200 a) (by funext j; exact c_up_n (fun h => absurd h.1 (by decide)))
  rw [r_ent (show e_rok 225 [192, d] = true from decide_eq_true r_ref)]
  show e_tv E_C (E_V 225) e_t225_0 [192, d, 0, 0] M = _
  unfold e_t225_0
  simp [zq_a, zq_b, zq_c, zq_d, zq_e, zq_f, zq_g, zq_h, zq_i, zq_j, zq_k, zq_l, zq_m, zq_n, zq_o, zq_p, zq_q, zq_r, zq_s, zq_t, zq_u, zq_v, zq_w, zq_x, zq_y, zq_z, zq_A, zq_B, zq_C, zq_D, zq_E, zq_F, zq_G, zq_H, zq_I, zq_J, zq_K, zq_L, ↓zq_M, ↓zq_N, ↓zq_O, ↓zq_P, ↓zq_Q, ↓zq_R, zq_S, zq_T, zq_U, zq_V, zq_W, zq_X, zq_Y, zq_Z, zq_0, zq_1, zq_2, zq_3, zq_4, zq_5, ↓zq_6, ↓zq_7, ↓zq_8, ↓zq_9, ↓zq_aa, zq_ab, zq_ac, zq_ad, zq_ae, zq_af, zq_ag, ↓zq_ah, ↓zq_ai, ↓zq_aj, zq_ak, ↓zq_al, ↓zq_am, e_b1, e_b2, x_o1, x_o2, r_O0, r_O3, r_O4, k, e1, e2, s1, s2, g]
theorem h_sky {d r1 r2 : Int} {M M1 M2 : EM} (hS : h_S M) (hfr : ∀ id i, 192 ≤ id → M1 id i = M id i) (hsh : ∀ m : Nat, m < 8 → M1 (146 + 2 * m) 5 = M (146 + 2 * m) 5) (k1 : E_C 121 [8, d] M = some (r1, M1)) (k2 : E_C 225 [192, d] M1 = some (r2, M2)) : r1 = r2 ∧ True := by
  refine ⟨?_, trivial⟩
  have k3 := h_189 (d := d) (w := -1) (M := M1) (by decide)
  have eno : h_no M1 d (-1) = h_no M d (-1) := by
    unfold h_no
    rw [hfr 195 _ (by decide), hfr 196 _ (by decide)]
  rw [eno] at k3
  by_cases q : h_no M d (-1) = 0
  · obtain ⟨hd, kept⟩ := h_no2 q
    obtain ⟨m, rfl⟩ : ∃ m : Nat, d = m := ⟨d.toNat, by omega⟩
    rw [Int.toNat_natCast] at kept
    have m8 : m < 8 := by omega
    have hh := (h_gr145 m8).2
    obtain ⟨c0, c1⟩ := h_ref (w := -1) hS hd
    rw [q, Int.toNat_natCast] at c1
    rw [Int.toNat_natCast] at c0
    rw [q] at k3
    have a1 := h_121i hh c0 c1 k1
    rw [Int.toNat_natCast, hsh m m8] at a1
    have e5 : M (146 + 2 * m) 5 = M 197 m := by
      rcases hS m m8 with ⟨a, -⟩ | ⟨a, -⟩ | ⟨a, -, -, -, e5, -⟩
      · omega
      · omega
      · exact e5
    have b : 0 ≤ (m : Int) ∧ (m : Int) ≤ 7 := by omega
    have l1 : ∀ M', M' 197 = M1 197 → e_op 60 [197, (m : Int)] M' = some (M1 197 m) := fun M' e => by
      have l := (r_isD (m : Int) M' b).2.2.1
      rw [Int.toNat_natCast, e] at l
      exact l
    have l2 : ∀ M', M' 196 = M1 196 → e_op 60 [196, (m : Int)] M' = some (M1 196 m) := fun M' e => by
      have l := (r_isD (m : Int) M' b).2.1
      rw [Int.toNat_natCast, e] at l
      exact l
    obtain ⟨M', g⟩ := h_225l (z := 0) m8 120 0 (e_up (e_up M1 193 1200 (M1 197 m)) 193 1201 (M1 196 m)) (by decide)
    rw [c_up_n (fun h => absurd h.1 (by decide)), c_up_n (fun h => absurd h.1 (by decide))] at g
    have e3 := Prod.mk.inj (Option.some.inj (k2.symm.trans (h_225y k3 l1 l2 g)))
    rw [a1, e3.1, e5]
    exact (hfr 197 m (by decide)).symm
  · have cc : ∃ x, E_C 154 [8, d] M = some (x, M) ∧ E_C 156 [x, -1] M = some (h_no M d (-1), M) := by
      by_cases hd : 0 ≤ d ∧ d < 8
      · exact ⟨_, h_ref hS hd⟩
      · obtain ⟨a, b, c⟩ := h_ref1 (w := -1) (M := M) hd
        exact ⟨-1, a, by rw [c]; exact b⟩
    obtain ⟨x, c0, c1⟩ := cc
    have e1 := Prod.mk.inj (Option.some.inj (k1.symm.trans (h_121n c0 c1 q)))
    have e3 := Prod.mk.inj (Option.some.inj (k2.symm.trans (h_225n k3 q)))
    rw [e1.1, e3.1]
theorem h_sh5 {W : AW} {M M' : EM} (h : h_av h_KS W = true) (hf : a_fr W M M') : ∀ m : Nat, m < 8 → M' (146 + 2 * m) 5 = M (146 + 2 * m) 5 := fun m hm => by
  have mem : (146 + 2 * m, 4, 5) ∈ h_KS := List.mem_append.mpr (Or.inr (List.mem_flatMap.mpr ⟨m, List.mem_range.mpr hm, by simp⟩))
  exact h_av_ok h hf _ mem 5 (Nat.le_succ 4) (Nat.le_refl 5)
end
section
/-! washing days: the class's plan and the reference's are one -/
/-- what DAYS give from a clean one on -/
def wh_A (y : Nat → Nat → Int) (c : Nat) : Nat → Int
  | 0 => 0
  | j + 1 => wh_A y c j + y (c + j) j
def wh_T (n : Nat) (p : Int) (M W : Nat → Int) (u : Nat) : Int := if u < n then 64 * (M u - p) - (W u + 1) else 0
def wh_F (y : Nat → Nat → Int) (n : Nat) (p : Int) (M W : Nat → Int) (c u : Nat) : Int := 64 * wh_A y c (u - c) + wh_T n p M W u
/-- the class's plan -/
def wh_C (y : Nat → Nat → Int) (n : Nat) (p : Int) (M W : Nat → Int) (N : Nat → Nat) (k : Nat) : Prop := ∀ c, k ≤ c → c < n → (c < N c ∧ N c ≤ n) ∧ M c = wh_A y c (N c - c) + (if N c < n then M (N c) - p else 0) ∧ W c = (if N c < n then W (N c) + 1 else 0) ∧ ∀ u, c < u → u ≤ n → wh_F y n p M W c u ≤ wh_F y n p M W c (N c) ∧ (N c < u → wh_F y n p M W c u < wh_F y n p M W c (N c))
/-- the reference's plan -/
def wh_P (y : Nat → Nat → Int) (p : Int) (m t : Nat → Nat → Int) (k s : Nat) : Prop := y k s + m (k + 1) (s + 1) < y k 0 - p + m (k + 1) 1 ∨ (y k 0 - p + m (k + 1) 1 = y k s + m (k + 1) (s + 1) ∧ t (k + 1) 1 + 1 < t (k + 1) (s + 1))
def wh_R (y : Nat → Nat → Int) (n : Nat) (p : Int) (m t : Nat → Nat → Int) : Prop := (∀ s, s ≤ n → m n s = 0 ∧ t n s = 0) ∧ ∀ k s, k < n → s ≤ k → (wh_P y p m t k s → m k s = y k 0 - p + m (k + 1) 1 ∧ t k s = t (k + 1) 1 + 1) ∧ (¬ wh_P y p m t k s → m k s = y k s + m (k + 1) (s + 1) ∧ t k s = t (k + 1) (s + 1))
section WH
variable {y : Nat → Nat → Int} {n : Nat} {p : Int} {M W : Nat → Int} {N : Nat → Nat} {m t : Nat → Nat → Int}
theorem wh_Wb {k : Nat} (hn : W n = 0) (hC : wh_C y n p M W N k) : ∀ j c, k ≤ c → c + j = n → 0 ≤ W c ∧ W c ≤ j := by
  intro j
  induction j using Nat.strongRecOn with
  | _ j ih =>
    intro c hk hc
    by_cases z : c = n
    · rw [z, hn]; omega
    · obtain ⟨⟨a, b⟩, -, w, -⟩ := hC c hk (by omega)
      rw [w]
      by_cases q : N c = n
      · rw [if_neg (by omega)]; omega
      · rw [if_pos (by omega)]
        have := ih (n - N c) (by omega) (N c) (by omega) (by omega)
        omega
theorem wh_FN {c : Nat} (hC : wh_C y n p M W N 0) (hc : c < n) : wh_F y n p M W c (N c) = 64 * M c - W c := by
  obtain ⟨⟨a, b⟩, e, w, -⟩ := hC c (Nat.zero_le _) hc
  unfold wh_F wh_T
  rw [e, w]
  by_cases q : N c = n
  · rw [if_neg (by omega), if_neg (by omega), if_neg (by omega)]; omega
  · rw [if_pos (by omega), if_pos (by omega), if_pos (by omega)]; omega
theorem wh_main (hp : 0 ≤ p) (hn : n ≤ 30) (h0 : M n = 0 ∧ W n = 0) (hC : wh_C y n p M W N 0) (hR : wh_R y n p m t) : ∀ j k, k + j = n → (∀ s, s ≤ k → 0 ≤ t k s ∧ t k s ≤ j) ∧ (m k 0 = M k ∧ t k 0 = W k) ∧ ∀ c, c < k → ∃ u, (k ≤ u ∧ u ≤ n) ∧ 64 * m k (k - c) - t k (k - c) + 64 * wh_A y c (k - c) = wh_F y n p M W c u ∧ (∀ v, k ≤ v → v ≤ n → wh_F y n p M W c v ≤ wh_F y n p M W c u ∧ (u < v → wh_F y n p M W c v < wh_F y n p M W c u)) ∧ (k < n → (wh_P y p m t k (k - c) ↔ u = k)) := by
  intro j
  induction j with
  | zero =>
    intro k hk
    have e : k = n := by omega
    subst e
    refine ⟨fun s hs => ?_, ?_, fun c hc => ⟨k, ⟨Nat.le_refl _, Nat.le_refl _⟩, ?_, fun v h1 h2 => ?_, fun h => absurd h (Nat.lt_irrefl _)⟩⟩
    · rw [(hR.1 s hs).2]; exact ⟨Int.le_refl _, Int.le_refl _⟩
    · rw [(hR.1 0 (Nat.zero_le _)).1, (hR.1 0 (Nat.zero_le _)).2, h0.1, h0.2]; exact ⟨rfl, rfl⟩
    · unfold wh_F wh_T
      rw [(hR.1 (k - c) (by omega)).1, (hR.1 (k - c) (by omega)).2, if_neg (Nat.lt_irrefl _)]
      omega
    · have e : v = k := by omega
      subst e
      exact ⟨Int.le_refl _, fun h => absurd h (Nat.lt_irrefl _)⟩
  | succ j ih =>
    intro k hk
    have kn : k < n := by omega
    obtain ⟨b1, -, c1⟩ := ih (k + 1) (by omega)
    have r0 := hR.2 k 0 kn (Nat.zero_le _)
    have np : ¬ wh_P y p m t k 0 := by
      unfold wh_P
      have : (0 : Nat) + 1 = 1 := rfl
      rw [this]
      omega
    obtain ⟨m0, t0⟩ := r0.2 np
    have m0 : m k 0 = y k 0 + m (k + 1) 1 := m0
    have t0 : t k 0 = t (k + 1) 1 := t0
    have tb := b1 1 (by omega)
    have wb := wh_Wb h0.2 hC (j + 1) k (Nat.zero_le _) (by omega)
    have base : m k 0 = M k ∧ t k 0 = W k := by
      obtain ⟨u, ⟨u1, u2⟩, e, mx, -⟩ := c1 k (by omega)
      rw [show k + 1 - k = 1 by omega] at e
      have a1 : wh_A y k 1 = y k 0 := by
        show 0 + y (k + 0) 0 = _
        rw [Int.zero_add, Nat.add_zero]
      rw [a1] at e
      obtain ⟨⟨n1, n2⟩, -, -, mn⟩ := hC k (Nat.zero_le _) kn
      have f := wh_FN hC kn
      have g1 := (mx (N k) (by omega) n2).1
      have g2 := (mn u (by omega) u2).1
      rw [m0, t0]
      constructor <;> omega
    refine ⟨fun s hs => ?_, base, fun c hc => ?_⟩
    · obtain ⟨p1, p2⟩ := hR.2 k s kn hs
      by_cases q : wh_P y p m t k s
      · rw [(p1 q).2]; omega
      · rw [(p2 q).2]
        have := b1 (s + 1) (by omega)
        omega
    · obtain ⟨u, ⟨u1, u2⟩, e, mx, -⟩ := c1 c (by omega)
      obtain ⟨s, hs⟩ : ∃ s, k - c = s := ⟨_, rfl⟩
      rw [show k + 1 - c = s + 1 by omega] at e
      have as : wh_A y c (s + 1) = wh_A y c s + y k s := by
        show wh_A y c s + y (c + s) s = _
        rw [show c + s = k by omega]
      rw [as] at e
      have sb := b1 (s + 1) (by omega)
      have fk : wh_F y n p M W c k = 64 * wh_A y c s + (64 * (M k - p) - (W k + 1)) := by
        unfold wh_F wh_T
        rw [if_pos kn, hs]
      obtain ⟨p1, p2⟩ := hR.2 k s kn (by omega)
      rw [hs]
      by_cases q : wh_P y p m t k s
      · obtain ⟨e1, e2⟩ := p1 q
        have gt : wh_F y n p M W c u < wh_F y n p M W c k := by
          unfold wh_P at q
          rw [fk, ← e]
          omega
        refine ⟨k, ⟨Nat.le_refl _, by omega⟩, ?_, fun v v1 v2 => ?_, fun _ => ⟨fun _ => rfl, fun _ => q⟩⟩
        · rw [e1, e2, fk]
          omega
        · by_cases z : v = k
          · subst z
            exact ⟨Int.le_refl _, fun h => absurd h (Nat.lt_irrefl _)⟩
          · have := (mx v (by omega) v2).1
            exact ⟨by omega, fun _ => by omega⟩
      · obtain ⟨e1, e2⟩ := p2 q
        have le : wh_F y n p M W c k ≤ wh_F y n p M W c u := by
          have q' := q
          unfold wh_P at q'
          rw [fk, ← e]
          omega
        refine ⟨u, ⟨by omega, u2⟩, ?_, fun v v1 v2 => ?_, fun _ => ⟨fun h => absurd h q, fun h => by omega⟩⟩
        · rw [e1, e2, ← e]
          omega
        · by_cases z : v = k
          · subst z
            exact ⟨le, fun h => by omega⟩
          · exact mx v (by omega) v2
/-- where the reference washes -/
theorem wh_path (hp : 0 ≤ p) (hn : n ≤ 30) (h0 : M n = 0 ∧ W n = 0) (hC : wh_C y n p M W N 0) (hR : wh_R y n p m t) {c k : Nat} (hc : c < k) (hk : k ≤ N c) (kn : k < n) : wh_P y p m t k (k - c) ↔ k = N c := by
  obtain ⟨-, -, h⟩ := wh_main hp hn h0 hC hR (n - k) k (by omega)
  obtain ⟨u, ⟨u1, u2⟩, -, mx, pu⟩ := h c hc
  obtain ⟨⟨n1, n2⟩, -, -, mn⟩ := hC c (Nat.zero_le _) (by omega)
  have a := mx (N c) hk n2
  have b := mn u (by omega) u2
  have e : u = N c := by
    rcases Nat.lt_trichotomy u (N c) with z | z | z
    · have := a.2 z
      omega
    · exact z
    · have := b.2 z
      omega
  rw [pu kn, e]
  exact ⟨fun h => h.symm, fun h => h.symm⟩
theorem wh_no0 {k : Nat} (hp : 0 ≤ p) : ¬ wh_P y p m t k 0 := by
  unfold wh_P
  have : (0 : Nat) + 1 = 1 := rfl
  rw [this]
  omega
end WH
/-- washing after washing -/
def wh_r (N : Nat → Nat) : Nat → Nat → Nat
  | 0, d => d
  | j + 1, d => wh_r N j (N d)
end
