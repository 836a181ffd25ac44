section
/-! copy: the two answers, and SHELVES stay related -/
/-- which of n elements have come after q steps -/
def h_W (i j n q t : Nat) : Prop := if j < i then t < q else n ≤ q + t
theorem h_262l {d e i j n : Nat} (hd : d < 8) (he : e < 8) (hi : i + n ≤ 120) (hj : j + n ≤ 120) (M0 : EM) : ∀ (m q : Nat) (y : Int) (M : EM), q + m = n → ((∀ t, t < n → h_W i j n q t → M 198 (120 * e + j + t) = M0 198 (120 * d + i + t)) ∧ (∀ id k, ¬ (id = 198 ∧ ∃ t, t < n ∧ h_W i j n q t ∧ k = 120 * e + j + t) → M id k = M0 id k)) → ∃ M', E_V 262 122 [192, (d : Int), (i : Int), (e : Int), (j : Int), (n : Int), (q : Int), y] M = some ((n : Int), M') ∧ (∀ t, t < n → M' 198 (120 * e + j + t) = M0 198 (120 * d + i + t)) ∧ (∀ id k, ¬ (id = 198 ∧ 120 * e + j ≤ k ∧ k < 120 * e + j + n) → M' id k = M0 id k) := by
  intro m
  induction m with
  | zero =>
    intro q y M hm h
    have e : q = n := by omega
    subst e
    obtain ⟨h1, h2⟩ := h
    refine ⟨M, h_262z, fun t ht => h1 t ht ?_, fun id k hk => h2 id k (fun hc => hk ?_)⟩
    · unfold h_W
      split <;> omega
    · obtain ⟨a, t, b, c, f⟩ := hc
      exact ⟨a, by omega, by omega⟩
  | succ m ih =>
    intro q y M hm h
    obtain ⟨h1, h2⟩ := h
    obtain ⟨t, ht⟩ : ∃ t : Nat, t = if j < i then q else n - 1 - q := ⟨_, rfl⟩
    have tn : t < n := by
      rw [ht]
      split <;> omega
    have nw : ¬ h_W i j n q t := by
      unfold h_W
      rw [ht]
      split <;> omega
    have src : M 198 (120 * d + i + t) = M0 198 (120 * d + i + t) := h2 _ _ (fun hc => by
      obtain ⟨-, t', t1, t2, t3⟩ := hc
      unfold h_W at t2 nw
      by_cases c : i > j
      · rw [if_pos c] at t2 nw ht
        omega
      · rw [if_neg (by omega)] at t2 nw ht
        omega)
    have b1 : 0 ≤ 120 * (d : Int) + (i : Int) + (t : Int) ∧ 120 * (d : Int) + (i : Int) + (t : Int) < 960 := by omega
    have b2 : 0 ≤ 120 * (e : Int) + (j : Int) + (t : Int) ∧ 120 * (e : Int) + (j : Int) + (t : Int) < 960 := by omega
    have n1 : (120 * (d : Int) + (i : Int) + (t : Int)).toNat = 120 * d + i + t := by omega
    have n2 : (120 * (e : Int) + (j : Int) + (t : Int)).toNat = 120 * e + j + t := by omega
    have l : e_op 60 [198, 120 * (d : Int) + (i : Int) + (t : Int)] M = some (M 198 (120 * d + i + t)) := (r_rdE b1.1 b1.2).trans (by rw [n1])
    have st : ∀ v, e_st 100 [198, 120 * (e : Int) + (j : Int) + (t : Int), v] M = some (e_up M 198 (120 * e + j + t) v) := fun v => (r_st (n := 960) (by decide) (by decide +kernel) (by decide +kernel) b2.1 b2.2).trans (by rw [n2]; rfl)
    obtain ⟨M', k1, c1, c2⟩ := ih (q + 1) (t : Int) (e_up M 198 (120 * e + j + t) (M 198 (120 * d + i + t))) (by omega) ⟨fun t' t1 t2 => by
      by_cases c : t' = t
      · subst c
        rw [c_up_s]
        exact src
      · rw [c_up_n (by omega)]
        refine h1 t' t1 ?_
        unfold h_W at t2 ⊢
        by_cases c2 : i > j
        · rw [if_pos c2] at t2 ht ⊢
          omega
        · rw [if_neg (by omega)] at t2 ht ⊢
          omega, fun id k hk => by
      rw [c_up_n (fun hc => hk ⟨hc.1, t, tn, by
        unfold h_W
        by_cases c2 : i > j
        · rw [if_pos c2] at ht ⊢
          omega
        · rw [if_neg (by omega)] at ht ⊢
          omega, hc.2⟩)]
      refine h2 id k (fun hc => hk ?_)
      obtain ⟨a, t', t1, t2, t3⟩ := hc
      refine ⟨a, t', t1, ?_, t3⟩
      unfold h_W at t2 ⊢
      by_cases c2 : i > j
      · rw [if_pos c2] at t2 ⊢
        omega
      · rw [if_neg (by omega)] at t2 ⊢
        omega⟩
    refine ⟨M', ?_, c1, c2⟩
    rw [← k1]
    have hqn : (q : Int) < (n : Int) := by omega
    have htt : (t : Int) = if (j : Int) < (i : Int) then (q : Int) else ((n - 1 - q : Nat) : Int) := by
      by_cases c : i > j
      · rw [if_pos (by omega)]
        rw [if_pos c] at ht
        omega
      · rw [if_neg (by omega)]
        rw [if_neg (by omega)] at ht
        omega
    have w : e_w ((n : Int) - 1) = (n : Int) - 1 ∧ e_w ((n : Int) - 1 - (q : Int)) = ((n - 1 - q : Nat) : Int) ∧ e_w (120 * (e : Int)) = 120 * (e : Int) ∧ e_w (120 * (e : Int) + (j : Int)) = 120 * (e : Int) + (j : Int) ∧ e_w (120 * (e : Int) + (j : Int) + (t : Int)) = 120 * (e : Int) + (j : Int) + (t : Int) ∧ e_w (120 * (d : Int)) = 120 * (d : Int) ∧ e_w (120 * (d : Int) + (i : Int)) = 120 * (d : Int) + (i : Int) ∧ e_w (120 * (d : Int) + (i : Int) + (t : Int)) = 120 * (d : Int) + (i : Int) + (t : Int) ∧ e_w ((q : Int) + 1) = ((q + 1 : Nat) : Int) := by
      clear k1 c1 c2 ih h1 h2 l st src nw htt ht n1 n2
      refine ⟨?_, ?_, ?_, ?_, ?_, ?_, ?_, ?_, ?_⟩
      · exact a_w_id (by omega) (by omega)
      · exact (a_w_id (by omega) (by omega)).trans (by omega)
      · exact a_w_id (by omega) (by omega)
      · exact a_w_id (by omega) (by omega)
      · exact a_w_id (by omega) (by omega)
      · exact a_w_id (by omega) (by omega)
      · exact a_w_id (by omega) (by omega)
      · exact a_w_id (by omega) (by omega)
      · exact (a_w_id (by omega) (by omega)).trans (by omega)
    obtain ⟨w1, w2, w3, w4, w5, w6, w7, w8, w9⟩ := w
    rw [← w2] at htt
    exact h_262s hqn w1 htt w3 w4 w5 w6 w7 w8 w9 l (st _)
theorem h_copy {d i e j n r1 r2 : Int} {M M1 M2 : EM} (hJ : r_J M) (hS : h_S M) (hi : -2147483648 ≤ i ∧ i ≤ 2147483647) (hj : -2147483648 ≤ j ∧ j ≤ 2147483647) (hn : -2147483648 ≤ n ∧ n ≤ 2147483647) (k1 : E_C 143 [8, d, i, e, j, n] M = some (r1, M1)) (k2 : E_C 262 [192, d, i, e, j, n] M1 = some (r2, M2)) : r1 = r2 ∧ h_S M2 := by
  by_cases hde : (0 ≤ d ∧ d < 8) ∧ (0 ≤ e ∧ e < 8)
  · obtain ⟨hd, he⟩ := hde
    obtain ⟨m, hm⟩ : ∃ m : Nat, d = m := ⟨d.toNat, by omega⟩
    obtain ⟨l, hl⟩ : ∃ l : Nat, e = l := ⟨e.toNat, by omega⟩
    subst hm
    subst hl
    have m8 : m < 8 := by omega
    have l8 : l < 8 := by omega
    have hhm := (h_gr145 m8).2
    have hhl := (h_gr145 l8).2
    have c0 := h_154a (M := M) hd.1 hd.2 (h_rd145 m8 M)
    have c1 := h_154a (M := M) he.1 he.2 (h_rd145 l8 M)
    have hx : ((146 + 2 * m : Nat) : Int) ≠ -1 := by omega
    have hy : ((146 + 2 * l : Nat) : Int) ≠ -1 := by omega
    have t1 := h_84 hhm M
    have t2 := h_84 hhl M
    obtain ⟨-, fm1, fm4, -⟩ := h_sf hhm M
    obtain ⟨-, fl1, fl4, -⟩ := h_sf hhl M
    rw [Int.toNat_natCast] at t1 t2 fm1 fm4 fl1 fl4
    have i0 := h_is (d := (m : Int)) M
    have i1 := h_is (d := (l : Int)) M
    rw [if_pos hd] at i0
    rw [if_pos he] at i1
    obtain ⟨a1, a2, a3, -⟩ := r_isD (m : Int) M ⟨hd.1, by omega⟩
    obtain ⟨b1, b2, b3, -⟩ := r_isD (l : Int) M ⟨he.1, by omega⟩
    rw [Int.toNat_natCast] at a1 a2 a3 b1 b2 b3
    have km := hS m m8
    have kl := hS l l8
    by_cases q11 : M 195 m = 0 ∨ M 195 l = 0
    · have u : (if M (146 + 2 * m) 0 = 0 ∧ M (146 + 2 * m) 1 = 0 then (1 : Int) else 0) ≠ 0 ∨ (if M (146 + 2 * l) 0 = 0 ∧ M (146 + 2 * l) 1 = 0 then (1 : Int) else 0) ≠ 0 := by
        rcases q11 with q | q
        · refine Or.inl ?_
          rw [if_pos (by omega)]
          decide
        · refine Or.inr ?_
          rw [if_pos (by omega)]
          decide
      have e1 := Prod.mk.inj (Option.some.inj (k1.symm.trans (h_143b (i := i) (j := j) (n := n) c0 c1 hx hy t1 t2 u)))
      obtain ⟨e1, e2⟩ := e1
      subst e2
      have e3 := Prod.mk.inj (Option.some.inj (k2.symm.trans (h_262b (i := i) (j := j) (n := n) i0 i1 a1 b1 q11)))
      rw [e1, e3.1, e3.2]
      exact ⟨rfl, hS⟩
    · have u1 : ¬ (M (146 + 2 * m) 0 = 0 ∧ M (146 + 2 * m) 1 = 0) := by omega
      have u2 : ¬ (M (146 + 2 * l) 0 = 0 ∧ M (146 + 2 * l) 1 = 0) := by omega
      rw [if_neg u1] at t1
      rw [if_neg u2] at t2
      by_cases q12 : M 195 m ≠ 2 ∨ M 195 l ≠ 2 ∨ M 196 m ≠ M 196 l
      · have u : M (146 + 2 * m) 1 = 0 ∨ M (146 + 2 * l) 1 = 0 ∨ M (146 + 2 * m) 4 ≠ M (146 + 2 * l) 4 := by omega
        have e1 := Prod.mk.inj (Option.some.inj (k1.symm.trans (h_143c (i := i) (j := j) (n := n) c0 c1 hx hy t1 t2 fm1 fl1 fm4 fl4 u)))
        obtain ⟨e1, e2⟩ := e1
        subst e2
        have e3 := Prod.mk.inj (Option.some.inj (k2.symm.trans (h_262c (i := i) (j := j) (n := n) i0 i1 a1 b1 (by omega) (by omega) a2 b2 q12)))
        rw [e1, e3.1, e3.2]
        exact ⟨rfl, hS⟩
      · have rm : M 195 m = 2 ∧ M (146 + 2 * m) 1 = 1 ∧ M (146 + 2 * m) 4 = M 196 m ∧ M (146 + 2 * m) 5 = M 197 m ∧ ∀ i, i < 120 → M (147 + 2 * m) i = M 198 (120 * m + i) := by
          rcases km with ⟨a, -⟩ | ⟨a, -⟩ | ⟨a, -, c, f, g, h⟩
          · omega
          · omega
          · exact ⟨a, c, f, g, h⟩
        have rl : M 195 l = 2 ∧ M (146 + 2 * l) 1 = 1 ∧ M (146 + 2 * l) 4 = M 196 l ∧ M (146 + 2 * l) 5 = M 197 l ∧ ∀ i, i < 120 → M (147 + 2 * l) i = M 198 (120 * l + i) := by
          rcases kl with ⟨a, -⟩ | ⟨a, -⟩ | ⟨a, -, c, f, g, h⟩
          · omega
          · omega
          · exact ⟨a, c, f, g, h⟩
        obtain ⟨rm0, rm1, rm4, rm5, rme⟩ := rm
        obtain ⟨rl0, rl1, rl4, rl5, rle⟩ := rl
        have ss : M 196 m = M 196 l := by omega
        rw [rm4] at fm4
        rw [rl4, ← ss] at fl4
        rw [← ss] at b2
        rw [rm0] at a1
        rw [rl0] at b1
        have zm := hJ.2.1 m m8
        have zl := hJ.2.1 l l8
        have g1 := c_hasRun (i := i) (n := n) hhm hJ.1 hi hn
        have g2 := c_hasRun (i := j) (n := n) hhl hJ.1 hj hn
        rw [Int.toNat_natCast, rm5] at g1
        rw [Int.toNat_natCast, rl5] at g2
        have p1 : M (146 + 2 * m) 1 ≠ 0 := by omega
        have p2 : M (146 + 2 * l) 1 ≠ 0 := by omega
        have wi : 0 ≤ i → e_w (M 197 m - i) = M 197 m - i := fun h => a_w_id (by omega) (by omega)
        have wj : 0 ≤ j → e_w (M 197 l - j) = M 197 l - j := fun h => a_w_id (by omega) (by omega)
        by_cases q13 : 0 ≤ n ∧ 0 ≤ i ∧ 0 ≤ j ∧ n ≤ M 197 m - i ∧ n ≤ M 197 l - j
        · obtain ⟨n0, i00, j00, nm, nl⟩ := q13
          have u3 : 0 ≤ i ∧ 0 ≤ n ∧ i + n ≤ M 197 m := ⟨i00, n0, by clear wi wj; omega⟩
          have u4 : 0 ≤ j ∧ 0 ≤ n ∧ j + n ≤ M 197 l := ⟨j00, n0, by clear wi wj; omega⟩
          rw [if_pos u3] at g1
          rw [if_pos u4] at g2
          obtain ⟨x1, x2, x3, x4, x5, -⟩ := w_sh hhm
          obtain ⟨y1, y2, y3, y4, y5, -⟩ := w_sh hhl
          have f5 : e_gf 518 [((146 + 2 * m : Nat) : Int)] M = some (((146 + 2 * m : Nat) : Int) + 1) := (c_gr x1 (by decide +kernel)).trans (congrArg some x5)
          have f6 : e_gf 518 [((146 + 2 * l : Nat) : Int)] M = some (((146 + 2 * l : Nat) : Int) + 1) := (c_gr y1 (by decide +kernel)).trans (congrArg some y5)
          obtain ⟨I, hI⟩ : ∃ I : Nat, i = I := ⟨i.toNat, by clear wi wj; omega⟩
          obtain ⟨J, hJ'⟩ : ∃ J : Nat, j = J := ⟨j.toNat, by clear wi wj; omega⟩
          obtain ⟨L, hL⟩ : ∃ L : Nat, n = L := ⟨n.toNat, by clear wi wj; omega⟩
          subst hI
          subst hJ'
          subst hL
          obtain ⟨-, -, -, o1, -⟩ := c_el hhm
          obtain ⟨-, -, -, o2, -⟩ := c_el hhl
          rw [x5] at o1
          rw [y5] at o2
          have cp : e_cp [((146 + 2 * m : Nat) : Int) + 1, (I : Int), ((146 + 2 * l : Nat) : Int) + 1, (J : Int), (L : Int)] M = some (e_cpm M (147 + 2 * m) I (147 + 2 * l) J L) := by
            refine (if_pos ⟨o2, o1, i00, j00, n0, by rw [x4]; clear wi wj; omega, by rw [y4]; clear wi wj; omega⟩).trans ?_
            rw [show (((146 + 2 * m : Nat) : Int) + 1).toNat = 147 + 2 * m by clear wi wj; omega, show (((146 + 2 * l : Nat) : Int) + 1).toNat = 147 + 2 * l by clear wi wj; omega, Int.toNat_natCast, Int.toNat_natCast, Int.toNat_natCast]
          have e1 := Prod.mk.inj (Option.some.inj (k1.symm.trans (h_143e c0 c1 hx hy t1 t2 fm1 fl1 fm4 fl4 p1 p2 g1 g2 (by decide) (by decide) f5 f6 cp)))
          obtain ⟨e1, e2⟩ := e1
          have cO : ∀ id k, id ≠ 147 + 2 * l → M1 id k = M id k := fun id k h => by rw [e2]; exact if_neg (fun hc => h hc.1)
          have cI : ∀ k, M1 (147 + 2 * l) k = if J ≤ k ∧ k < J + L then M (147 + 2 * m) (I + (k - J)) else M (147 + 2 * l) k := fun k => by
            rw [e2]
            unfold e_cpm
            by_cases c : J ≤ k ∧ k < J + L
            · rw [if_pos ⟨rfl, c⟩, if_pos c]
            · rw [if_neg (fun hc => c hc.2), if_neg c]
          clear e2
          have i0' := h_is (d := (m : Int)) M1
          have i1' := h_is (d := (l : Int)) M1
          rw [if_pos hd] at i0'
          rw [if_pos he] at i1'
          obtain ⟨A1, A2, A3, -⟩ := r_isD (m : Int) M1 ⟨hd.1, by clear wi wj; omega⟩
          obtain ⟨B1, B2, B3, -⟩ := r_isD (l : Int) M1 ⟨he.1, by clear wi wj; omega⟩
          rw [Int.toNat_natCast, cO _ _ (by clear wi wj; omega)] at A1 A2 A3 B1 B2 B3
          rw [rm0] at A1
          rw [rl0] at B1
          rw [← ss] at B2
          have wi' := wi i00
          have wj' := wj j00
          clear wi wj
          have bI : I + L ≤ 120 := by clear wi' wj'; omega
          have bJ : J + L ≤ 120 := by clear wi' wj'; omega
          obtain ⟨M', v1, v2, v3⟩ := h_262l (d := m) (e := l) (i := I) (j := J) (n := L) m8 l8 bI bJ M1 L 0 0 M1 (Nat.zero_add _) ⟨fun t ht hw => by
            exfalso
            unfold h_W at hw
            clear wi' wj'
            split at hw <;> omega, fun _ _ _ => rfl⟩
          have v1' : E_V 262 122 [192, (m : Int), (I : Int), (l : Int), (J : Int), (L : Int), 0, 0] M1 = some ((L : Int), M') := v1
          have e3 := Prod.mk.inj (Option.some.inj (k2.symm.trans (h_262e i0' i1' A1 B1 A2 B2 A3 B3 wi' wj' n0 i00 j00 nm nl v1')))
          obtain ⟨e3, e4⟩ := e3
          subst e4
          clear wi' wj'
          refine ⟨e1.trans e3.symm, fun d' hd' => ?_⟩
          have z : ∀ id k, id ≠ 198 → id ≠ 147 + 2 * l → M2 id k = M id k := fun id k a c => (v3 id k (fun h => a h.1)).trans (cO id k c)
          rw [z 195 _ (by decide) (by omega), z 196 _ (by decide) (by omega), z 197 _ (by decide) (by omega), z (146 + 2 * d') _ (by omega) (by omega), z (146 + 2 * d') _ (by omega) (by omega), z (146 + 2 * d') _ (by omega) (by omega), z (146 + 2 * d') _ (by omega) (by omega)]
          rcases hS d' hd' with h | h | ⟨h1, h2, h3, h4, h5, h6⟩
          · exact Or.inl h
          · exact Or.inr (Or.inl h)
          · refine Or.inr (Or.inr ⟨h1, h2, h3, h4, h5, fun k hk => ?_⟩)
            by_cases c : d' = l
            · subst c
              rw [v3 _ _ (by omega), cI]
              by_cases c2 : J ≤ k ∧ k < J + L
              · rw [if_pos c2]
                have vv := v2 (k - J) (by omega)
                rw [show 120 * d' + J + (k - J) = 120 * d' + k by omega, cO _ _ (by omega)] at vv
                rw [vv, rme _ (by omega)]
                congr 1
                omega
              · rw [if_neg c2, v3 _ _ (by omega), cO _ _ (by omega)]
                exact h6 k hk
            · rw [v3 _ _ (by omega), v3 _ _ (by omega), cO _ _ (by omega), cO _ _ (by omega)]
              exact h6 k hk
        · have u : (if 0 ≤ i ∧ 0 ≤ n ∧ i + n ≤ M 197 m then (1 : Int) else 0) = 0 ∨ (if 0 ≤ j ∧ 0 ≤ n ∧ j + n ≤ M 197 l then (1 : Int) else 0) = 0 := by
            clear wi wj
            by_cases c : 0 ≤ i ∧ 0 ≤ n ∧ i + n ≤ M 197 m
            · refine Or.inr (if_neg (fun h => q13 ?_))
              omega
            · exact Or.inl (if_neg c)
          have e1 := Prod.mk.inj (Option.some.inj (k1.symm.trans (h_143d c0 c1 hx hy t1 t2 fm1 fl1 fm4 fl4 p1 p2 g1 g2 u)))
          obtain ⟨e1, e2⟩ := e1
          subst e2
          have e3 := Prod.mk.inj (Option.some.inj (k2.symm.trans (h_262d i0 i1 a1 b1 a2 b2 a3 b3 wi wj q13)))
          rw [e1, e3.1, e3.2]
          exact ⟨rfl, hS⟩
  · have cx : ∃ x y, E_C 154 [8, d] M = some (x, M) ∧ E_C 154 [8, e] M = some (y, M) ∧ (x = -1 ∨ y = -1) := by
      by_cases hd : 0 ≤ d ∧ d < 8
      · have he : ¬ (0 ≤ e ∧ e < 8) := fun h => hde ⟨hd, h⟩
        obtain ⟨m, hm⟩ : ∃ m : Nat, d = m := ⟨d.toNat, by omega⟩
        refine ⟨((146 + 2 * m : Nat) : Int), -1, ?_, h_154n he, Or.inr rfl⟩
        rw [hm]
        exact h_154a (by omega) (by omega) (h_rd145 (by omega) M)
      · by_cases he : 0 ≤ e ∧ e < 8
        · obtain ⟨m, hm⟩ : ∃ m : Nat, e = m := ⟨e.toNat, by omega⟩
          refine ⟨-1, ((146 + 2 * m : Nat) : Int), h_154n hd, ?_, Or.inl rfl⟩
          rw [hm]
          exact h_154a (by omega) (by omega) (h_rd145 (by omega) M)
        · exact ⟨-1, -1, h_154n hd, h_154n he, Or.inl rfl⟩
    obtain ⟨x, y, c0, c1, c2⟩ := cx
    have e1 := Prod.mk.inj (Option.some.inj (k1.symm.trans (h_143a (i := i) (j := j) (n := n) c0 c1 c2)))
    obtain ⟨e1, e2⟩ := e1
    subst e2
    have i0 := h_is (d := d) M1
    have i1 := h_is (d := e) M1
    have u : (if 0 ≤ d ∧ d < 8 then (1 : Int) else 0) = 0 ∨ (if 0 ≤ e ∧ e < 8 then (1 : Int) else 0) = 0 := by
      by_cases hd : 0 ≤ d ∧ d < 8
      · exact Or.inr (if_neg (fun h => hde ⟨hd, h⟩))
      · exact Or.inl (if_neg hd)
    have e3 := Prod.mk.inj (Option.some.inj (k2.symm.trans (h_262a (i := i) (j := j) (n := n) i0 i1 u)))
    rw [e1, e3.1, e3.2]
    exact ⟨rfl, hS⟩
end
section
/-! the relation's keepers by frames; sky's answers -/
theorem h_cG {W : AW} {M M1 : EM} (h4 : a_fr W M M1) (hW : (W.all fun w => decide (8 ≤ w.1) && decide (w.1 < 192)) = true) : ∀ id i, 192 ≤ id → M1 id i = M id i := fun id i hi => h4 id i (fun w hw hc => by
  have h := List.all_eq_true.mp hW w hw
  simp only [Bool.and_eq_true, decide_eq_true_eq] at h
  omega)
theorem h_keB {W : AW} {M M' : EM} (h : h_av h_KB W = true) (hf : a_fr W M M') (hB : h_B M 0 (r_G M)) : h_B M' 0 (r_G M') := h_keepB (h_av_ok h hf) hB
theorem h_keI {W : AW} {M M' : EM} (h : h_av h_KI W = true) (hf : a_fr W M M') (hB : h_B M 68 (r_Gi M)) : h_B M' 68 (r_Gi M') := h_keepI (h_av_ok h hf) hB
theorem h_keS {W : AW} {M M' : EM} (h : h_av h_KS W = true) (hf : a_fr W M M') (hS : h_S M) : h_S M' := h_keepS (h_av_ok h hf) hS
theorem h_keF {W : AW} {M M' : EM} (h : h_av [(165, 0, 0)] W = true) (hf : a_fr W M M') (h0 : M 165 0 = 0) : M' 165 0 = 0 := (h_av_ok h hf (165, 0, 0) List.mem_cons_self 0 (Nat.le_refl _) (Nat.le_refl _)).trans h0
theorem h_121n {d x z : Int} {M : EM} (c0 : E_C 154 [8, d] M = some (x, M)) (c1 : E_C 156 [x, -1] M = some (z, M)) (hz : z ≠ 0) : E_C 121 [8, d] M = some (z, M) := by
  have s0 : E_C 121 [8, d] M = e_tv E_C (E_V 121) e_t121_0 [8, d, 0, 0] M := r_ent (u := 121) (as := [8, d]) (M := M) (decide_eq_true c_this)
  rw [s0]
  unfold e_t121_0
  simp [e_tv, e_ev, e_sv, e_b1, e_b2, x_o1, x_o2, c0, c1, hz]
theorem h_121y {d h r n : Int} {M M1 : EM} (c0 : E_C 154 [8, d] M = some (h, M)) (hx : h ≠ -1) (c1 : E_C 156 [h, -1] M = some (0, M)) (k : E_C 76 [26, h] M = some (r, M1)) (f : e_gf 517 [h] M1 = some n) : E_C 121 [8, d] M = some (n, M1) := by
  have s0 : E_C 121 [8, d] M = e_tv E_C (E_V 121) e_t121_0 [8, d, 0, 0] M := r_ent (u := 121) (as := [8, d]) (M := M) (decide_eq_true c_this)
  rw [s0]
  unfold e_t121_0
  simp [e_tv, e_ev, e_sv, e_b1, e_b2, x_o1, x_o2, p_704, p_195, c0, hx, c1, k, f]
theorem h_121i {d h r1 : Int} {M M1 : EM} (hh : h ∈ a_SH) (c0 : E_C 154 [8, d] M = some (h, M)) (c1 : E_C 156 [h, -1] M = some (0, M)) (k1 : E_C 121 [8, d] M = some (r1, M1)) : r1 = M1 h.toNat 5 := by
  have hx : h ≠ -1 := by
    have := w_sh hh
    omega
  cases hk : E_C 76 [26, h] M with
  | none =>
    exfalso
    have s0 : E_C 121 [8, d] M = e_tv E_C (E_V 121) e_t121_0 [8, d, 0, 0] M := r_ent (u := 121) (as := [8, d]) (M := M) (decide_eq_true c_this)
    rw [s0] at k1
    unfold e_t121_0 at k1
    simp [e_tv, e_ev, e_sv, e_b1, e_b2, x_o1, x_o2, p_704, p_195, c0, hx, c1, hk] at k1
  | some z =>
    obtain ⟨r, N⟩ := z
    obtain ⟨-, -, -, f5⟩ := h_sf hh N
    have e := Prod.mk.inj (Option.some.inj (k1.symm.trans (h_121y c0 hx c1 hk f5)))
    rw [e.1, e.2]
end
section
/-! sky: the two answers -/
theorem h_225s {d z i y ia ib ic : Int} {na : Nat} {v : Int} {M : EM} (q : i < 120) (w0 : e_w (1202 + i) = ia) (w1 : e_w (120 * d) = ib) (w2 : e_w (ib + i) = ic) (w3 : e_w (i + 1) = y) (l : e_op 60 [198, ic] M = some v) (st : ∀ v, e_st 100 [193, ia, v] M = some (e_up M 193 na v)) : E_V 225 43 [192, d, z, i] M = E_V 225 43 [192, d, z, y] (e_up M 193 na v) := by
  rw [E_V_eq]
  show e_tv E_C (E_V 225) e_t225_43 [192, d, z, i] M = _
  unfold e_t225_43
  simp [e_tv, e_ev, e_sv, e_b1, e_b2, x_o1, x_o2, r_O0, r_O5, q, w0, w1, w2, w3, l, st]
theorem h_225e {d z n : Int} {M : EM} (l : e_op 60 [197, d] M = some n) : E_V 225 43 [192, d, z, 120] M = some (n, M) := by
  rw [E_V_eq]
  show e_tv E_C (E_V 225) e_t225_43 [192, d, z, 120] M = _
  unfold e_t225_43
  simp [e_tv, e_ev, e_sv, e_b1, e_b2, x_o1, x_o2, r_O4, l]
theorem h_225l {d : Nat} {z : Int} (hd : d < 8) : ∀ (m i : Nat) (M : EM), i + m = 120 → ∃ M', E_V 225 43 [192, (d : Int), z, (i : Int)] M = some (M 197 d, M') := by
  intro m
  induction m with
  | zero =>
    intro i M hm
    have e : i = 120 := by omega
    subst e
    have b : 0 ≤ (d : Int) ∧ (d : Int) ≤ 7 := by omega
    have l := (r_isD (d : Int) M b).2.2.1
    rw [Int.toNat_natCast] at l
    exact ⟨M, h_225e l⟩
  | succ m ih =>
    intro i M hm
    have q : (i : Int) < 120 := by omega
    have b1 : 0 ≤ 1202 + (i : Int) ∧ 1202 + (i : Int) < 1330 := by omega
    have b2 : 0 ≤ 120 * (d : Int) + (i : Int) ∧ 120 * (d : Int) + (i : Int) < 960 := by omega
    have st := fun v => r_stw (i := 1202 + (i : Int)) (v := v) (M := M) b1.1 b1.2
    have l := r_rdE (M := M) b2.1 b2.2
    have w : e_w (1202 + (i : Int)) = 1202 + (i : Int) ∧ e_w (120 * (d : Int)) = 120 * (d : Int) ∧ e_w (120 * (d : Int) + (i : Int)) = 120 * (d : Int) + (i : Int) ∧ e_w ((i : Int) + 1) = ((i + 1 : Nat) : Int) := by
      clear st l ih
      refine ⟨?_, ?_, ?_, (a_w_id (by omega) (by omega)).trans (by omega)⟩ <;> exact a_w_id (by omega) (by omega)
    obtain ⟨M', k⟩ := ih (i + 1) (e_up M 193 (1202 + (i : Int)).toNat (M 198 (120 * (d : Int) + (i : Int)).toNat)) (by omega)
    rw [c_up_n (fun h => absurd h.1 (by decide))] at k
    exact ⟨M', (h_225s q w.1 w.2.1 w.2.2.1 w.2.2.2 l st).trans k⟩
theorem h_225n {d z : Int} {M : EM} (k : E_C 189 [192, d, -1] M = some (z, M)) (hz : z ≠ 0) : E_C 225 [192, d] M = some (z, M) := by
  rw [r_ent (show e_rok 225 [192, d] = true from decide_eq_true r_ref)]
  show e_tv E_C (E_V 225) e_t225_0 [192, d, 0, 0] M = _
  unfold e_t225_0
  simp [e_tv, e_ev, e_sv, e_b1, e_b2, x_o1, x_o2, k, hz]
theorem h_225y {d a c : Int} {M : EM} {o : EO} (k : E_C 189 [192, d, -1] M = some (0, M)) (l1 : ∀ M', M' 197 = M 197 → e_op 60 [197, d] M' = some a) (l2 : ∀ M', M' 196 = M 196 → e_op 60 [196, d] M' = some c) (g : E_V 225 43 [192, d, 0, 0] (e_up (e_up M 193 1200 a) 193 1201 c) = o) : E_C 225 [192, d] M = o := by
  have s1 : ∀ v M, e_st 100 [193, 1200, v] M = some (e_up M 193 1200 v) := fun v M => r_stw (i := 1200) (by decide) (by decide)
  have s2 : ∀ v M, e_st 100 [193, 1201, v] M = some (e_up M 193 1201 v) := fun v M => r_stw (i := 1201) (by decide) (by decide)
  have e1 := l1 M rfl
  have e2 := l2 (e_up M 193 1200 a) (by funext j; exact c_up_n (fun h => absurd h.1 (by decide)))
  rw [r_ent (show e_rok 225 [192, d] = true from decide_eq_true r_ref)]
  show e_tv E_C (E_V 225) e_t225_0 [192, d, 0, 0] M = _
  unfold e_t225_0
  simp [e_tv, e_ev, e_sv, e_b1, e_b2, x_o1, x_o2, r_O0, r_O3, r_O4, k, e1, e2, s1, s2, g]
theorem h_sky {d r1 r2 : Int} {M M1 M2 : EM} (hS : h_S M) (hfr : ∀ id i, 192 ≤ id → M1 id i = M id i) (hsh : ∀ m : Nat, m < 8 → M1 (146 + 2 * m) 5 = M (146 + 2 * m) 5) (k1 : E_C 121 [8, d] M = some (r1, M1)) (k2 : E_C 225 [192, d] M1 = some (r2, M2)) : r1 = r2 ∧ True := by
  refine ⟨?_, trivial⟩
  have k3 := h_189 (d := d) (w := -1) (M := M1) (by decide)
  have eno : h_no M1 d (-1) = h_no M d (-1) := by
    unfold h_no
    rw [hfr 195 _ (by decide), hfr 196 _ (by decide)]
  rw [eno] at k3
  by_cases q : h_no M d (-1) = 0
  · obtain ⟨hd, kept⟩ := h_no2 q
    obtain ⟨m, rfl⟩ : ∃ m : Nat, d = m := ⟨d.toNat, by omega⟩
    rw [Int.toNat_natCast] at kept
    have m8 : m < 8 := by omega
    have hh := (h_gr145 m8).2
    obtain ⟨c0, c1⟩ := h_ref (w := -1) hS hd
    rw [q, Int.toNat_natCast] at c1
    rw [Int.toNat_natCast] at c0
    rw [q] at k3
    have a1 := h_121i hh c0 c1 k1
    rw [Int.toNat_natCast, hsh m m8] at a1
    have e5 : M (146 + 2 * m) 5 = M 197 m := by
      rcases hS m m8 with ⟨a, -⟩ | ⟨a, -⟩ | ⟨a, -, -, -, e5, -⟩
      · omega
      · omega
      · exact e5
    have b : 0 ≤ (m : Int) ∧ (m : Int) ≤ 7 := by omega
    have l1 : ∀ M', M' 197 = M1 197 → e_op 60 [197, (m : Int)] M' = some (M1 197 m) := fun M' e => by
      have l := (r_isD (m : Int) M' b).2.2.1
      rw [Int.toNat_natCast, e] at l
      exact l
    have l2 : ∀ M', M' 196 = M1 196 → e_op 60 [196, (m : Int)] M' = some (M1 196 m) := fun M' e => by
      have l := (r_isD (m : Int) M' b).2.1
      rw [Int.toNat_natCast, e] at l
      exact l
    obtain ⟨M', g⟩ := h_225l (z := 0) m8 120 0 (e_up (e_up M1 193 1200 (M1 197 m)) 193 1201 (M1 196 m)) (by decide)
    rw [c_up_n (fun h => absurd h.1 (by decide)), c_up_n (fun h => absurd h.1 (by decide))] at g
    have e3 := Prod.mk.inj (Option.some.inj (k2.symm.trans (h_225y k3 l1 l2 g)))
    rw [a1, e3.1, e5]
    exact (hfr 197 m (by decide)).symm
  · have cc : ∃ x, E_C 154 [8, d] M = some (x, M) ∧ E_C 156 [x, -1] M = some (h_no M d (-1), M) := by
      by_cases hd : 0 ≤ d ∧ d < 8
      · exact ⟨_, h_ref hS hd⟩
      · obtain ⟨a, b, c⟩ := h_ref1 (w := -1) (M := M) hd
        exact ⟨-1, a, by rw [c]; exact b⟩
    obtain ⟨x, c0, c1⟩ := cc
    have e1 := Prod.mk.inj (Option.some.inj (k1.symm.trans (h_121n c0 c1 q)))
    have e3 := Prod.mk.inj (Option.some.inj (k2.symm.trans (h_225n k3 q)))
    rw [e1.1, e3.1]
theorem h_sh5 {W : AW} {M M' : EM} (h : h_av h_KS W = true) (hf : a_fr W M M') : ∀ m : Nat, m < 8 → M' (146 + 2 * m) 5 = M (146 + 2 * m) 5 := fun m hm => by
  have mem : (146 + 2 * m, 4, 5) ∈ h_KS := List.mem_append.mpr (Or.inr (List.mem_flatMap.mpr ⟨m, List.mem_range.mpr hm, by simp⟩))
  exact h_av_ok h hf _ mem 5 (Nat.le_succ 4) (Nat.le_refl 5)
end
section
/-! dead, lies: the two answers; what is told of CELLS stays related -/
theorem h_150 {p k : Int} {M : EM} (h : 0 ≤ p ∧ p < 40) : E_C 150 [8, p, k] M = some (if M 11 p.toNat = k then 1 else 0, M) := by
  have t : ∀ M, E_C 146 [11, p] M = some (M 11 p.toNat, M) := fun M => p_at (a := 11) (n := 40) (by decide +kernel) ⟨h.1, by omega⟩ M
  have s0 : E_C 150 [8, p, k] M = e_tv E_C (E_V 150) e_t150_0 [8, p, k] M := r_ent (u := 150) (as := [8, p, k]) (M := M) (decide_eq_true c_this)
  rw [s0]
  unfold e_t150_0
  by_cases c : M 11 p.toNat = k
  · rw [if_pos c]
    simp [e_tv, e_ev, e_sv, e_b1, e_b2, x_o1, x_o2, p_704, w_H0, w_P1, t, c]
  · rw [if_neg c]
    simp [e_tv, e_ev, e_sv, e_b1, e_b2, x_o1, x_o2, p_704, w_H0, w_P1, t, c]
theorem h_108a {p v : Int} {M : EM} (c : ¬ (0 ≤ p ∧ p < M 10 0)) : E_C 108 [8, p, v] M = some (-1, M) := by
  have i : E_C 149 [8, p] M = some (0, M) := h_149.trans (congrArg some (congrArg (·, M) (if_neg c)))
  have s0 : E_C 108 [8, p, v] M = e_tv E_C (E_V 108) e_t108_0 [8, p, v, 0, 0] M := r_ent (u := 108) (as := [8, p, v]) (M := M) (decide_eq_true c_this)
  rw [s0]
  unfold e_t108_0
  simp [e_tv, e_ev, e_sv, e_b1, e_b2, x_o1, x_o2, i]
theorem h_108b {p v : Int} {M : EM} (c : 0 ≤ p ∧ p < M 10 0) (h : p < 40) (k : M 11 p.toNat ≠ 0) : E_C 108 [8, p, v] M = some (-3, M) := by
  have i : E_C 149 [8, p] M = some (1, M) := h_149.trans (congrArg some (congrArg (·, M) (if_pos c)))
  have j : E_C 150 [8, p, 0] M = some (0, M) := (h_150 ⟨c.1, h⟩).trans (congrArg some (congrArg (·, M) (if_neg k)))
  have s0 : E_C 108 [8, p, v] M = e_tv E_C (E_V 108) e_t108_0 [8, p, v, 0, 0] M := r_ent (u := 108) (as := [8, p, v]) (M := M) (decide_eq_true c_this)
  rw [s0]
  unfold e_t108_0
  simp [e_tv, e_ev, e_sv, e_b1, e_b2, x_o1, x_o2, i, j]
theorem h_108c {p v : Int} {M : EM} (c : 0 ≤ p ∧ p < M 10 0) (h : p < 40) (k : M 11 p.toNat = 0) (hv : v = 0 ∨ v = 1) : E_C 108 [8, p, v] M = some (if M 22 p.toNat = v then 0 else 1, e_up M 22 p.toNat v) := by
  have i : E_C 149 [8, p] M = some (1, M) := h_149.trans (congrArg some (congrArg (·, M) (if_pos c)))
  have j : E_C 150 [8, p, 0] M = some (1, M) := (h_150 ⟨c.1, h⟩).trans (congrArg some (congrArg (·, M) (if_pos k)))
  have t : ∀ M, E_C 146 [22, p] M = some (M 22 p.toNat, M) := fun M => p_at (a := 22) (n := 40) (by decide +kernel) ⟨c.1, by omega⟩ M
  have l : ∀ v M, E_C 147 [22, p, v] M = some (0, e_up M 22 p.toNat v) := fun v M => p_layd (a := 22) (n := 40) (by decide +kernel) ⟨c.1, by omega⟩ M
  have s0 : E_C 108 [8, p, v] M = e_tv E_C (E_V 108) e_t108_0 [8, p, v, 0, 0] M := r_ent (u := 108) (as := [8, p, v]) (M := M) (decide_eq_true c_this)
  rw [s0]
  unfold e_t108_0
  rcases hv with hv | hv
  · subst hv
    by_cases e : M 22 p.toNat = 0
    · rw [if_pos e]
      simp [e_tv, e_ev, e_sv, e_b1, e_b2, x_o1, x_o2, p_704, w_H1, w_C3, i, j, t, l, e]
    · rw [if_neg e]
      simp [e_tv, e_ev, e_sv, e_b1, e_b2, x_o1, x_o2, p_704, w_H1, w_C3, i, j, t, l, e]
  · subst hv
    by_cases e : M 22 p.toNat = 1
    · rw [if_pos e]
      simp [e_tv, e_ev, e_sv, e_b1, e_b2, x_o1, x_o2, p_704, w_H1, w_C3, i, j, t, l, e]
    · rw [if_neg e]
      simp [e_tv, e_ev, e_sv, e_b1, e_b2, x_o1, x_o2, p_704, w_H1, w_C3, i, j, t, l, e]
theorem h_197a {p v : Int} {M : EM} (ip : E_C 169 [192, p] M = some (0, M)) : E_C 197 [192, p, v] M = some (-1, M) := by
  rw [r_ent (show e_rok 197 [192, p, v] = true from decide_eq_true r_ref)]
  show e_tv E_C (E_V 197) e_t197_0 [192, p, v, 0] M = _
  unfold e_t197_0
  simp [e_tv, e_ev, e_sv, e_b1, e_b2, x_o1, x_o2, ip]
theorem h_197b {p v k : Int} {M : EM} (ip : E_C 169 [192, p] M = some (1, M)) (kk : E_C 170 [192, p] M = some (k, M)) (hk : k ≠ 0) : E_C 197 [192, p, v] M = some (-3, M) := by
  rw [r_ent (show e_rok 197 [192, p, v] = true from decide_eq_true r_ref)]
  show e_tv E_C (E_V 197) e_t197_0 [192, p, v, 0] M = _
  unfold e_t197_0
  simp [e_tv, e_ev, e_sv, e_b1, e_b2, x_o1, x_o2, ip, kk, hk]
theorem h_197c {p v z : Int} {M : EM} (h : 0 ≤ p ∧ p < 40) (ip : E_C 169 [192, p] M = some (1, M)) (kk : E_C 170 [192, p] M = some (0, M)) (hz : r_G M (28 * p + 19) = z) (h1 : z = 0 ∨ z = 1) (hv : v = 0 ∨ v = 1) : E_C 197 [192, p, v] M = some (if z = v then 0 else 1, e_up M 193 (28 * p + 19).toNat v) := by
  have w1 : e_w (28 * p) = 28 * p := a_w_id (by omega) (by omega)
  have w2 : e_w (28 * p + 19) = 28 * p + 19 := a_w_id (by omega) (by omega)
  have l1 : e_op 60 [193, 28 * p + 19] M = some z := (r_rd (by omega) (by omega)).trans (congrArg some hz)
  have st := fun v => r_stw (i := 28 * p + 19) (v := v) (M := M) (by omega) (by omega)
  rw [r_ent (show e_rok 197 [192, p, v] = true from decide_eq_true r_ref)]
  show e_tv E_C (E_V 197) e_t197_0 [192, p, v, 0] M = _
  unfold e_t197_0
  rcases hv with hv | hv
  · subst hv
    rcases h1 with h1 | h1
    · subst h1
      simp [e_tv, e_ev, e_sv, e_b1, e_b2, x_o1, x_o2, r_O0, ip, kk, w1, w2, l1, st]
    · subst h1
      simp [e_tv, e_ev, e_sv, e_b1, e_b2, x_o1, x_o2, r_O0, ip, kk, w1, w2, l1, st]
  · subst hv
    rcases h1 with h1 | h1
    · subst h1
      simp [e_tv, e_ev, e_sv, e_b1, e_b2, x_o1, x_o2, r_O0, ip, kk, w1, w2, l1, st]
    · subst h1
      simp [e_tv, e_ev, e_sv, e_b1, e_b2, x_o1, x_o2, r_O0, ip, kk, w1, w2, l1, st]
theorem h_deads {p v r1 r2 : Int} {M M1 M2 : EM} (J1 : r_J M1) (hB : h_B M 0 (r_G M)) (hC : h_C M 0 (r_G M)) (hv : v = 0 ∨ v = 1) (hfr : ∀ i, M1 193 i = M 193 i) (k1 : E_C 108 [8, p, v] M = some (r1, M1)) (k2 : E_C 197 [192, p, v] M1 = some (r2, M2)) : r1 = r2 ∧ h_C M2 0 (r_G M2) := by
  have eG1 : r_G M1 = r_G M := funext fun i => hfr _
  have hW1 := (r_J_E J1).2.1
  have h10 := hB.1
  by_cases c : 0 ≤ p ∧ p < M 10 0
  · have cg : 0 ≤ p ∧ p < r_G M1 1198 := by rw [eG1, ← h10]; exact c
    have h40 := r_40 hW1 cg
    obtain ⟨q, hq⟩ : ∃ q : Nat, p = q := ⟨p.toNat, by omega⟩
    subst hq
    have hqn : (q : Int) < r_G M 1198 := by rw [← h10]; exact c.2
    have b := hB.2.2 q hqn
    have cq := hC q hqn
    have ip := r_ip1 hW1 cg
    have kk : E_C 170 [192, (q : Int)] M1 = some (r_G M1 (28 * (q : Int)), M1) := r_kind h40
    rw [eG1] at kk
    have kq : M 11 (q : Int).toNat = r_G M (28 * (q : Int)) := b.1
    by_cases k0 : r_G M (28 * (q : Int)) = 0
    · obtain ⟨e1, e2⟩ := Prod.mk.inj (Option.some.inj (k1.symm.trans (h_108c c h40.2 (kq.trans k0) hv)))
      obtain ⟨d1, ⟨d2, d3⟩, d4⟩ := cq k0
      rw [k0] at kk
      have hz : r_G M1 (28 * (q : Int) + 19) = r_G M (28 * (q : Int) + 19) := congrFun eG1 _
      obtain ⟨f1, f2⟩ := Prod.mk.inj (Option.some.inj (k2.symm.trans (h_197c h40 ip kk hz d3 hv)))
      refine ⟨?_, ?_⟩
      · rw [e1, f1, show M 22 (q : Int).toNat = r_G M (28 * (q : Int) + 19) from d2]
      · have g2 : ∀ x, 0 ≤ x → x ≠ 28 * (q : Int) + 19 → r_G M2 x = r_G M x := fun x x0 hx => by
          rw [f2]
          show e_up M1 193 _ v 193 x.toNat = _
          rw [c_up_n (by omega)]
          exact hfr _
        have m2 : ∀ id k, id ≠ 193 → ¬ (id = 22 ∧ k = q) → M2 id k = M id k := fun id k h1 h2 => by
          rw [f2, c_up_n (by omega), e2]
          exact c_up_n (by rw [Int.toNat_natCast]; exact h2)
        intro t ht
        rw [g2 1198 (by decide) (by omega)] at ht
        by_cases ct : t = q
        · subst ct
          intro _
          have gt : r_G M2 (28 * (t : Int) + 19) = v := by rw [f2]; exact c_up_s
          have mt : M2 22 t = v := by rw [f2, c_up_n (by omega), e2]; exact c_up_s
          have hs : ∀ d : Int, 15 ≤ d → d ≤ 24 → d ≠ 19 → r_G M2 (28 * (t : Int) + d) = r_G M (28 * (t : Int) + d) := fun d d0 d1 d9 => g2 _ (by omega) (by omega)
          refine ⟨fun a ha => ?_, ?_, ?_⟩
          · have := hs (15 + (a : Int)) (by omega) (by omega) (by omega)
            rw [show 28 * (t : Int) + (15 + (a : Int)) = 28 * (t : Int) + 15 + (a : Int) by omega] at this
            rw [this, m2 _ _ (by decide) (by omega)]
            exact d1 a ha
          · rw [gt, mt]
            exact ⟨rfl, hv⟩
          · rw [hs 20 (by decide) (by decide) (by decide), hs 21 (by decide) (by decide) (by decide), hs 22 (by decide) (by decide) (by decide), hs 23 (by decide) (by decide) (by decide), hs 24 (by decide) (by decide) (by decide), m2 (23 + 0) _ (by decide) (by omega), m2 (24 + 0) _ (by decide) (by omega)]
            exact d4
        · exact h_Cq_cg (hC t ht) (g2 _ (by omega) (by omega)) (fun d d0 d1 => g2 _ (by omega) (by omega)) (fun a _ => m2 _ _ (by decide) (by omega)) (m2 _ _ (by decide) (by omega)) (m2 _ _ (by decide) (by omega)) (m2 _ _ (by decide) (by omega))
    · obtain ⟨e1, e2⟩ := Prod.mk.inj (Option.some.inj (k1.symm.trans (h_108b c h40.2 (fun e => k0 (kq.symm.trans e)))))
      obtain ⟨f1, f2⟩ := Prod.mk.inj (Option.some.inj (k2.symm.trans (h_197b ip kk k0)))
      refine ⟨e1.trans f1.symm, ?_⟩
      rw [f2, e2]
      exact hC
  · obtain ⟨e1, e2⟩ := Prod.mk.inj (Option.some.inj (k1.symm.trans (h_108a c)))
    have cg : ¬ (0 ≤ p ∧ p < r_G M1 1198) := by rw [eG1, ← h10]; exact c
    obtain ⟨f1, f2⟩ := Prod.mk.inj (Option.some.inj (k2.symm.trans (h_197a (r_ip0 hW1 cg))))
    refine ⟨e1.trans f1.symm, ?_⟩
    rw [f2, e2]
    exact hC
end
section
/-! lies: the two answers; what is told of CELLS stays related -/
theorem h_153 {v : Int} {M : EM} (hv : v ≤ 2147483647) : E_C 153 [v] M = some (if 0 ≤ v ∧ v / 100 < 20 ∧ v % 100 < 12 then 1 else 0, M) := by
  rw [r_ent (show e_rok 153 [v] = true from rfl)]
  show e_tv E_C (E_V 153) e_t153_0 [v] M = _
  unfold e_t153_0
  rcases x_le 0 v with ⟨c0, c0_n⟩ | ⟨c0, c0_n⟩
  · obtain ⟨e1, e2⟩ := r_sq (v := v) (c := 100) ⟨c0, hv⟩ (by decide)
    rcases x_lt (v / 100) 20 with ⟨c1, c1_n⟩ | ⟨c1, c1_n⟩
    · rcases x_lt (v % 100) 12 with ⟨c2, c2_n⟩ | ⟨c2, c2_n⟩
      · rw [if_pos ⟨c0, c1, c2⟩]
        simp [e_tv, e_ev, e_sv, e_b1, e_b2, x_o1, x_o2, c0, c0_n, e1, e2, c1, c1_n, c2, c2_n]
      · rw [if_neg (fun h => c2 h.2.2)]
        simp [e_tv, e_ev, e_sv, e_b1, e_b2, x_o1, x_o2, c0, c0_n, e1, e2, c1, c1_n, c2, c2_n]
    · rw [if_neg (fun h => c1 h.2.1)]
      simp [e_tv, e_ev, e_sv, e_b1, e_b2, x_o1, x_o2, c0, c0_n, e1, c1, c1_n]
  · rw [if_neg (fun h => c0 h.1)]
    simp [e_tv, e_ev, e_sv, e_b1, e_b2, x_o1, x_o2, c0, c0_n]
def h_Lq (f t : Int) : Prop := (0 ≤ f ∧ f / 100 < 20 ∧ f % 100 < 12) ∧ (0 ≤ t ∧ t / 100 < 20 ∧ t % 100 < 12) ∧ f / 100 ≤ t / 100 ∧ f % 100 ≤ t % 100
theorem h_117s {p f t : Int} {M : EM} : E_C 117 [8, p, f, t] M = e_tv E_C (E_V 117) e_t117_0 [8, p, f, t] M := r_ent (u := 117) (as := [8, p, f, t]) (M := M) (decide_eq_true c_this)
/-- refused alike: class -/
theorem h_117a {p f t i : Int} {M : EM} (ip : E_C 149 [8, p] M = some (i, M)) (hf : f ≤ 2147483647) (ht : t ≤ 2147483647) (h : i = 0 ∨ ¬ h_Lq f t) : E_C 117 [8, p, f, t] M = some (-1, M) := by
  rw [h_117s]
  unfold e_t117_0
  by_cases c : i = 0
  · simp [e_tv, e_ev, e_sv, e_b1, e_b2, x_o1, x_o2, ip, c]
  · have k1 := h_153 (M := M) hf
    have k2 := h_153 (M := M) ht
    have h := h.resolve_left c
    by_cases q1 : 0 ≤ f ∧ f / 100 < 20 ∧ f % 100 < 12
    · rw [if_pos q1] at k1
      obtain ⟨e1, e2⟩ := r_sq (v := f) (c := 100) ⟨q1.1, hf⟩ (by decide)
      by_cases q2 : 0 ≤ t ∧ t / 100 < 20 ∧ t % 100 < 12
      · rw [if_pos q2] at k2
        obtain ⟨e3, e4⟩ := r_sq (v := t) (c := 100) ⟨q2.1, ht⟩ (by decide)
        rcases x_le (f / 100) (t / 100) with ⟨q3, q3_n⟩ | ⟨q3, q3_n⟩
        · have q4 : t % 100 < f % 100 := by
            refine Int.not_le.mp fun e => h ⟨q1, q2, q3, e⟩
          simp [e_tv, e_ev, e_sv, e_b1, e_b2, x_o1, x_o2, ip, c, k1, k2, e1, e2, e3, e4, q3, q3_n, q4]
        · simp [e_tv, e_ev, e_sv, e_b1, e_b2, x_o1, x_o2, ip, c, k1, k2, e1, e3, q3, q3_n]
      · rw [if_neg q2] at k2
        simp [e_tv, e_ev, e_sv, e_b1, e_b2, x_o1, x_o2, ip, c, k1, k2]
    · rw [if_neg q1] at k1
      simp [e_tv, e_ev, e_sv, e_b1, e_b2, x_o1, x_o2, ip, c, k1]
theorem h_219a {p f t i : Int} {M : EM} (ip : E_C 169 [192, p] M = some (i, M)) (hf : f ≤ 2147483647) (ht : t ≤ 2147483647) (h : i = 0 ∨ ¬ h_Lq f t) : E_C 219 [192, p, f, t] M = some (-1, M) := by
  rw [r_ent (show e_rok 219 [192, p, f, t] = true from decide_eq_true r_ref)]
  show e_tv E_C (E_V 219) e_t219_0 [192, p, f, t, 0] M = _
  unfold e_t219_0
  by_cases c : i = 0
  · simp [e_tv, e_ev, e_sv, e_b1, e_b2, x_o1, x_o2, ip, c]
  · have k1 := r_isSquare (M := M) hf
    have k2 := r_isSquare (M := M) ht
    have h := h.resolve_left c
    by_cases q1 : 0 ≤ f ∧ f / 100 < 20 ∧ f % 100 < 12
    · rw [if_pos q1] at k1
      obtain ⟨e1, e2⟩ := r_sq (v := f) (c := 100) ⟨q1.1, hf⟩ (by decide)
      by_cases q2 : 0 ≤ t ∧ t / 100 < 20 ∧ t % 100 < 12
      · rw [if_pos q2] at k2
        obtain ⟨e3, e4⟩ := r_sq (v := t) (c := 100) ⟨q2.1, ht⟩ (by decide)
        rcases x_le (f / 100) (t / 100) with ⟨q3, q3_n⟩ | ⟨q3, q3_n⟩
        · have q4 : t % 100 < f % 100 := by
            refine Int.not_le.mp fun e => h ⟨q1, q2, q3, e⟩
          simp [e_tv, e_ev, e_sv, e_b1, e_b2, x_o1, x_o2, ip, c, k1, k2, e1, e2, e3, e4, q3, q3_n, q4]
        · simp [e_tv, e_ev, e_sv, e_b1, e_b2, x_o1, x_o2, ip, c, k1, k2, e1, e3, q3, q3_n]
      · rw [if_neg q2] at k2
        simp [e_tv, e_ev, e_sv, e_b1, e_b2, x_o1, x_o2, ip, c, k1, k2]
    · rw [if_neg q1] at k1
      simp [e_tv, e_ev, e_sv, e_b1, e_b2, x_o1, x_o2, ip, c, k1]
theorem h_117b {p f t : Int} {M : EM} (ip : E_C 149 [8, p] M = some (1, M)) (j : E_C 150 [8, p, 0] M = some (0, M)) (hf : f ≤ 2147483647) (ht : t ≤ 2147483647) (h : h_Lq f t) : E_C 117 [8, p, f, t] M = some (-3, M) := by
  obtain ⟨q1, q2, q3, q4⟩ := h
  have k1 := h_153 (M := M) hf
  have k2 := h_153 (M := M) ht
  rw [if_pos q1] at k1
  rw [if_pos q2] at k2
  obtain ⟨e1, e2⟩ := r_sq (v := f) (c := 100) ⟨q1.1, hf⟩ (by decide)
  obtain ⟨e3, e4⟩ := r_sq (v := t) (c := 100) ⟨q2.1, ht⟩ (by decide)
  have q5 : ¬ t % 100 < f % 100 := Int.not_lt.mpr q4
  rw [h_117s]
  unfold e_t117_0
  simp [e_tv, e_ev, e_sv, e_b1, e_b2, x_o1, x_o2, ip, j, k1, k2, e1, e2, e3, e4, q3, q4, q5]
theorem h_219b {p f t k : Int} {M : EM} (ip : E_C 169 [192, p] M = some (1, M)) (kk : E_C 170 [192, p] M = some (k, M)) (hk : k ≠ 0) (hf : f ≤ 2147483647) (ht : t ≤ 2147483647) (h : h_Lq f t) : E_C 219 [192, p, f, t] M = some (-3, M) := by
  obtain ⟨q1, q2, q3, q4⟩ := h
  have k1 := r_isSquare (M := M) hf
  have k2 := r_isSquare (M := M) ht
  rw [if_pos q1] at k1
  rw [if_pos q2] at k2
  obtain ⟨e1, e2⟩ := r_sq (v := f) (c := 100) ⟨q1.1, hf⟩ (by decide)
  obtain ⟨e3, e4⟩ := r_sq (v := t) (c := 100) ⟨q2.1, ht⟩ (by decide)
  have q5 : ¬ t % 100 < f % 100 := Int.not_lt.mpr q4
  rw [r_ent (show e_rok 219 [192, p, f, t] = true from decide_eq_true r_ref)]
  show e_tv E_C (E_V 219) e_t219_0 [192, p, f, t, 0] M = _
  unfold e_t219_0
  simp [e_tv, e_ev, e_sv, e_b1, e_b2, x_o1, x_o2, ip, kk, hk, k1, k2, e1, e2, e3, e4, q3, q4, q5]
theorem h_117c {p f t : Int} {M : EM} (hp : 0 ≤ p ∧ p < 40) (ip : E_C 149 [8, p] M = some (1, M)) (j : E_C 150 [8, p, 0] M = some (1, M)) (hf : f ≤ 2147483647) (ht : t ≤ 2147483647) (h : h_Lq f t) : E_C 117 [8, p, f, t] M = some (e_w (e_w (e_w (t / 100 - f / 100) + 1) * e_w (e_w (t % 100 - f % 100) + 1)), e_up (e_up M 23 p.toNat f) 24 p.toNat t) := by
  obtain ⟨q1, q2, q3, q4⟩ := h
  have k1 := h_153 (M := M) hf
  have k2 := h_153 (M := M) ht
  rw [if_pos q1] at k1
  rw [if_pos q2] at k2
  obtain ⟨e1, e2⟩ := r_sq (v := f) (c := 100) ⟨q1.1, hf⟩ (by decide)
  obtain ⟨e3, e4⟩ := r_sq (v := t) (c := 100) ⟨q2.1, ht⟩ (by decide)
  have q5 : ¬ t % 100 < f % 100 := Int.not_lt.mpr q4
  have l1 : ∀ v M, E_C 147 [23, p, v] M = some (0, e_up M 23 p.toNat v) := fun v M => p_layd (a := 23) (n := 40) (by decide +kernel) ⟨hp.1, by omega⟩ M
  have l2 : ∀ v M, E_C 147 [24, p, v] M = some (0, e_up M 24 p.toNat v) := fun v M => p_layd (a := 24) (n := 40) (by decide +kernel) ⟨hp.1, by omega⟩ M
  rw [h_117s]
  unfold e_t117_0
  simp [e_tv, e_ev, e_sv, e_b1, e_b2, x_o1, x_o2, p_704, w_H1, w_C4, w_C5, ip, j, k1, k2, e1, e2, e3, e4, q3, q4, q5, l1, l2]
theorem h_219c {p f t : Int} {M : EM} (h40 : 0 ≤ p ∧ p < 40) (ip : E_C 169 [192, p] M = some (1, M)) (kk : E_C 170 [192, p] M = some (0, M)) (hf : f ≤ 2147483647) (ht : t ≤ 2147483647) (h : h_Lq f t) : E_C 219 [192, p, f, t] M = some (e_w (e_w (e_w (t / 100 - f / 100) + 1) * e_w (e_w (t % 100 - f % 100) + 1)), r_lay5 M p (f / 100) (f % 100) (t / 100) (t % 100)) := by
  obtain ⟨q1, q2, q3, q4'⟩ := h
  have k1 := r_isSquare (M := M) hf
  have k2 := r_isSquare (M := M) ht
  rw [if_pos q1] at k1
  rw [if_pos q2] at k2
  obtain ⟨e1, e2⟩ := r_sq (v := f) (c := 100) ⟨q1.1, hf⟩ (by decide)
  obtain ⟨e3, e4⟩ := r_sq (v := t) (c := 100) ⟨q2.1, ht⟩ (by decide)
  have q4 : ¬ t % 100 < f % 100 := Int.not_lt.mpr q4'
  have w1 : e_w (28 * p) = 28 * p := a_w_id (by omega) (by omega)
  have w2 : e_w (28 * p + 20) = 28 * p + 20 := a_w_id (by omega) (by omega)
  have v1 : e_w (28 * p + 20 + 1) = 28 * p + 20 + 1 := a_w_id (by omega) (by omega)
  have v2 : e_w (28 * p + 20 + 2) = 28 * p + 20 + 2 := a_w_id (by omega) (by omega)
  have v3 : e_w (28 * p + 20 + 3) = 28 * p + 20 + 3 := a_w_id (by omega) (by omega)
  have v4 : e_w (28 * p + 20 + 4) = 28 * p + 20 + 4 := a_w_id (by omega) (by omega)
  have s0 := fun v M => r_stw (i := 28 * p + 20) (v := v) (M := M) (by omega) (by omega)
  have s1 := fun v M => r_stw (i := 28 * p + 20 + 1) (v := v) (M := M) (by omega) (by omega)
  have s2 := fun v M => r_stw (i := 28 * p + 20 + 2) (v := v) (M := M) (by omega) (by omega)
  have s3 := fun v M => r_stw (i := 28 * p + 20 + 3) (v := v) (M := M) (by omega) (by omega)
  have s4 := fun v M => r_stw (i := 28 * p + 20 + 4) (v := v) (M := M) (by omega) (by omega)
  have d1 := fun M => r_rd (i := 28 * p + 20 + 1) (M := M) (by omega) (by omega)
  have d2 := fun M => r_rd (i := 28 * p + 20 + 2) (M := M) (by omega) (by omega)
  have d3 := fun M => r_rd (i := 28 * p + 20 + 3) (M := M) (by omega) (by omega)
  have d4 := fun M => r_rd (i := 28 * p + 20 + 4) (M := M) (by omega) (by omega)
  have hg := r_lay5_G (M := M) (p := p) (a := f / 100) (b := f % 100) (c := t / 100) (d := t % 100) h40
  obtain ⟨g0, g1, g2, g3, g4, -⟩ := hg
  unfold r_lay5 at g1 g2 g3 g4 ⊢
  rw [r_ent (show e_rok 219 [192, p, f, t] = true from decide_eq_true r_ref)]
  show e_tv E_C (E_V 219) e_t219_0 [192, p, f, t, 0] M = _
  unfold e_t219_0
  simp [e_tv, e_ev, e_sv, e_b1, e_b2, x_o1, x_o2, r_O0, ip, kk, k1, k2, e1, e2, e3, e4, q3, q4, w1, w2, v1, v2, v3, v4, s0, s1, s2, s3, s4, d1, d2, d3, d4, g1, g2, g3, g4]
end
