/-! PUSH of lines, CURRENTS summed, BEST, by the class: exactly -/
theorem cu_gs_cg {G G' v v' : Nat → Int} {y : Int} : ∀ i, (∀ k, k < i → G' k = G k ∧ v' k = v k) → cu_gs G' v' y i = cu_gs G v y i := by
  intro i
  induction i with
  | zero => intro _; rfl
  | succ i ih =>
    intro h
    show cu_gs G' v' y i + (if G' i = y then v' i else 0) = cu_gs G v y i + (if G i = y then v i else 0)
    rw [ih (fun k hk => h k (by omega)), (h i (by omega)).1, (h i (by omega)).2]
theorem cu_R_cg {G G' v v' : Nat → Int} {D D' : Nat → Int} {i : Nat} (h : ∀ k, k < i → G' k = G k ∧ v' k = v k) : ∀ m, (∀ y, y < m → D' y = D y) → cu_R G' v' D' i m = cu_R G v D i m := by
  intro m
  induction m with
  | zero => intro _; rfl
  | succ m ih =>
    intro hd
    show cu_R G' v' D' i m + cu_cl (D' m) (cu_gs G' v' m i) = cu_R G v D i m + cu_cl (D m) (cu_gs G v m i)
    rw [ih (fun y hy => hd y (by omega)), hd m (by omega), cu_gs_cg i h]
theorem bx_27 {M : EM} {l0 base x5 : Int} {a n og gr b : Nat} {G : Nat → Int} (ha : a + n ≤ 40) (hg : og + gr ≤ 40) (hb : base = b) (hb4 : b + 40 ≤ 4040) (hn8 : n ≤ 8) (hgr8 : gr ≤ 8) (h5 : x5 = ((a + n : Nat) : Int)) (hgp : cu_gp G n gr) (hG : ∀ k, k < n → M 173 (a + k) = (og : Int) + G k) (hv : ∀ k, k < n → -60 ≤ M 179 (b + (a + k)) ∧ M 179 (b + (a + k)) ≤ 60) : ∀ (d i : Nat) (x3 x4 x6 : Int), x6 = ((a + i : Nat) : Int) → i + d = n → (x3, x4) = cu_st n G (fun k => M 179 (b + (a + k))) (fun y => M 172 (og + y)) i → E_V 15 27 [170, l0, base, x3, x4, x5, x6] M = some ((cu_st n G (fun k => M 179 (b + (a + k))) (fun y => M 172 (og + y)) n).1, M) := by
  intro d
  induction d with
  | zero =>
    intro i x3 x4 x6 hx hi hst
    have e : i = n := by omega
    subst e
    rw [← hst]
    have q : ¬ (x6 < x5) := by omega
    rw [E_V_eq]
    show e_tv E_C (E_V 15) e_t15_27 [170, l0, base, x3, x4, x5, x6] M = _
    unfold e_t15_27
    simp [e_tv, e_ev, e_sv, e_b1, e_b2, x_o1, x_o2, q]
  | succ d ih =>
    intro i x3 x4 x6 hx hi hst
    have q : x6 < x5 := by omega
    have hin : i < n := by omega
    obtain ⟨y, y1, y2, y3⟩ := cu_st_in (v := fun k => M 179 (b + (a + k))) (D := fun y => M 172 (og + y)) hgp i hin
    have ygr : y < gr := by
      have := cu_gp_lt hgp i hin
      omega
    have ebs := hst.trans y3
    have e3 : x3 = cu_R G (fun k => M 179 (b + (a + k))) (fun y => M 172 (og + y)) i y := (Prod.mk.inj ebs).1
    have e4 : x4 = cu_gs G (fun k => M 179 (b + (a + k))) y i := (Prod.mk.inj ebs).2
    have b3 := cu_R_bd (G := G) (v := fun k => M 179 (b + (a + k))) (D := fun y => M 172 (og + y)) (n := i) (by omega) (fun k hk => hv k (by omega)) y
    have b4 := cu_gs_bd (G := G) (v := fun k => M 179 (b + (a + k))) (y := y) (b := 60) (by decide) i (fun k hk => hv k (by omega))
    rw [← e3] at b3
    rw [← e4] at b4
    have bv := hv i hin
    have est : cu_st n G (fun k => M 179 (b + (a + k))) (fun y => M 172 (og + y)) (i + 1) = if i + 1 = n ∨ G (i + 1) ≠ G i then (x3 + cu_cl (M 172 (og + (G i).toNat)) (x4 + M 179 (b + (a + i))), 0) else (x3, x4 + M 179 (b + (a + i))) := by
      have r : cu_st n G (fun k => M 179 (b + (a + k))) (fun y => M 172 (og + y)) (i + 1) = if i + 1 = n ∨ G (i + 1) ≠ G i then ((cu_st n G (fun k => M 179 (b + (a + k))) (fun y => M 172 (og + y)) i).1 + cu_cl (M 172 (og + (G i).toNat)) ((cu_st n G (fun k => M 179 (b + (a + k))) (fun y => M 172 (og + y)) i).2 + M 179 (b + (a + i))), 0) else ((cu_st n G (fun k => M 179 (b + (a + k))) (fun y => M 172 (og + y)) i).1, (cu_st n G (fun k => M 179 (b + (a + k))) (fun y => M 172 (og + y)) i).2 + M 179 (b + (a + i))) := rfl
      rw [r, ← hst]
    rw [y1, Int.toNat_natCast] at est
    have i1 : base + x6 = ((b + (a + i) : Nat) : Int) := by omega
    have i2 : b + (a + i) < 4040 := by omega
    have i3 : a + i < 40 := by omega
    have t1 : E_C 146 [179, base + x6] M = some (M 179 (b + (a + i)), M) := w_atN (a := 179) (n := 4040) (by decide +kernel) (j := b + (a + i)) i1 i2 M
    have t2 : E_C 146 [173, x6] M = some (((og + y : Nat) : Int), M) := (w_atN (a := 173) (n := 40) (by decide +kernel) (j := a + i) hx i3 M).trans (by rw [show M (173 : Int).toNat (a + i) = ((og + y : Nat) : Int) from (hG i hin).trans (by rw [y1]; omega)])
    have t3 : E_C 146 [172, ((og + y : Nat) : Int)] M = some (M 172 (og + y), M) := w_atN (a := 172) (n := 40) (by decide +kernel) (j := og + y) rfl (by omega) M
    have k := fun x3' x4' => ih (i + 1) x3' x4' (x6 + 1) (by omega) (by omega)
    rw [est] at k
    have tn : i + 1 < n → E_C 146 [173, x6 + 1] M = some ((og : Int) + G (i + 1), M) := fun h => (w_atN (a := 173) (i := x6 + 1) (n := 40) (by decide +kernel) (j := a + (i + 1)) (by omega) (by omega) M).trans (by rw [show M (173 : Int).toNat (a + (i + 1)) = (og : Int) + G (i + 1) from hG (i + 1) h])
    have s118 : ∀ z3 z4, E_V 15 118 [170, l0, base, z3, z4, x5, x6] M = E_V 15 27 [170, l0, base, z3, z4, x5, x6 + 1] M := fun z3 z4 => by
      have w : e_w (x6 + 1) = x6 + 1 := a_w_id (by omega) (by omega)
      rw [E_V_eq]
      show e_tv E_C (E_V 15) e_t15_118 [170, l0, base, z3, z4, x5, x6] M = _
      unfold e_t15_118
      simp [e_tv, e_ev, e_sv, e_b1, e_b2, x_o1, x_o2, w]
    have qn : x6 + 1 = x5 ↔ i + 1 = n := by omega
    clear est hst ebs e3 e4 hG hv y3
    revert t1 bv k
    generalize M 179 (b + (a + i)) = v
    intro bv t1 k
    revert t3 k
    generalize M 172 (og + y) = dd
    intro t3 k
    have b3' : -3840 ≤ x3 ∧ x3 ≤ 3840 := by omega
    have b4' : -480 ≤ x4 ∧ x4 ≤ 480 := by omega
    have w1 : e_w (base + x6) = base + x6 := a_w_id (by omega) (by omega)
    have w2 : e_w (x6 + 1) = x6 + 1 := a_w_id (by omega) (by omega)
    have w3 : e_w (x4 + v) = x4 + v := a_w_id (by omega) (by omega)
    have w4 : e_w (x3 + (x4 + v)) = x3 + (x4 + v) := a_w_id (by omega) (by omega)
    have w5 : e_w (x3 + -1) = x3 + -1 := a_w_id (by omega) (by omega)
    have end1 : (i + 1 = n ∨ G (i + 1) ≠ (y : Int)) → ∀ z, z = (if dd ≠ 0 ∧ x4 + v < -1 then -1 else x4 + v) → E_V 15 118 [170, l0, base, x3 + z, 0, x5, x6] M = some ((cu_st n G (fun k => M 179 (b + (a + k))) (fun y => M 172 (og + y)) n).1, M) := fun h z hz => by
      rw [s118]
      refine k _ _ ?_
      rw [if_pos h, hz]
      rfl
    have end2 : ¬ (i + 1 = n ∨ G (i + 1) ≠ (y : Int)) → E_V 15 118 [170, l0, base, x3, x4 + v, x5, x6] M = some ((cu_st n G (fun k => M 179 (b + (a + k))) (fun y => M 172 (og + y)) n).1, M) := fun h => by
      rw [s118]
      refine k _ _ ?_
      rw [if_neg h]
    clear k s118 hgp ih
    generalize (cu_st n G (fun k => M 179 (b + (a + k))) (fun y => M 172 (og + y)) n).1 = res at end1 end2 ⊢
    obtain ⟨gy, hgy⟩ : ∃ gy : Int, ((og + y : Nat) : Int) = gy := ⟨_, rfl⟩
    rw [hgy] at t2 t3
    rw [E_V_eq]
    show e_tv E_C (E_V 15) e_t15_27 [170, l0, base, x3, x4, x5, x6] M = _
    unfold e_t15_27
    have fin : (i + 1 = n ∨ G (i + 1) ≠ (y : Int)) → E_V 15 118 [170, l0, base, e_w (x3 + (if dd ≠ 0 then (if x4 + v < -1 then -1 else x4 + v) else x4 + v)), 0, x5, x6] M = some (res, M) := fun h => by
      by_cases c1 : dd ≠ 0
      · rw [if_pos c1]
        rcases x_lt (x4 + v) (-1) with ⟨c2, c2_n⟩ | ⟨c2, c2_n⟩
        · rw [if_pos c2, w5]
          exact end1 h _ (by rw [if_pos ⟨c1, c2⟩])
        · rw [if_neg c2, w4]
          exact end1 h _ (by rw [if_neg (fun e => c2 e.2)])
      · rw [if_neg c1, w4]
        exact end1 h _ (by rw [if_neg (fun e => c1 e.1)])
    by_cases c : i + 1 = n
    · have q6 : e_w (x6 + 1) = x5 := w2.trans (qn.mpr c)
      have fin' := fin (Or.inl c)
      by_cases c1 : dd = 0
      · rw [if_neg (fun e => e c1)] at fin'
        rw [c1] at t3
        simp [e_tv, e_ev, e_sv, e_b1, e_b2, x_o1, x_o2, bx_G9, bx_Ga, bx_Gg, q, w1, w3, t1, t2, t3, q6, fin']
      · rw [if_pos c1] at fin'
        simp [e_tv, e_ev, e_sv, e_b1, e_b2, x_o1, x_o2, bx_G9, bx_Ga, bx_Gg, q, w1, w3, t1, t2, t3, q6, c1, fin']
    · have q6 : ¬ (x6 + 1 = x5) := fun e => c (qn.mp e)
      have t4 := tn (by omega)
      by_cases c0 : G (i + 1) = (y : Int)
      · have e2 := end2 (fun h => h.elim c (fun h => h c0))
        rw [show (og : Int) + G (i + 1) = gy by rw [c0]; omega] at t4
        simp [e_tv, e_ev, e_sv, e_b1, e_b2, x_o1, x_o2, bx_G9, bx_Ga, bx_Gg, q, w1, w2, w3, t1, t2, t4, q6, e2]
      · have ne : ¬ ((og : Int) + G (i + 1) = gy) := fun e => c0 (by omega)
        have fin' := fin (Or.inr c0)
        by_cases c1 : dd = 0
        · rw [if_neg (fun e => e c1)] at fin'
          rw [c1] at t3
          simp [e_tv, e_ev, e_sv, e_b1, e_b2, x_o1, x_o2, bx_G9, bx_Ga, bx_Gg, q, w1, w2, w3, t1, t2, t3, t4, q6, ne, fin']
        · rw [if_pos c1] at fin'
          simp [e_tv, e_ev, e_sv, e_b1, e_b2, x_o1, x_o2, bx_G9, bx_Ga, bx_Gg, q, w1, w2, w3, t1, t2, t3, t4, q6, ne, c1, fin']
theorem bx_15 {M : EM} {l0 base : Int} {l a n og gr b : Nat} {G : Nat → Int} (hl : l0 = l) (hl6 : l < 6) (h1 : M 171 l = (a : Int)) (h2 : M 171 (l + 1) = ((a + n : Nat) : Int)) (ha : a + n ≤ 40) (hg : og + gr ≤ 40) (hb : base = b) (hb4 : b + 40 ≤ 4040) (hn8 : n ≤ 8) (hgr8 : gr ≤ 8) (hgp : cu_gp G n gr) (hG : ∀ k, k < n → M 173 (a + k) = (og : Int) + G k) (hv : ∀ k, k < n → -60 ≤ M 179 (b + (a + k)) ∧ M 179 (b + (a + k)) ≤ 60) : E_C 15 [170, l0, base] M = some (cu_R G (fun k => M 179 (b + (a + k))) (fun y => M 172 (og + y)) n gr, M) := by
  have k := bx_27 (l0 := l0) ha hg hb hb4 hn8 hgr8 (x5 := ((a + n : Nat) : Int)) rfl hgp hG hv n 0 0 0 (a : Int) rfl (by omega) rfl
  rw [cu_st_ok hgp] at k
  have i1 : l0 + 1 = ((l + 1 : Nat) : Int) := by omega
  have t1 : E_C 146 [171, l0] M = some ((a : Int), M) := (w_atN (a := 171) (n := 7) (by decide +kernel) (j := l) hl (by omega) M).trans (by rw [show M (171 : Int).toNat l = (a : Int) from h1])
  have t2 : E_C 146 [171, l0 + 1] M = some (((a + n : Nat) : Int), M) := (w_atN (a := 171) (n := 7) (by decide +kernel) (j := l + 1) i1 (by omega) M).trans (by rw [show M (171 : Int).toNat (l + 1) = ((a + n : Nat) : Int) from h2])
  clear hgp hG hv h1 h2
  generalize ((a + n : Nat) : Int) = an at t2 k
  generalize (a : Int) = aa at t1 k
  have w1 : e_w (l0 + 1) = l0 + 1 := a_w_id (by omega) (by omega)
  rw [r_ent (show e_rok 15 [170, l0, base] = true from bx_r (M := M) rfl (by decide +kernel))]
  show e_tv E_C (E_V 15) e_t15_0 [170, l0, base, 0, 0, 0, 0] M = _
  unfold e_t15_0
  simp [e_tv, e_ev, e_sv, e_b1, e_b2, x_o1, x_o2, bx_G8, w1, t1, t2, k]
