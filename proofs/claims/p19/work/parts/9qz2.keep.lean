section
/-! keep: the two answers, and SHELVES stay related -/
theorem h_149 {k : Int} {M : EM} : E_C 149 [8, k] M = some (if 0 ≤ k ∧ k < M 10 0 then 1 else 0, M) := by
  have s0 : E_C 149 [8, k] M = e_tv E_C (E_V 149) e_t149_0 [8, k] M := r_ent (u := 149) (as := [8, k]) (M := M) (decide_eq_true c_this)
  rw [s0]
  unfold e_t149_0
  have f := w_P0 M
  generalize M 10 0 = c at f ⊢
  rcases x_le 0 k with ⟨q, q_n⟩ | ⟨q, q_n⟩
  · rcases x_lt k c with ⟨q1, q1_n⟩ | ⟨q1, q1_n⟩
    · rw [if_pos ⟨q, q1⟩]
      simp [e_tv, e_ev, e_sv, e_b1, e_b2, x_o1, x_o2, p_704, w_H0, f, q, q_n, q1, q1_n]
    · rw [if_neg (fun e => q1 e.2)]
      simp [e_tv, e_ev, e_sv, e_b1, e_b2, x_o1, x_o2, p_704, w_H0, f, q, q_n, q1, q1_n]
  · rw [if_neg (fun e => q e.1)]
    simp [e_tv, e_ev, e_sv, e_b1, e_b2, x_o1, x_o2, p_704, w_H0, f, q, q_n]
theorem h_85 {h : Int} (hh : h ∈ a_SH) (M : EM) : E_C 85 [h] M = some (0, e_up (e_up M h.toNat 0 0) h.toNat 1 0) := by
  obtain ⟨s1, -⟩ := w_sh hh
  have p0 : ∀ v M, e_pf 512 [h, v] M = some (e_up M h.toNat 0 v) := fun v M => c_pf s1 (by decide +kernel)
  have p1 : ∀ v M, e_pf 513 [h, v] M = some (e_up M h.toNat 1 v) := fun v M => c_pf s1 (by decide +kernel)
  rw [r_ent (show e_rok 85 [h] = true from decide_eq_true s1)]
  show e_tv E_C (E_V 85) e_t85_0 [h] M = _
  unfold e_t85_0
  simp [e_tv, e_ev, e_sv, e_b1, e_b2, x_o1, x_o2, p0, p1]
theorem h_86 {h a c : Int} (hh : h ∈ a_SH) (M : EM) : E_C 86 [h, a, c] M = some (0, e_up (e_up (e_up (e_up M h.toNat 0 1) h.toNat 1 0) h.toNat 2 a) h.toNat 3 c) := by
  obtain ⟨s1, -⟩ := w_sh hh
  have p0 : ∀ v M, e_pf 512 [h, v] M = some (e_up M h.toNat 0 v) := fun v M => c_pf s1 (by decide +kernel)
  have p1 : ∀ v M, e_pf 513 [h, v] M = some (e_up M h.toNat 1 v) := fun v M => c_pf s1 (by decide +kernel)
  have p2 : ∀ v M, e_pf 514 [h, v] M = some (e_up M h.toNat 2 v) := fun v M => c_pf s1 (by decide +kernel)
  have p3 : ∀ v M, e_pf 515 [h, v] M = some (e_up M h.toNat 3 v) := fun v M => c_pf s1 (by decide +kernel)
  rw [r_ent (show e_rok 86 [h, a, c] = true from decide_eq_true s1)]
  show e_tv E_C (E_V 86) e_t86_0 [h, a, c] M = _
  unfold e_t86_0
  simp [e_tv, e_ev, e_sv, e_b1, e_b2, x_o1, x_o2, p0, p1, p2, p3]
theorem h_139n {d w k x t : Int} {M : EM} (c0 : E_C 154 [8, d] M = some (x, M)) (c1 : E_C 149 [8, k] M = some (t, M)) (h : x = -1 ∨ ¬ (0 ≤ w ∧ w ≤ 1) ∨ (w = 1 ∧ t = 0)) : E_C 139 [8, d, w, k] M = some (-1, M) := by
  have s0 : E_C 139 [8, d, w, k] M = e_tv E_C (E_V 139) e_t139_0 [8, d, w, k, 0] M := r_ent (u := 139) (as := [8, d, w, k]) (M := M) (decide_eq_true c_this)
  rw [s0]
  unfold e_t139_0
  by_cases q0 : x = -1
  · simp [e_tv, e_ev, e_sv, e_b1, e_b2, x_o1, x_o2, c0, q0]
  · rcases x_le 0 w with ⟨q1, q1_n⟩ | ⟨q1, q1_n⟩
    · rcases x_le w 1 with ⟨q2, q2_n⟩ | ⟨q2, q2_n⟩
      · have q3 : w = 1 ∧ t = 0 := by
          rcases h with h | h | h
          · exact absurd h q0
          · exact absurd ⟨q1, q2⟩ h
          · exact h
        obtain ⟨rfl, rfl⟩ := q3
        simp [e_tv, e_ev, e_sv, e_b1, e_b2, x_o1, x_o2, c0, q0, c1]
      · simp [e_tv, e_ev, e_sv, e_b1, e_b2, x_o1, x_o2, c0, q0, q1, q1_n, q2, q2_n]
    · simp [e_tv, e_ev, e_sv, e_b1, e_b2, x_o1, x_o2, c0, q0, q1, q1_n]
theorem h_63 {l : List Int} {M : EM} : E_V 139 63 l M = some (0, M) := by
  rw [E_V_eq]
  show e_tv E_C (E_V 139) e_t139_63 l M = _
  unfold e_t139_63
  simp [e_tv, e_ev, e_sv, e_b1, e_b2, x_o1, x_o2]
theorem h_139a {d k x r : Int} {M M1 : EM} (c0 : E_C 154 [8, d] M = some (x, M)) (hx : x ≠ -1) (c1 : E_C 85 [x] M = some (r, M1)) : E_C 139 [8, d, 0, k] M = some (0, M1) := by
  have s0 : E_C 139 [8, d, 0, k] M = e_tv E_C (E_V 139) e_t139_0 [8, d, 0, k, 0] M := r_ent (u := 139) (as := [8, d, 0, k]) (M := M) (decide_eq_true c_this)
  rw [s0]
  unfold e_t139_0
  simp [e_tv, e_ev, e_sv, e_b1, e_b2, x_o1, x_o2, c0, hx, c1, h_63]
theorem h_139b {d k x a c r : Int} {M Ma Mb M1 : EM} (c0 : E_C 154 [8, d] M = some (x, M)) (hx : x ≠ -1) (c1 : E_C 149 [8, k] M = some (1, M)) (c2 : E_C 165 [8, k] M = some (a, Ma)) (c3 : E_C 166 [8, k] Ma = some (c, Mb)) (c4 : E_C 86 [x, a, c] Mb = some (r, M1)) : E_C 139 [8, d, 1, k] M = some (0, M1) := by
  have s0 : E_C 139 [8, d, 1, k] M = e_tv E_C (E_V 139) e_t139_0 [8, d, 1, k, 0] M := r_ent (u := 139) (as := [8, d, 1, k]) (M := M) (decide_eq_true c_this)
  rw [s0]
  unfold e_t139_0
  simp [e_tv, e_ev, e_sv, e_b1, e_b2, x_o1, x_o2, c0, hx, c1, c2, c3, c4, h_63]
theorem h_wb_out {M M' : EM} (h : a_fr h_wb M M') {id k : Nat} (hi : id < 170 ∨ 181 < id) : M' id k = M id k := h id k (fun w hw hc => by
  have key : ∀ w ∈ h_wb, 170 ≤ w.1 ∧ w.1 ≤ 181 := by decide
  have := key w hw
  omega)
theorem h_wH_out {M M' : EM} (h : a_fr (h_wH ++ r_wq) M M') {id k : Nat} (hi : id < 192 ∨ 193 ≤ id ∧ id ≤ 198) : M' id k = M id k := h id k (fun w hw hc => by
  have key : ∀ w ∈ h_wH ++ r_wq, w.1 = 192 ∨ 199 ≤ w.1 := by decide
  have := key w hw
  omega)
theorem h_kept {d w k r1 r2 : Int} {M M1 M2 : EM} (hJ : r_J M) (J1 : r_J M1) (hB : h_B M 0 (r_G M)) (hS : h_S M) (hk : -2147483648 ≤ k ∧ k ≤ 2147483647) (hfr : ∀ i, M1 193 i = M 193 i) (k1 : E_C 139 [8, d, w, k] M = some (r1, M1)) (k2 : E_C 258 [192, d, w, k] M1 = some (r2, M2)) : r1 = r2 ∧ h_S M2 := by
  have eG1 : r_G M1 = r_G M := funext fun i => hfr _
  obtain ⟨r, M2', c1, c2⟩ := h_keep2 (d := d) (w := w) (p := k) J1
  have e3 := Prod.mk.inj (Option.some.inj (k2.symm.trans c1))
  obtain ⟨e3, e4⟩ := e3
  subst e3
  subst e4
  rw [eG1] at c2
  have ip := h_149 (k := k) (M := M)
  have h10 := hB.1
  rw [h10] at ip
  rcases c2 with ⟨⟨q0, q1, q2⟩, e, f⟩ | ⟨q, e, f⟩
  · obtain ⟨m, hm⟩ : ∃ m : Nat, d = m := ⟨d.toNat, by omega⟩
    have m8 : m < 8 := by omega
    have hh := (h_gr145 m8).2
    have c0 : E_C 154 [8, d] M = some (((146 + 2 * m : Nat) : Int), M) := by
      rw [hm]
      exact h_154a (by omega) (by omega) (h_rd145 m8 M)
    have hs : ((146 + 2 * m : Nat) : Int) ≠ -1 := by omega
    have em : d.toNat = m := by omega
    rw [em] at f
    -- what the class leaves
    have cl : r1 = 0 ∧ M1 (146 + 2 * m) 0 = w ∧ M1 (146 + 2 * m) 1 = 0 ∧ ∀ id j, ¬ (id = 146 + 2 * m ∧ j ≤ 3) → id < 170 ∨ 181 < id → M1 id j = M id j := by
      by_cases c : w = 1
      · subst c
        rw [if_pos (q2 rfl)] at ip
        obtain ⟨a, Ma, a1, -, a2, a3⟩ := a_entry h_c165 (as := [8, k]) (M := M) ⟨List.mem_cons_self, a_gi hk.1 hk.2, trivial⟩ hJ.1
        obtain ⟨c, Mb, b1, -, b2, b3⟩ := a_entry h_c166 (as := [8, k]) (M := Ma) ⟨List.mem_cons_self, a_gi hk.1 hk.2, trivial⟩ a2
        have e1 := Prod.mk.inj (Option.some.inj (k1.symm.trans (h_139b c0 hs ip a1 b1 (h_86 hh Mb))))
        obtain ⟨e1, e2⟩ := e1
        rw [Int.toNat_natCast] at e2
        refine ⟨e1, ?_, ?_, fun id j h h' => ?_⟩
        · rw [e2, c_up_n (by omega), c_up_n (by omega), c_up_n (by omega), c_up_s]
        · rw [e2, c_up_n (by omega), c_up_n (by omega), c_up_s]
        · rw [e2, c_up_n (by omega), c_up_n (by omega), c_up_n (by omega), c_up_n (by omega), h_wb_out b3 h', h_wb_out a3 h']
      · have w0 : w = 0 := by omega
        subst w0
        have e1 := Prod.mk.inj (Option.some.inj (k1.symm.trans (h_139a c0 hs (h_85 hh M))))
        obtain ⟨e1, e2⟩ := e1
        rw [Int.toNat_natCast] at e2
        refine ⟨e1, ?_, ?_, fun id j h h' => ?_⟩
        · rw [e2, c_up_n (by omega), c_up_s]
        · rw [e2, c_up_s]
        · rw [e2, c_up_n (by omega), c_up_n (by omega)]
    obtain ⟨l1, l2, l3, l4⟩ := cl
    have z : ∀ id j, id < 192 ∨ 196 ≤ id ∧ id ≤ 198 → M2 id j = M1 id j := fun id j h => by
      rw [h_wH_out f (by omega)]
      exact c_up_n (by omega)
    have zk : M2 195 m = w := by
      rw [h_wH_out f (by omega)]
      exact c_up_s
    have zk2 : ∀ j, j ≠ m → M2 195 j = M 195 j := fun j hj => by
      rw [h_wH_out f (by omega), c_up_n (by omega)]
      exact l4 _ _ (by omega) (by omega)
    refine ⟨l1.trans e.symm, h_S_set (m := m) hS ?_ (fun d' hd' hne => ?_)⟩
    · by_cases c : w = 1
      · exact Or.inr (Or.inl ⟨zk.trans c, (z _ _ (by omega)).trans (l2.trans c), (z _ _ (by omega)).trans l3⟩)
      · have w0 : w = 0 := by omega
        exact Or.inl ⟨zk.trans w0, (z _ _ (by omega)).trans (l2.trans w0), (z _ _ (by omega)).trans l3⟩
    · have zz : ∀ id j, (id = 146 + 2 * d' ∨ id = 147 + 2 * d' ∨ 196 ≤ id ∧ id ≤ 198) → M2 id j = M id j := fun id j h => (z id j (by omega)).trans (l4 id j (by omega) (by omega))
      exact ⟨zk2 d' hne, zz _ _ (by omega), zz _ _ (by omega), zz _ _ (by omega), zz _ _ (by omega), zz _ _ (by omega), zz _ _ (by omega), fun i hi => ⟨zz _ _ (by omega), zz _ _ (by omega)⟩⟩
  · have e1 : r1 = -1 ∧ M1 = M := by
      by_cases hd : 0 ≤ d ∧ d < 8
      · obtain ⟨m, hm⟩ : ∃ m : Nat, d = m := ⟨d.toNat, by omega⟩
        have c0 : E_C 154 [8, d] M = some (((146 + 2 * m : Nat) : Int), M) := by
          rw [hm]
          exact h_154a (by omega) (by omega) (h_rd145 (by omega) M)
        refine Prod.mk.inj (Option.some.inj (k1.symm.trans (h_139n c0 ip ?_)))
        by_cases c : 0 ≤ w ∧ w ≤ 1
        · refine Or.inr (Or.inr ?_)
          by_cases c1 : w = 1
          · refine ⟨c1, if_neg (fun e => q ⟨by omega, c, fun _ => e⟩)⟩
          · exact absurd ⟨⟨hd.1, by omega⟩, c, fun e => absurd e c1⟩ q
        · exact Or.inr (Or.inl c)
      · exact Prod.mk.inj (Option.some.inj (k1.symm.trans (h_139n (h_154n hd) ip (Or.inl rfl))))
    rw [e1.1, e, f, e1.2]
    exact ⟨rfl, hS⟩
end
section
/-! SHELVES: copy -/
theorem h_143a {d i e j n x y : Int} {M : EM} (c0 : E_C 154 [8, d] M = some (x, M)) (c1 : E_C 154 [8, e] M = some (y, M)) (h : x = -1 ∨ y = -1) : E_C 143 [8, d, i, e, j, n] M = some (-1, M) := by
  have s0 : E_C 143 [8, d, i, e, j, n] M = e_tv E_C (E_V 143) e_t143_0 [8, d, i, e, j, n, 0, 0] M := r_ent (u := 143) (as := [8, d, i, e, j, n]) (M := M) (decide_eq_true c_this)
  rw [s0]
  unfold e_t143_0
  by_cases q : x = -1
  · simp [e_tv, e_ev, e_sv, e_b1, e_b2, x_o1, x_o2, c0, c1, q]
  · have q2 := h.resolve_left q
    simp [e_tv, e_ev, e_sv, e_b1, e_b2, x_o1, x_o2, c0, c1, q, q2]
theorem h_143b {d i e j n x y u v : Int} {M : EM} (c0 : E_C 154 [8, d] M = some (x, M)) (c1 : E_C 154 [8, e] M = some (y, M)) (hx : x ≠ -1) (hy : y ≠ -1) (t1 : E_C 84 [x] M = some (u, M)) (t2 : E_C 84 [y] M = some (v, M)) (h : u ≠ 0 ∨ v ≠ 0) : E_C 143 [8, d, i, e, j, n] M = some (-11, M) := by
  have s0 : E_C 143 [8, d, i, e, j, n] M = e_tv E_C (E_V 143) e_t143_0 [8, d, i, e, j, n, 0, 0] M := r_ent (u := 143) (as := [8, d, i, e, j, n]) (M := M) (decide_eq_true c_this)
  rw [s0]
  unfold e_t143_0
  by_cases q : u = 0
  · have q2 : v ≠ 0 := h.resolve_left (fun e => e q)
    simp [e_tv, e_ev, e_sv, e_b1, e_b2, x_o1, x_o2, c0, c1, hx, hy, t1, t2, q, q2]
  · simp [e_tv, e_ev, e_sv, e_b1, e_b2, x_o1, x_o2, c0, c1, hx, hy, t1, t2, q]
theorem h_143c {d i e j n x y p p' s s' : Int} {M : EM} (c0 : E_C 154 [8, d] M = some (x, M)) (c1 : E_C 154 [8, e] M = some (y, M)) (hx : x ≠ -1) (hy : y ≠ -1) (t1 : E_C 84 [x] M = some (0, M)) (t2 : E_C 84 [y] M = some (0, M)) (f1 : e_gf 513 [x] M = some p) (f2 : e_gf 513 [y] M = some p') (f3 : e_gf 516 [x] M = some s) (f4 : e_gf 516 [y] M = some s') (h : p = 0 ∨ p' = 0 ∨ s ≠ s') : E_C 143 [8, d, i, e, j, n] M = some (-12, M) := by
  have s0 : E_C 143 [8, d, i, e, j, n] M = e_tv E_C (E_V 143) e_t143_0 [8, d, i, e, j, n, 0, 0] M := r_ent (u := 143) (as := [8, d, i, e, j, n]) (M := M) (decide_eq_true c_this)
  rw [s0]
  unfold e_t143_0
  by_cases q : p = 0
  · simp [e_tv, e_ev, e_sv, e_b1, e_b2, x_o1, x_o2, c0, c1, hx, hy, t1, t2, f1, f2, q]
  · by_cases q2 : p' = 0
    · simp [e_tv, e_ev, e_sv, e_b1, e_b2, x_o1, x_o2, c0, c1, hx, hy, t1, t2, f1, f2, q, q2]
    · have q3 : s ≠ s' := (h.resolve_left q).resolve_left q2
      simp [e_tv, e_ev, e_sv, e_b1, e_b2, x_o1, x_o2, c0, c1, hx, hy, t1, t2, f1, f2, f3, f4, q, q2, q3]
theorem h_143d {d i e j n x y p p' s g g' : Int} {M : EM} (c0 : E_C 154 [8, d] M = some (x, M)) (c1 : E_C 154 [8, e] M = some (y, M)) (hx : x ≠ -1) (hy : y ≠ -1) (t1 : E_C 84 [x] M = some (0, M)) (t2 : E_C 84 [y] M = some (0, M)) (f1 : e_gf 513 [x] M = some p) (f2 : e_gf 513 [y] M = some p') (f3 : e_gf 516 [x] M = some s) (f4 : e_gf 516 [y] M = some s) (hp : p ≠ 0) (hp' : p' ≠ 0) (g1 : E_C 90 [x, i, n] M = some (g, M)) (g2 : E_C 90 [y, j, n] M = some (g', M)) (h : g = 0 ∨ g' = 0) : E_C 143 [8, d, i, e, j, n] M = some (-13, M) := by
  have s0 : E_C 143 [8, d, i, e, j, n] M = e_tv E_C (E_V 143) e_t143_0 [8, d, i, e, j, n, 0, 0] M := r_ent (u := 143) (as := [8, d, i, e, j, n]) (M := M) (decide_eq_true c_this)
  rw [s0]
  unfold e_t143_0
  by_cases q : g = 0
  · simp [e_tv, e_ev, e_sv, e_b1, e_b2, x_o1, x_o2, c0, c1, hx, hy, t1, t2, f1, f2, f3, f4, hp, hp', g1, g2, q]
  · have q2 := h.resolve_left q
    simp [e_tv, e_ev, e_sv, e_b1, e_b2, x_o1, x_o2, c0, c1, hx, hy, t1, t2, f1, f2, f3, f4, hp, hp', g1, g2, q, q2]
theorem h_143e {d i e j n x y x' y' p p' s g g' : Int} {M M1 : EM} (c0 : E_C 154 [8, d] M = some (x, M)) (c1 : E_C 154 [8, e] M = some (y, M)) (hx : x ≠ -1) (hy : y ≠ -1) (t1 : E_C 84 [x] M = some (0, M)) (t2 : E_C 84 [y] M = some (0, M)) (f1 : e_gf 513 [x] M = some p) (f2 : e_gf 513 [y] M = some p') (f3 : e_gf 516 [x] M = some s) (f4 : e_gf 516 [y] M = some s) (hp : p ≠ 0) (hp' : p' ≠ 0) (g1 : E_C 90 [x, i, n] M = some (g, M)) (g2 : E_C 90 [y, j, n] M = some (g', M)) (hg : g ≠ 0) (hg' : g' ≠ 0) (f5 : e_gf 518 [x] M = some x') (f6 : e_gf 518 [y] M = some y') (k : e_cp [x', i, y', j, n] M = some M1) : E_C 143 [8, d, i, e, j, n] M = some (n, M1) := by
  have s0 : E_C 143 [8, d, i, e, j, n] M = e_tv E_C (E_V 143) e_t143_0 [8, d, i, e, j, n, 0, 0] M := r_ent (u := 143) (as := [8, d, i, e, j, n]) (M := M) (decide_eq_true c_this)
  rw [s0]
  unfold e_t143_0
  simp [e_tv, e_ev, e_sv, e_b1, e_b2, x_o1, x_o2, c0, c1, hx, hy, t1, t2, f1, f2, f3, f4, hp, hp', g1, g2, hg, hg', f5, f6, k]
theorem h_262a {d i e j n a c : Int} {M : EM} (c0 : E_C 173 [d] M = some (a, M)) (c1 : E_C 173 [e] M = some (c, M)) (h : a = 0 ∨ c = 0) : E_C 262 [192, d, i, e, j, n] M = some (-1, M) := by
  rw [r_ent (show e_rok 262 [192, d, i, e, j, n] = true from decide_eq_true r_ref)]
  show e_tv E_C (E_V 262) e_t262_0 [192, d, i, e, j, n, 0, 0] M = _
  unfold e_t262_0
  by_cases q : a = 0
  · simp [e_tv, e_ev, e_sv, e_b1, e_b2, x_o1, x_o2, c0, c1, q]
  · have q2 := h.resolve_left q
    simp [e_tv, e_ev, e_sv, e_b1, e_b2, x_o1, x_o2, c0, c1, q, q2]
theorem h_262b {d i e j n a c : Int} {M : EM} (c0 : E_C 173 [d] M = some (1, M)) (c1 : E_C 173 [e] M = some (1, M)) (l1 : e_op 60 [195, d] M = some a) (l2 : e_op 60 [195, e] M = some c) (h : a = 0 ∨ c = 0) : E_C 262 [192, d, i, e, j, n] M = some (-11, M) := by
  rw [r_ent (show e_rok 262 [192, d, i, e, j, n] = true from decide_eq_true r_ref)]
  show e_tv E_C (E_V 262) e_t262_0 [192, d, i, e, j, n, 0, 0] M = _
  unfold e_t262_0
  by_cases q : a = 0
  · simp [e_tv, e_ev, e_sv, e_b1, e_b2, x_o1, x_o2, r_O2, c0, c1, l1, l2, q]
  · have q2 := h.resolve_left q
    simp [e_tv, e_ev, e_sv, e_b1, e_b2, x_o1, x_o2, r_O2, c0, c1, l1, l2, q, q2]
theorem h_262c {d i e j n a c s s' : Int} {M : EM} (c0 : E_C 173 [d] M = some (1, M)) (c1 : E_C 173 [e] M = some (1, M)) (l1 : e_op 60 [195, d] M = some a) (l2 : e_op 60 [195, e] M = some c) (ha : a ≠ 0) (hc : c ≠ 0) (l3 : e_op 60 [196, d] M = some s) (l4 : e_op 60 [196, e] M = some s') (h : a ≠ 2 ∨ c ≠ 2 ∨ s ≠ s') : E_C 262 [192, d, i, e, j, n] M = some (-12, M) := by
  rw [r_ent (show e_rok 262 [192, d, i, e, j, n] = true from decide_eq_true r_ref)]
  show e_tv E_C (E_V 262) e_t262_0 [192, d, i, e, j, n, 0, 0] M = _
  unfold e_t262_0
  by_cases q : a = 2
  · by_cases q2 : c = 2
    · have q3 : s ≠ s' := (h.resolve_left (fun h => h q)).resolve_left (fun h => h q2)
      simp [e_tv, e_ev, e_sv, e_b1, e_b2, x_o1, x_o2, r_O2, r_O3, c0, c1, l1, l2, l3, l4, q, q2, q3]
    · simp [e_tv, e_ev, e_sv, e_b1, e_b2, x_o1, x_o2, r_O2, r_O3, c0, c1, l1, l2, hc, q, q2]
  · simp [e_tv, e_ev, e_sv, e_b1, e_b2, x_o1, x_o2, r_O2, r_O3, c0, c1, l1, l2, ha, hc, q]
theorem h_262d {d i e j n s z z' a c : Int} {M : EM} (c0 : E_C 173 [d] M = some (1, M)) (c1 : E_C 173 [e] M = some (1, M)) (l1 : e_op 60 [195, d] M = some 2) (l2 : e_op 60 [195, e] M = some 2) (l3 : e_op 60 [196, d] M = some s) (l4 : e_op 60 [196, e] M = some s) (l5 : e_op 60 [197, d] M = some z) (l6 : e_op 60 [197, e] M = some z') (w1 : 0 ≤ i → e_w (z - i) = a) (w2 : 0 ≤ j → e_w (z' - j) = c) (h : ¬ (0 ≤ n ∧ 0 ≤ i ∧ 0 ≤ j ∧ n ≤ a ∧ n ≤ c)) : E_C 262 [192, d, i, e, j, n] M = some (-13, M) := by
  rw [r_ent (show e_rok 262 [192, d, i, e, j, n] = true from decide_eq_true r_ref)]
  show e_tv E_C (E_V 262) e_t262_0 [192, d, i, e, j, n, 0, 0] M = _
  unfold e_t262_0
  rcases x_le 0 n with ⟨q1, q1_n⟩ | ⟨q1, q1_n⟩
  · rcases x_le 0 i with ⟨q2, q2_n⟩ | ⟨q2, q2_n⟩
    · have w1 := w1 q2
      rcases x_le 0 j with ⟨q3, q3_n⟩ | ⟨q3, q3_n⟩
      · have w2 := w2 q3
        rcases x_le n a with ⟨q4, q4_n⟩ | ⟨q4, q4_n⟩
        · have q5 : ¬ n ≤ c := fun e => h ⟨q1, q2, q3, q4, e⟩
          have q5_n : c < n := by
            clear w1 w2
            omega
          simp [e_tv, e_ev, e_sv, e_b1, e_b2, x_o1, x_o2, r_O2, r_O3, r_O4, c0, c1, l1, l2, l3, l4, l5, l6, w1, w2, q1, q1_n, q2, q2_n, q3, q3_n, q4, q4_n, q5, q5_n]
        · simp [e_tv, e_ev, e_sv, e_b1, e_b2, x_o1, x_o2, r_O2, r_O3, r_O4, c0, c1, l1, l2, l3, l4, l5, l6, w1, w2, q1, q1_n, q2, q2_n, q3, q3_n, q4, q4_n]
      · simp [e_tv, e_ev, e_sv, e_b1, e_b2, x_o1, x_o2, r_O2, r_O3, r_O4, c0, c1, l1, l2, l3, l4, l5, l6, q1, q1_n, q2, q2_n, q3, q3_n]
    · simp [e_tv, e_ev, e_sv, e_b1, e_b2, x_o1, x_o2, r_O2, r_O3, r_O4, c0, c1, l1, l2, l3, l4, l5, l6, q1, q1_n, q2, q2_n]
  · simp [e_tv, e_ev, e_sv, e_b1, e_b2, x_o1, x_o2, r_O2, r_O3, r_O4, c0, c1, l1, l2, l3, l4, l5, l6, q1, q1_n]
theorem h_262e {d i e j n s z z' a c : Int} {M : EM} {o : EO} (c0 : E_C 173 [d] M = some (1, M)) (c1 : E_C 173 [e] M = some (1, M)) (l1 : e_op 60 [195, d] M = some 2) (l2 : e_op 60 [195, e] M = some 2) (l3 : e_op 60 [196, d] M = some s) (l4 : e_op 60 [196, e] M = some s) (l5 : e_op 60 [197, d] M = some z) (l6 : e_op 60 [197, e] M = some z') (w1 : e_w (z - i) = a) (w2 : e_w (z' - j) = c) (q1 : 0 ≤ n) (q2 : 0 ≤ i) (q3 : 0 ≤ j) (q4 : n ≤ a) (q5 : n ≤ c) (k : E_V 262 122 [192, d, i, e, j, n, 0, 0] M = o) : E_C 262 [192, d, i, e, j, n] M = o := by
  have q1_n : ¬ n < 0 := by clear w1 w2; omega
  have q2_n : ¬ i < 0 := by clear w1 w2; omega
  have q3_n : ¬ j < 0 := by clear w1 w2; omega
  have q4_n : ¬ a < n := by clear w1 w2; omega
  have q5_n : ¬ c < n := by clear w1 w2; omega
  rw [r_ent (show e_rok 262 [192, d, i, e, j, n] = true from decide_eq_true r_ref)]
  show e_tv E_C (E_V 262) e_t262_0 [192, d, i, e, j, n, 0, 0] M = _
  unfold e_t262_0
  simp [e_tv, e_ev, e_sv, e_b1, e_b2, x_o1, x_o2, r_O2, r_O3, r_O4, c0, c1, l1, l2, l3, l4, l5, l6, w1, w2, q1, q1_n, q2, q2_n, q3, q3_n, q4, q4_n, q5, q5_n, k]
theorem h_262s {d i e j n q y t ia ib v b1 b2 b3 b4 q' n1 : Int} {na : Nat} {M : EM} (h : q < n) (wn : e_w (n - 1) = n1) (ht : t = if j < i then q else e_w (n1 - q)) (w1 : e_w (120 * e) = b1) (w2 : e_w (b1 + j) = b2) (w3 : e_w (b2 + t) = ib) (w4 : e_w (120 * d) = b3) (w5 : e_w (b3 + i) = b4) (w6 : e_w (b4 + t) = ia) (w7 : e_w (q + 1) = q') (l : e_op 60 [198, ia] M = some v) (st : e_st 100 [198, ib, v] M = some (e_up M 198 na v)) : E_V 262 122 [192, d, i, e, j, n, q, y] M = E_V 262 122 [192, d, i, e, j, n, q', t] (e_up M 198 na v) := by
  rw [E_V_eq]
  show e_tv E_C (E_V 262) e_t262_122 [192, d, i, e, j, n, q, y] M = _
  unfold e_t262_122
  rcases x_lt j i with ⟨c, c_n⟩ | ⟨c, c_n⟩
  · rw [if_pos c] at ht
    subst ht
    simp [e_tv, e_ev, e_sv, e_b1, e_b2, x_o1, x_o2, r_O5, h, c, c_n, w1, w2, w3, w4, w5, w6, w7, l, st]
  · rw [if_neg c] at ht
    subst ht
    simp [e_tv, e_ev, e_sv, e_b1, e_b2, x_o1, x_o2, r_O5, h, wn, c, c_n, w1, w2, w3, w4, w5, w6, w7, l, st]
theorem h_262z {d i e j n y : Int} {M : EM} : E_V 262 122 [192, d, i, e, j, n, n, y] M = some (n, M) := by
  rw [E_V_eq]
  show e_tv E_C (E_V 262) e_t262_122 [192, d, i, e, j, n, n, y] M = _
  unfold e_t262_122
  simp [e_tv, e_ev, e_sv, e_b1, e_b2, x_o1, x_o2]
end
section
/-! copy: the two answers, and SHELVES stay related -/
/-- which of n elements have come after q steps -/
def h_W (i j n q t : Nat) : Prop := if j < i then t < q else n ≤ q + t
theorem h_262l {d e i j n : Nat} (hd : d < 8) (he : e < 8) (hi : i + n ≤ 120) (hj : j + n ≤ 120) (M0 : EM) : ∀ (m q : Nat) (y : Int) (M : EM), q + m = n → ((∀ t, t < n → h_W i j n q t → M 198 (120 * e + j + t) = M0 198 (120 * d + i + t)) ∧ (∀ id k, ¬ (id = 198 ∧ ∃ t, t < n ∧ h_W i j n q t ∧ k = 120 * e + j + t) → M id k = M0 id k)) → ∃ M', E_V 262 122 [192, (d : Int), (i : Int), (e : Int), (j : Int), (n : Int), (q : Int), y] M = some ((n : Int), M') ∧ (∀ t, t < n → M' 198 (120 * e + j + t) = M0 198 (120 * d + i + t)) ∧ (∀ id k, ¬ (id = 198 ∧ 120 * e + j ≤ k ∧ k < 120 * e + j + n) → M' id k = M0 id k) := by
  intro m
  induction m with
  | zero =>
    intro q y M hm h
    have e : q = n := by omega
    subst e
    obtain ⟨h1, h2⟩ := h
    refine ⟨M, h_262z, fun t ht => h1 t ht ?_, fun id k hk => h2 id k (fun hc => hk ?_)⟩
    · unfold h_W
      split <;> omega
    · obtain ⟨a, t, b, c, f⟩ := hc
      exact ⟨a, by omega, by omega⟩
  | succ m ih =>
    intro q y M hm h
    obtain ⟨h1, h2⟩ := h
    obtain ⟨t, ht⟩ : ∃ t : Nat, t = if j < i then q else n - 1 - q := ⟨_, rfl⟩
    have tn : t < n := by
      rw [ht]
      split <;> omega
    have nw : ¬ h_W i j n q t := by
      unfold h_W
      rw [ht]
      split <;> omega
    have src : M 198 (120 * d + i + t) = M0 198 (120 * d + i + t) := h2 _ _ (fun hc => by
      obtain ⟨-, t', t1, t2, t3⟩ := hc
      unfold h_W at t2 nw
      by_cases c : i > j
      · rw [if_pos c] at t2 nw ht
        omega
      · rw [if_neg (by omega)] at t2 nw ht
        omega)
    have b1 : 0 ≤ 120 * (d : Int) + (i : Int) + (t : Int) ∧ 120 * (d : Int) + (i : Int) + (t : Int) < 960 := by omega
    have b2 : 0 ≤ 120 * (e : Int) + (j : Int) + (t : Int) ∧ 120 * (e : Int) + (j : Int) + (t : Int) < 960 := by omega
    have n1 : (120 * (d : Int) + (i : Int) + (t : Int)).toNat = 120 * d + i + t := by omega
    have n2 : (120 * (e : Int) + (j : Int) + (t : Int)).toNat = 120 * e + j + t := by omega
    have l : e_op 60 [198, 120 * (d : Int) + (i : Int) + (t : Int)] M = some (M 198 (120 * d + i + t)) := (r_rdE b1.1 b1.2).trans (by rw [n1])
    have st : ∀ v, e_st 100 [198, 120 * (e : Int) + (j : Int) + (t : Int), v] M = some (e_up M 198 (120 * e + j + t) v) := fun v => (r_st (n := 960) (by decide) (by decide +kernel) (by decide +kernel) b2.1 b2.2).trans (by rw [n2]; rfl)
    obtain ⟨M', k1, c1, c2⟩ := ih (q + 1) (t : Int) (e_up M 198 (120 * e + j + t) (M 198 (120 * d + i + t))) (by omega) ⟨fun t' t1 t2 => by
      by_cases c : t' = t
      · subst c
        rw [c_up_s]
        exact src
      · rw [c_up_n (by omega)]
        refine h1 t' t1 ?_
        unfold h_W at t2 ⊢
        by_cases c2 : i > j
        · rw [if_pos c2] at t2 ht ⊢
          omega
        · rw [if_neg (by omega)] at t2 ht ⊢
          omega, fun id k hk => by
      rw [c_up_n (fun hc => hk ⟨hc.1, t, tn, by
        unfold h_W
        by_cases c2 : i > j
        · rw [if_pos c2] at ht ⊢
          omega
        · rw [if_neg (by omega)] at ht ⊢
          omega, hc.2⟩)]
      refine h2 id k (fun hc => hk ?_)
      obtain ⟨a, t', t1, t2, t3⟩ := hc
      refine ⟨a, t', t1, ?_, t3⟩
      unfold h_W at t2 ⊢
      by_cases c2 : i > j
      · rw [if_pos c2] at t2 ⊢
        omega
      · rw [if_neg (by omega)] at t2 ⊢
        omega⟩
    refine ⟨M', ?_, c1, c2⟩
    rw [← k1]
    have hqn : (q : Int) < (n : Int) := by omega
    have htt : (t : Int) = if (j : Int) < (i : Int) then (q : Int) else ((n - 1 - q : Nat) : Int) := by
      by_cases c : i > j
      · rw [if_pos (by omega)]
        rw [if_pos c] at ht
        omega
      · rw [if_neg (by omega)]
        rw [if_neg (by omega)] at ht
        omega
    have w : e_w ((n : Int) - 1) = (n : Int) - 1 ∧ e_w ((n : Int) - 1 - (q : Int)) = ((n - 1 - q : Nat) : Int) ∧ e_w (120 * (e : Int)) = 120 * (e : Int) ∧ e_w (120 * (e : Int) + (j : Int)) = 120 * (e : Int) + (j : Int) ∧ e_w (120 * (e : Int) + (j : Int) + (t : Int)) = 120 * (e : Int) + (j : Int) + (t : Int) ∧ e_w (120 * (d : Int)) = 120 * (d : Int) ∧ e_w (120 * (d : Int) + (i : Int)) = 120 * (d : Int) + (i : Int) ∧ e_w (120 * (d : Int) + (i : Int) + (t : Int)) = 120 * (d : Int) + (i : Int) + (t : Int) ∧ e_w ((q : Int) + 1) = ((q + 1 : Nat) : Int) := by
      clear k1 c1 c2 ih h1 h2 l st src nw htt ht n1 n2
      refine ⟨?_, ?_, ?_, ?_, ?_, ?_, ?_, ?_, ?_⟩
      · exact a_w_id (by omega) (by omega)
      · exact (a_w_id (by omega) (by omega)).trans (by omega)
      · exact a_w_id (by omega) (by omega)
      · exact a_w_id (by omega) (by omega)
      · exact a_w_id (by omega) (by omega)
      · exact a_w_id (by omega) (by omega)
      · exact a_w_id (by omega) (by omega)
      · exact a_w_id (by omega) (by omega)
      · exact (a_w_id (by omega) (by omega)).trans (by omega)
    obtain ⟨w1, w2, w3, w4, w5, w6, w7, w8, w9⟩ := w
    rw [← w2] at htt
    exact h_262s hqn w1 htt w3 w4 w5 w6 w7 w8 w9 l (st _)
theorem h_copy {d i e j n r1 r2 : Int} {M M1 M2 : EM} (hJ : r_J M) (hS : h_S M) (hi : -2147483648 ≤ i ∧ i ≤ 2147483647) (hj : -2147483648 ≤ j ∧ j ≤ 2147483647) (hn : -2147483648 ≤ n ∧ n ≤ 2147483647) (k1 : E_C 143 [8, d, i, e, j, n] M = some (r1, M1)) (k2 : E_C 262 [192, d, i, e, j, n] M1 = some (r2, M2)) : r1 = r2 ∧ h_S M2 := by
  by_cases hde : (0 ≤ d ∧ d < 8) ∧ (0 ≤ e ∧ e < 8)
  · obtain ⟨hd, he⟩ := hde
    obtain ⟨m, hm⟩ : ∃ m : Nat, d = m := ⟨d.toNat, by omega⟩
    obtain ⟨l, hl⟩ : ∃ l : Nat, e = l := ⟨e.toNat, by omega⟩
    subst hm
    subst hl
    have m8 : m < 8 := by omega
    have l8 : l < 8 := by omega
    have hhm := (h_gr145 m8).2
    have hhl := (h_gr145 l8).2
    have c0 := h_154a (M := M) hd.1 hd.2 (h_rd145 m8 M)
    have c1 := h_154a (M := M) he.1 he.2 (h_rd145 l8 M)
    have hx : ((146 + 2 * m : Nat) : Int) ≠ -1 := by omega
    have hy : ((146 + 2 * l : Nat) : Int) ≠ -1 := by omega
    have t1 := h_84 hhm M
    have t2 := h_84 hhl M
    obtain ⟨-, fm1, fm4, -⟩ := h_sf hhm M
    obtain ⟨-, fl1, fl4, -⟩ := h_sf hhl M
    rw [Int.toNat_natCast] at t1 t2 fm1 fm4 fl1 fl4
    have i0 := h_is (d := (m : Int)) M
    have i1 := h_is (d := (l : Int)) M
    rw [if_pos hd] at i0
    rw [if_pos he] at i1
    obtain ⟨a1, a2, a3, -⟩ := r_isD (m : Int) M ⟨hd.1, by omega⟩
    obtain ⟨b1, b2, b3, -⟩ := r_isD (l : Int) M ⟨he.1, by omega⟩
    rw [Int.toNat_natCast] at a1 a2 a3 b1 b2 b3
    have km := hS m m8
    have kl := hS l l8
    by_cases q11 : M 195 m = 0 ∨ M 195 l = 0
    · have u : (if M (146 + 2 * m) 0 = 0 ∧ M (146 + 2 * m) 1 = 0 then (1 : Int) else 0) ≠ 0 ∨ (if M (146 + 2 * l) 0 = 0 ∧ M (146 + 2 * l) 1 = 0 then (1 : Int) else 0) ≠ 0 := by
        rcases q11 with q | q
        · refine Or.inl ?_
          rw [if_pos (by omega)]
          decide
        · refine Or.inr ?_
          rw [if_pos (by omega)]
          decide
      have e1 := Prod.mk.inj (Option.some.inj (k1.symm.trans (h_143b (i := i) (j := j) (n := n) c0 c1 hx hy t1 t2 u)))
      obtain ⟨e1, e2⟩ := e1
      subst e2
      have e3 := Prod.mk.inj (Option.some.inj (k2.symm.trans (h_262b (i := i) (j := j) (n := n) i0 i1 a1 b1 q11)))
      rw [e1, e3.1, e3.2]
      exact ⟨rfl, hS⟩
    · have u1 : ¬ (M (146 + 2 * m) 0 = 0 ∧ M (146 + 2 * m) 1 = 0) := by omega
      have u2 : ¬ (M (146 + 2 * l) 0 = 0 ∧ M (146 + 2 * l) 1 = 0) := by omega
      rw [if_neg u1] at t1
      rw [if_neg u2] at t2
      by_cases q12 : M 195 m ≠ 2 ∨ M 195 l ≠ 2 ∨ M 196 m ≠ M 196 l
      · have u : M (146 + 2 * m) 1 = 0 ∨ M (146 + 2 * l) 1 = 0 ∨ M (146 + 2 * m) 4 ≠ M (146 + 2 * l) 4 := by omega
        have e1 := Prod.mk.inj (Option.some.inj (k1.symm.trans (h_143c (i := i) (j := j) (n := n) c0 c1 hx hy t1 t2 fm1 fl1 fm4 fl4 u)))
        obtain ⟨e1, e2⟩ := e1
        subst e2
        have e3 := Prod.mk.inj (Option.some.inj (k2.symm.trans (h_262c (i := i) (j := j) (n := n) i0 i1 a1 b1 (by omega) (by omega) a2 b2 q12)))
        rw [e1, e3.1, e3.2]
        exact ⟨rfl, hS⟩
      · have rm : M 195 m = 2 ∧ M (146 + 2 * m) 1 = 1 ∧ M (146 + 2 * m) 4 = M 196 m ∧ M (146 + 2 * m) 5 = M 197 m ∧ ∀ i, i < 120 → M (147 + 2 * m) i = M 198 (120 * m + i) := by
          rcases km with ⟨a, -⟩ | ⟨a, -⟩ | ⟨a, -, c, f, g, h⟩
          · omega
          · omega
          · exact ⟨a, c, f, g, h⟩
        have rl : M 195 l = 2 ∧ M (146 + 2 * l) 1 = 1 ∧ M (146 + 2 * l) 4 = M 196 l ∧ M (146 + 2 * l) 5 = M 197 l ∧ ∀ i, i < 120 → M (147 + 2 * l) i = M 198 (120 * l + i) := by
          rcases kl with ⟨a, -⟩ | ⟨a, -⟩ | ⟨a, -, c, f, g, h⟩
          · omega
          · omega
          · exact ⟨a, c, f, g, h⟩
        obtain ⟨rm0, rm1, rm4, rm5, rme⟩ := rm
        obtain ⟨rl0, rl1, rl4, rl5, rle⟩ := rl
        have ss : M 196 m = M 196 l := by omega
        rw [rm4] at fm4
        rw [rl4, ← ss] at fl4
        rw [← ss] at b2
        rw [rm0] at a1
        rw [rl0] at b1
        have zm := hJ.2.1 m m8
        have zl := hJ.2.1 l l8
        have g1 := c_hasRun (i := i) (n := n) hhm hJ.1 hi hn
        have g2 := c_hasRun (i := j) (n := n) hhl hJ.1 hj hn
        rw [Int.toNat_natCast, rm5] at g1
        rw [Int.toNat_natCast, rl5] at g2
        have p1 : M (146 + 2 * m) 1 ≠ 0 := by omega
        have p2 : M (146 + 2 * l) 1 ≠ 0 := by omega
        have wi : 0 ≤ i → e_w (M 197 m - i) = M 197 m - i := fun h => a_w_id (by omega) (by omega)
        have wj : 0 ≤ j → e_w (M 197 l - j) = M 197 l - j := fun h => a_w_id (by omega) (by omega)
        by_cases q13 : 0 ≤ n ∧ 0 ≤ i ∧ 0 ≤ j ∧ n ≤ M 197 m - i ∧ n ≤ M 197 l - j
        · obtain ⟨n0, i00, j00, nm, nl⟩ := q13
          have u3 : 0 ≤ i ∧ 0 ≤ n ∧ i + n ≤ M 197 m := ⟨i00, n0, by clear wi wj; omega⟩
          have u4 : 0 ≤ j ∧ 0 ≤ n ∧ j + n ≤ M 197 l := ⟨j00, n0, by clear wi wj; omega⟩
          rw [if_pos u3] at g1
          rw [if_pos u4] at g2
          obtain ⟨x1, x2, x3, x4, x5, -⟩ := w_sh hhm
          obtain ⟨y1, y2, y3, y4, y5, -⟩ := w_sh hhl
          have f5 : e_gf 518 [((146 + 2 * m : Nat) : Int)] M = some (((146 + 2 * m : Nat) : Int) + 1) := (c_gr x1 (by decide +kernel)).trans (congrArg some x5)
          have f6 : e_gf 518 [((146 + 2 * l : Nat) : Int)] M = some (((146 + 2 * l : Nat) : Int) + 1) := (c_gr y1 (by decide +kernel)).trans (congrArg some y5)
          obtain ⟨I, hI⟩ : ∃ I : Nat, i = I := ⟨i.toNat, by clear wi wj; omega⟩
          obtain ⟨J, hJ'⟩ : ∃ J : Nat, j = J := ⟨j.toNat, by clear wi wj; omega⟩
          obtain ⟨L, hL⟩ : ∃ L : Nat, n = L := ⟨n.toNat, by clear wi wj; omega⟩
          subst hI
          subst hJ'
          subst hL
          obtain ⟨-, -, -, o1, -⟩ := c_el hhm
          obtain ⟨-, -, -, o2, -⟩ := c_el hhl
          rw [x5] at o1
          rw [y5] at o2
          have cp : e_cp [((146 + 2 * m : Nat) : Int) + 1, (I : Int), ((146 + 2 * l : Nat) : Int) + 1, (J : Int), (L : Int)] M = some (e_cpm M (147 + 2 * m) I (147 + 2 * l) J L) := by
            refine (if_pos ⟨o2, o1, i00, j00, n0, by rw [x4]; clear wi wj; omega, by rw [y4]; clear wi wj; omega⟩).trans ?_
            rw [show (((146 + 2 * m : Nat) : Int) + 1).toNat = 147 + 2 * m by clear wi wj; omega, show (((146 + 2 * l : Nat) : Int) + 1).toNat = 147 + 2 * l by clear wi wj; omega, Int.toNat_natCast, Int.toNat_natCast, Int.toNat_natCast]
          have e1 := Prod.mk.inj (Option.some.inj (k1.symm.trans (h_143e c0 c1 hx hy t1 t2 fm1 fl1 fm4 fl4 p1 p2 g1 g2 (by decide) (by decide) f5 f6 cp)))
          obtain ⟨e1, e2⟩ := e1
          have cO : ∀ id k, id ≠ 147 + 2 * l → M1 id k = M id k := fun id k h => by rw [e2]; exact if_neg (fun hc => h hc.1)
          have cI : ∀ k, M1 (147 + 2 * l) k = if J ≤ k ∧ k < J + L then M (147 + 2 * m) (I + (k - J)) else M (147 + 2 * l) k := fun k => by
            rw [e2]
            unfold e_cpm
            by_cases c : J ≤ k ∧ k < J + L
            · rw [if_pos ⟨rfl, c⟩, if_pos c]
            · rw [if_neg (fun hc => c hc.2), if_neg c]
          clear e2
          have i0' := h_is (d := (m : Int)) M1
          have i1' := h_is (d := (l : Int)) M1
          rw [if_pos hd] at i0'
          rw [if_pos he] at i1'
          obtain ⟨A1, A2, A3, -⟩ := r_isD (m : Int) M1 ⟨hd.1, by clear wi wj; omega⟩
          obtain ⟨B1, B2, B3, -⟩ := r_isD (l : Int) M1 ⟨he.1, by clear wi wj; omega⟩
          rw [Int.toNat_natCast, cO _ _ (by clear wi wj; omega)] at A1 A2 A3 B1 B2 B3
          rw [rm0] at A1
          rw [rl0] at B1
          rw [← ss] at B2
          have wi' := wi i00
          have wj' := wj j00
          clear wi wj
          have bI : I + L ≤ 120 := by clear wi' wj'; omega
          have bJ : J + L ≤ 120 := by clear wi' wj'; omega
          obtain ⟨M', v1, v2, v3⟩ := h_262l (d := m) (e := l) (i := I) (j := J) (n := L) m8 l8 bI bJ M1 L 0 0 M1 (Nat.zero_add _) ⟨fun t ht hw => by
            exfalso
            unfold h_W at hw
            clear wi' wj'
            split at hw <;> omega, fun _ _ _ => rfl⟩
          have v1' : E_V 262 122 [192, (m : Int), (I : Int), (l : Int), (J : Int), (L : Int), 0, 0] M1 = some ((L : Int), M') := v1
          have e3 := Prod.mk.inj (Option.some.inj (k2.symm.trans (h_262e i0' i1' A1 B1 A2 B2 A3 B3 wi' wj' n0 i00 j00 nm nl v1')))
          obtain ⟨e3, e4⟩ := e3
          subst e4
          clear wi' wj'
          refine ⟨e1.trans e3.symm, fun d' hd' => ?_⟩
          have z : ∀ id k, id ≠ 198 → id ≠ 147 + 2 * l → M2 id k = M id k := fun id k a c => (v3 id k (fun h => a h.1)).trans (cO id k c)
          rw [z 195 _ (by decide) (by omega), z 196 _ (by decide) (by omega), z 197 _ (by decide) (by omega), z (146 + 2 * d') _ (by omega) (by omega), z (146 + 2 * d') _ (by omega) (by omega), z (146 + 2 * d') _ (by omega) (by omega), z (146 + 2 * d') _ (by omega) (by omega)]
          rcases hS d' hd' with h | h | ⟨h1, h2, h3, h4, h5, h6⟩
          · exact Or.inl h
          · exact Or.inr (Or.inl h)
          · refine Or.inr (Or.inr ⟨h1, h2, h3, h4, h5, fun k hk => ?_⟩)
            by_cases c : d' = l
            · subst c
              rw [v3 _ _ (by omega), cI]
              by_cases c2 : J ≤ k ∧ k < J + L
              · rw [if_pos c2]
                have vv := v2 (k - J) (by omega)
                rw [show 120 * d' + J + (k - J) = 120 * d' + k by omega, cO _ _ (by omega)] at vv
                rw [vv, rme _ (by omega)]
                congr 1
                omega
              · rw [if_neg c2, v3 _ _ (by omega), cO _ _ (by omega)]
                exact h6 k hk
            · rw [v3 _ _ (by omega), v3 _ _ (by omega), cO _ _ (by omega), cO _ _ (by omega)]
              exact h6 k hk
        · have u : (if 0 ≤ i ∧ 0 ≤ n ∧ i + n ≤ M 197 m then (1 : Int) else 0) = 0 ∨ (if 0 ≤ j ∧ 0 ≤ n ∧ j + n ≤ M 197 l then (1 : Int) else 0) = 0 := by
            clear wi wj
            by_cases c : 0 ≤ i ∧ 0 ≤ n ∧ i + n ≤ M 197 m
            · refine Or.inr (if_neg (fun h => q13 ?_))
              omega
            · exact Or.inl (if_neg c)
          have e1 := Prod.mk.inj (Option.some.inj (k1.symm.trans (h_143d c0 c1 hx hy t1 t2 fm1 fl1 fm4 fl4 p1 p2 g1 g2 u)))
          obtain ⟨e1, e2⟩ := e1
          subst e2
          have e3 := Prod.mk.inj (Option.some.inj (k2.symm.trans (h_262d i0 i1 a1 b1 a2 b2 a3 b3 wi wj q13)))
          rw [e1, e3.1, e3.2]
          exact ⟨rfl, hS⟩
  · have cx : ∃ x y, E_C 154 [8, d] M = some (x, M) ∧ E_C 154 [8, e] M = some (y, M) ∧ (x = -1 ∨ y = -1) := by
      by_cases hd : 0 ≤ d ∧ d < 8
      · have he : ¬ (0 ≤ e ∧ e < 8) := fun h => hde ⟨hd, h⟩
        obtain ⟨m, hm⟩ : ∃ m : Nat, d = m := ⟨d.toNat, by omega⟩
        refine ⟨((146 + 2 * m : Nat) : Int), -1, ?_, h_154n he, Or.inr rfl⟩
        rw [hm]
        exact h_154a (by omega) (by omega) (h_rd145 (by omega) M)
      · by_cases he : 0 ≤ e ∧ e < 8
        · obtain ⟨m, hm⟩ : ∃ m : Nat, e = m := ⟨e.toNat, by omega⟩
          refine ⟨-1, ((146 + 2 * m : Nat) : Int), h_154n hd, ?_, Or.inl rfl⟩
          rw [hm]
          exact h_154a (by omega) (by omega) (h_rd145 (by omega) M)
        · exact ⟨-1, -1, h_154n hd, h_154n he, Or.inl rfl⟩
    obtain ⟨x, y, c0, c1, c2⟩ := cx
    have e1 := Prod.mk.inj (Option.some.inj (k1.symm.trans (h_143a (i := i) (j := j) (n := n) c0 c1 c2)))
    obtain ⟨e1, e2⟩ := e1
    subst e2
    have i0 := h_is (d := d) M1
    have i1 := h_is (d := e) M1
    have u : (if 0 ≤ d ∧ d < 8 then (1 : Int) else 0) = 0 ∨ (if 0 ≤ e ∧ e < 8 then (1 : Int) else 0) = 0 := by
      by_cases hd : 0 ≤ d ∧ d < 8
      · exact Or.inr (if_neg (fun h => hde ⟨hd, h⟩))
      · exact Or.inl (if_neg hd)
    have e3 := Prod.mk.inj (Option.some.inj (k2.symm.trans (h_262a (i := i) (j := j) (n := n) i0 i1 u)))
    rw [e1, e3.1, e3.2]
    exact ⟨rfl, hS⟩
end
section
/-! the relation's keepers by frames; sky's answers -/
theorem h_cG {W : AW} {M M1 : EM} (h4 : a_fr W M M1) (hW : (W.all fun w => decide (8 ≤ w.1) && decide (w.1 < 192)) = true) : ∀ id i, 192 ≤ id → M1 id i = M id i := fun id i hi => h4 id i (fun w hw hc => by
  have h := List.all_eq_true.mp hW w hw
  simp only [Bool.and_eq_true, decide_eq_true_eq] at h
  omega)
theorem h_keB {W : AW} {M M' : EM} (h : h_av h_KB W = true) (hf : a_fr W M M') (hB : h_B M 0 (r_G M)) : h_B M' 0 (r_G M') := h_keepB (h_av_ok h hf) hB
theorem h_keI {W : AW} {M M' : EM} (h : h_av h_KI W = true) (hf : a_fr W M M') (hB : h_B M 68 (r_Gi M)) : h_B M' 68 (r_Gi M') := h_keepI (h_av_ok h hf) hB
theorem h_keS {W : AW} {M M' : EM} (h : h_av h_KS W = true) (hf : a_fr W M M') (hS : h_S M) : h_S M' := h_keepS (h_av_ok h hf) hS
theorem h_keF {W : AW} {M M' : EM} (h : h_av [(165, 0, 0)] W = true) (hf : a_fr W M M') (h0 : M 165 0 = 0) : M' 165 0 = 0 := (h_av_ok h hf (165, 0, 0) List.mem_cons_self 0 (Nat.le_refl _) (Nat.le_refl _)).trans h0
theorem h_121n {d x z : Int} {M : EM} (c0 : E_C 154 [8, d] M = some (x, M)) (c1 : E_C 156 [x, -1] M = some (z, M)) (hz : z ≠ 0) : E_C 121 [8, d] M = some (z, M) := by
  have s0 : E_C 121 [8, d] M = e_tv E_C (E_V 121) e_t121_0 [8, d, 0, 0] M := r_ent (u := 121) (as := [8, d]) (M := M) (decide_eq_true c_this)
  rw [s0]
  unfold e_t121_0
  simp [e_tv, e_ev, e_sv, e_b1, e_b2, x_o1, x_o2, c0, c1, hz]
theorem h_121y {d h r n : Int} {M M1 : EM} (c0 : E_C 154 [8, d] M = some (h, M)) (hx : h ≠ -1) (c1 : E_C 156 [h, -1] M = some (0, M)) (k : E_C 76 [26, h] M = some (r, M1)) (f : e_gf 517 [h] M1 = some n) : E_C 121 [8, d] M = some (n, M1) := by
  have s0 : E_C 121 [8, d] M = e_tv E_C (E_V 121) e_t121_0 [8, d, 0, 0] M := r_ent (u := 121) (as := [8, d]) (M := M) (decide_eq_true c_this)
  rw [s0]
  unfold e_t121_0
  simp [e_tv, e_ev, e_sv, e_b1, e_b2, x_o1, x_o2, p_704, p_195, c0, hx, c1, k, f]
theorem h_121i {d h r1 : Int} {M M1 : EM} (hh : h ∈ a_SH) (c0 : E_C 154 [8, d] M = some (h, M)) (c1 : E_C 156 [h, -1] M = some (0, M)) (k1 : E_C 121 [8, d] M = some (r1, M1)) : r1 = M1 h.toNat 5 := by
  have hx : h ≠ -1 := by
    have := w_sh hh
    omega
  cases hk : E_C 76 [26, h] M with
  | none =>
    exfalso
    have s0 : E_C 121 [8, d] M = e_tv E_C (E_V 121) e_t121_0 [8, d, 0, 0] M := r_ent (u := 121) (as := [8, d]) (M := M) (decide_eq_true c_this)
    rw [s0] at k1
    unfold e_t121_0 at k1
    simp [e_tv, e_ev, e_sv, e_b1, e_b2, x_o1, x_o2, p_704, p_195, c0, hx, c1, hk] at k1
  | some z =>
    obtain ⟨r, N⟩ := z
    obtain ⟨-, -, -, f5⟩ := h_sf hh N
    have e := Prod.mk.inj (Option.some.inj (k1.symm.trans (h_121y c0 hx c1 hk f5)))
    rw [e.1, e.2]
end
section
/-! sky: the two answers -/
theorem h_225s {d z i y ia ib ic : Int} {na : Nat} {v : Int} {M : EM} (q : i < 120) (w0 : e_w (1202 + i) = ia) (w1 : e_w (120 * d) = ib) (w2 : e_w (ib + i) = ic) (w3 : e_w (i + 1) = y) (l : e_op 60 [198, ic] M = some v) (st : ∀ v, e_st 100 [193, ia, v] M = some (e_up M 193 na v)) : E_V 225 43 [192, d, z, i] M = E_V 225 43 [192, d, z, y] (e_up M 193 na v) := by
  rw [E_V_eq]
  show e_tv E_C (E_V 225) e_t225_43 [192, d, z, i] M = _
  unfold e_t225_43
  simp [e_tv, e_ev, e_sv, e_b1, e_b2, x_o1, x_o2, r_O0, r_O5, q, w0, w1, w2, w3, l, st]
theorem h_225e {d z n : Int} {M : EM} (l : e_op 60 [197, d] M = some n) : E_V 225 43 [192, d, z, 120] M = some (n, M) := by
  rw [E_V_eq]
  show e_tv E_C (E_V 225) e_t225_43 [192, d, z, 120] M = _
  unfold e_t225_43
  simp [e_tv, e_ev, e_sv, e_b1, e_b2, x_o1, x_o2, r_O4, l]
theorem h_225l {d : Nat} {z : Int} (hd : d < 8) : ∀ (m i : Nat) (M : EM), i + m = 120 → ∃ M', E_V 225 43 [192, (d : Int), z, (i : Int)] M = some (M 197 d, M') := by
  intro m
  induction m with
  | zero =>
    intro i M hm
    have e : i = 120 := by omega
    subst e
    have b : 0 ≤ (d : Int) ∧ (d : Int) ≤ 7 := by omega
    have l := (r_isD (d : Int) M b).2.2.1
    rw [Int.toNat_natCast] at l
    exact ⟨M, h_225e l⟩
  | succ m ih =>
    intro i M hm
    have q : (i : Int) < 120 := by omega
    have b1 : 0 ≤ 1202 + (i : Int) ∧ 1202 + (i : Int) < 1330 := by omega
    have b2 : 0 ≤ 120 * (d : Int) + (i : Int) ∧ 120 * (d : Int) + (i : Int) < 960 := by omega
    have st := fun v => r_stw (i := 1202 + (i : Int)) (v := v) (M := M) b1.1 b1.2
    have l := r_rdE (M := M) b2.1 b2.2
    have w : e_w (1202 + (i : Int)) = 1202 + (i : Int) ∧ e_w (120 * (d : Int)) = 120 * (d : Int) ∧ e_w (120 * (d : Int) + (i : Int)) = 120 * (d : Int) + (i : Int) ∧ e_w ((i : Int) + 1) = ((i + 1 : Nat) : Int) := by
      clear st l ih
      refine ⟨?_, ?_, ?_, (a_w_id (by omega) (by omega)).trans (by omega)⟩ <;> exact a_w_id (by omega) (by omega)
    obtain ⟨M', k⟩ := ih (i + 1) (e_up M 193 (1202 + (i : Int)).toNat (M 198 (120 * (d : Int) + (i : Int)).toNat)) (by omega)
    rw [c_up_n (fun h => absurd h.1 (by decide))] at k
    exact ⟨M', (h_225s q w.1 w.2.1 w.2.2.1 w.2.2.2 l st).trans k⟩
theorem h_225n {d z : Int} {M : EM} (k : E_C 189 [192, d, -1] M = some (z, M)) (hz : z ≠ 0) : E_C 225 [192, d] M = some (z, M) := by
  rw [r_ent (show e_rok 225 [192, d] = true from decide_eq_true r_ref)]
  show e_tv E_C (E_V 225) e_t225_0 [192, d, 0, 0] M = _
  unfold e_t225_0
  simp [e_tv, e_ev, e_sv, e_b1, e_b2, x_o1, x_o2, k, hz]
theorem h_225y {d a c : Int} {M : EM} {o : EO} (k : E_C 189 [192, d, -1] M = some (0, M)) (l1 : ∀ M', M' 197 = M 197 → e_op 60 [197, d] M' = some a) (l2 : ∀ M', M' 196 = M 196 → e_op 60 [196, d] M' = some c) (g : E_V 225 43 [192, d, 0, 0] (e_up (e_up M 193 1200 a) 193 1201 c) = o) : E_C 225 [192, d] M = o := by
  have s1 : ∀ v M, e_st 100 [193, 1200, v] M = some (e_up M 193 1200 v) := fun v M => r_stw (i := 1200) (by decide) (by decide)
  have s2 : ∀ v M, e_st 100 [193, 1201, v] M = some (e_up M 193 1201 v) := fun v M => r_stw (i := 1201) (by decide) (by decide)
  have e1 := l1 M rfl
  have e2 := l2 (e_up M 193 1200 a) (by funext j; exact c_up_n (fun h => absurd h.1 (by decide)))
  rw [r_ent (show e_rok 225 [192, d] = true from decide_eq_true r_ref)]
  show e_tv E_C (E_V 225) e_t225_0 [192, d, 0, 0] M = _
  unfold e_t225_0
  simp [e_tv, e_ev, e_sv, e_b1, e_b2, x_o1, x_o2, r_O0, r_O3, r_O4, k, e1, e2, s1, s2, g]
theorem h_sky {d r1 r2 : Int} {M M1 M2 : EM} (hS : h_S M) (hfr : ∀ id i, 192 ≤ id → M1 id i = M id i) (hsh : ∀ m : Nat, m < 8 → M1 (146 + 2 * m) 5 = M (146 + 2 * m) 5) (k1 : E_C 121 [8, d] M = some (r1, M1)) (k2 : E_C 225 [192, d] M1 = some (r2, M2)) : r1 = r2 ∧ True := by
  refine ⟨?_, trivial⟩
  have k3 := h_189 (d := d) (w := -1) (M := M1) (by decide)
  have eno : h_no M1 d (-1) = h_no M d (-1) := by
    unfold h_no
    rw [hfr 195 _ (by decide), hfr 196 _ (by decide)]
  rw [eno] at k3
  by_cases q : h_no M d (-1) = 0
  · obtain ⟨hd, kept⟩ := h_no2 q
    obtain ⟨m, rfl⟩ : ∃ m : Nat, d = m := ⟨d.toNat, by omega⟩
    rw [Int.toNat_natCast] at kept
    have m8 : m < 8 := by omega
    have hh := (h_gr145 m8).2
    obtain ⟨c0, c1⟩ := h_ref (w := -1) hS hd
    rw [q, Int.toNat_natCast] at c1
    rw [Int.toNat_natCast] at c0
    rw [q] at k3
    have a1 := h_121i hh c0 c1 k1
    rw [Int.toNat_natCast, hsh m m8] at a1
    have e5 : M (146 + 2 * m) 5 = M 197 m := by
      rcases hS m m8 with ⟨a, -⟩ | ⟨a, -⟩ | ⟨a, -, -, -, e5, -⟩
      · omega
      · omega
      · exact e5
    have b : 0 ≤ (m : Int) ∧ (m : Int) ≤ 7 := by omega
    have l1 : ∀ M', M' 197 = M1 197 → e_op 60 [197, (m : Int)] M' = some (M1 197 m) := fun M' e => by
      have l := (r_isD (m : Int) M' b).2.2.1
      rw [Int.toNat_natCast, e] at l
      exact l
    have l2 : ∀ M', M' 196 = M1 196 → e_op 60 [196, (m : Int)] M' = some (M1 196 m) := fun M' e => by
      have l := (r_isD (m : Int) M' b).2.1
      rw [Int.toNat_natCast, e] at l
      exact l
    obtain ⟨M', g⟩ := h_225l (z := 0) m8 120 0 (e_up (e_up M1 193 1200 (M1 197 m)) 193 1201 (M1 196 m)) (by decide)
    rw [c_up_n (fun h => absurd h.1 (by decide)), c_up_n (fun h => absurd h.1 (by decide))] at g
    have e3 := Prod.mk.inj (Option.some.inj (k2.symm.trans (h_225y k3 l1 l2 g)))
    rw [a1, e3.1, e5]
    exact (hfr 197 m (by decide)).symm
  · have cc : ∃ x, E_C 154 [8, d] M = some (x, M) ∧ E_C 156 [x, -1] M = some (h_no M d (-1), M) := by
      by_cases hd : 0 ≤ d ∧ d < 8
      · exact ⟨_, h_ref hS hd⟩
      · obtain ⟨a, b, c⟩ := h_ref1 (w := -1) (M := M) hd
        exact ⟨-1, a, by rw [c]; exact b⟩
    obtain ⟨x, c0, c1⟩ := cc
    have e1 := Prod.mk.inj (Option.some.inj (k1.symm.trans (h_121n c0 c1 q)))
    have e3 := Prod.mk.inj (Option.some.inj (k2.symm.trans (h_225n k3 q)))
    rw [e1.1, e3.1]
theorem h_sh5 {W : AW} {M M' : EM} (h : h_av h_KS W = true) (hf : a_fr W M M') : ∀ m : Nat, m < 8 → M' (146 + 2 * m) 5 = M (146 + 2 * m) 5 := fun m hm => by
  have mem : (146 + 2 * m, 4, 5) ∈ h_KS := List.mem_append.mpr (Or.inr (List.mem_flatMap.mpr ⟨m, List.mem_range.mpr hm, by simp⟩))
  exact h_av_ok h hf _ mem 5 (Nat.le_succ 4) (Nat.le_refl 5)
end
