/-! keep: the two answers, and SHELVES stay related -/
theorem h_149 {k : Int} {M : EM} : E_C 149 [8, k] M = some (if 0 ≤ k ∧ k < M 10 0 then 1 else 0, M) := by
  have s0 : E_C 149 [8, k] M = e_tv E_C (E_V 149) e_t149_0 [8, k] M := r_ent (u := 149) (as := [8, k]) (M := M) (decide_eq_true c_this)
  rw [s0]
  unfold e_t149_0
  have f := w_P0 M
  generalize M 10 0 = c at f ⊢
  rcases x_le 0 k with ⟨q, q_n⟩ | ⟨q, q_n⟩
  · rcases x_lt k c with ⟨q1, q1_n⟩ | ⟨q1, q1_n⟩
    · rw [if_pos ⟨q, q1⟩]
      simp [e_tv, e_ev, e_sv, e_b1, e_b2, x_o1, x_o2, p_704, w_H0, f, q, q_n, q1, q1_n]
    · rw [if_neg (fun e => q1 e.2)]
      simp [e_tv, e_ev, e_sv, e_b1, e_b2, x_o1, x_o2, p_704, w_H0, f, q, q_n, q1, q1_n]
  · rw [if_neg (fun e => q e.1)]
    simp [e_tv, e_ev, e_sv, e_b1, e_b2, x_o1, x_o2, p_704, w_H0, f, q, q_n]
theorem h_85 {h : Int} (hh : h ∈ a_SH) (M : EM) : E_C 85 [h] M = some (0, e_up (e_up M h.toNat 0 0) h.toNat 1 0) := by
  obtain ⟨s1, -⟩ := w_sh hh
  have p0 : ∀ v M, e_pf 512 [h, v] M = some (e_up M h.toNat 0 v) := fun v M => c_pf s1 (by decide +kernel)
  have p1 : ∀ v M, e_pf 513 [h, v] M = some (e_up M h.toNat 1 v) := fun v M => c_pf s1 (by decide +kernel)
  rw [r_ent (show e_rok 85 [h] = true from decide_eq_true s1)]
  show e_tv E_C (E_V 85) e_t85_0 [h] M = _
  unfold e_t85_0
  simp [e_tv, e_ev, e_sv, e_b1, e_b2, x_o1, x_o2, p0, p1]
theorem h_86 {h a c : Int} (hh : h ∈ a_SH) (M : EM) : E_C 86 [h, a, c] M = some (0, e_up (e_up (e_up (e_up M h.toNat 0 1) h.toNat 1 0) h.toNat 2 a) h.toNat 3 c) := by
  obtain ⟨s1, -⟩ := w_sh hh
  have p0 : ∀ v M, e_pf 512 [h, v] M = some (e_up M h.toNat 0 v) := fun v M => c_pf s1 (by decide +kernel)
  have p1 : ∀ v M, e_pf 513 [h, v] M = some (e_up M h.toNat 1 v) := fun v M => c_pf s1 (by decide +kernel)
  have p2 : ∀ v M, e_pf 514 [h, v] M = some (e_up M h.toNat 2 v) := fun v M => c_pf s1 (by decide +kernel)
  have p3 : ∀ v M, e_pf 515 [h, v] M = some (e_up M h.toNat 3 v) := fun v M => c_pf s1 (by decide +kernel)
  rw [r_ent (show e_rok 86 [h, a, c] = true from decide_eq_true s1)]
  show e_tv E_C (E_V 86) e_t86_0 [h, a, c] M = _
  unfold e_t86_0
  simp [e_tv, e_ev, e_sv, e_b1, e_b2, x_o1, x_o2, p0, p1, p2, p3]
theorem h_139n {d w k x t : Int} {M : EM} (c0 : E_C 154 [8, d] M = some (x, M)) (c1 : E_C 149 [8, k] M = some (t, M)) (h : x = -1 ∨ ¬ (0 ≤ w ∧ w ≤ 1) ∨ (w = 1 ∧ t = 0)) : E_C 139 [8, d, w, k] M = some (-1, M) := by
  have s0 : E_C 139 [8, d, w, k] M = e_tv E_C (E_V 139) e_t139_0 [8, d, w, k, 0] M := r_ent (u := 139) (as := [8, d, w, k]) (M := M) (decide_eq_true c_this)
  rw [s0]
  unfold e_t139_0
  by_cases q0 : x = -1
  · simp [e_tv, e_ev, e_sv, e_b1, e_b2, x_o1, x_o2, c0, q0]
  · rcases x_le 0 w with ⟨q1, q1_n⟩ | ⟨q1, q1_n⟩
    · rcases x_le w 1 with ⟨q2, q2_n⟩ | ⟨q2, q2_n⟩
      · have q3 : w = 1 ∧ t = 0 := by
          rcases h with h | h | h
          · exact absurd h q0
          · exact absurd ⟨q1, q2⟩ h
          · exact h
        obtain ⟨rfl, rfl⟩ := q3
        simp [e_tv, e_ev, e_sv, e_b1, e_b2, x_o1, x_o2, c0, q0, c1]
      · simp [e_tv, e_ev, e_sv, e_b1, e_b2, x_o1, x_o2, c0, q0, q1, q1_n, q2, q2_n]
    · simp [e_tv, e_ev, e_sv, e_b1, e_b2, x_o1, x_o2, c0, q0, q1, q1_n]
theorem h_63 {l : List Int} {M : EM} : E_V 139 63 l M = some (0, M) := by
  rw [E_V_eq]
  show e_tv E_C (E_V 139) e_t139_63 l M = _
  unfold e_t139_63
  simp [e_tv, e_ev, e_sv, e_b1, e_b2, x_o1, x_o2]
theorem h_139a {d k x r : Int} {M M1 : EM} (c0 : E_C 154 [8, d] M = some (x, M)) (hx : x ≠ -1) (c1 : E_C 85 [x] M = some (r, M1)) : E_C 139 [8, d, 0, k] M = some (0, M1) := by
  have s0 : E_C 139 [8, d, 0, k] M = e_tv E_C (E_V 139) e_t139_0 [8, d, 0, k, 0] M := r_ent (u := 139) (as := [8, d, 0, k]) (M := M) (decide_eq_true c_this)
  rw [s0]
  unfold e_t139_0
  simp [e_tv, e_ev, e_sv, e_b1, e_b2, x_o1, x_o2, c0, hx, c1, h_63]
theorem h_139b {d k x a c r : Int} {M Ma Mb M1 : EM} (c0 : E_C 154 [8, d] M = some (x, M)) (hx : x ≠ -1) (c1 : E_C 149 [8, k] M = some (1, M)) (c2 : E_C 165 [8, k] M = some (a, Ma)) (c3 : E_C 166 [8, k] Ma = some (c, Mb)) (c4 : E_C 86 [x, a, c] Mb = some (r, M1)) : E_C 139 [8, d, 1, k] M = some (0, M1) := by
  have s0 : E_C 139 [8, d, 1, k] M = e_tv E_C (E_V 139) e_t139_0 [8, d, 1, k, 0] M := r_ent (u := 139) (as := [8, d, 1, k]) (M := M) (decide_eq_true c_this)
  rw [s0]
  unfold e_t139_0
  simp [e_tv, e_ev, e_sv, e_b1, e_b2, x_o1, x_o2, c0, hx, c1, c2, c3, c4, h_63]
theorem h_wb_out {M M' : EM} (h : a_fr h_wb M M') {id k : Nat} (hi : id < 170 ∨ 181 < id) : M' id k = M id k := h id k (fun w hw hc => by
  have key : ∀ w ∈ h_wb, 170 ≤ w.1 ∧ w.1 ≤ 181 := by decide
  have := key w hw
  omega)
theorem h_wH_out {M M' : EM} (h : a_fr (h_wH ++ r_wq) M M') {id k : Nat} (hi : id < 192 ∨ 193 ≤ id ∧ id ≤ 198) : M' id k = M id k := h id k (fun w hw hc => by
  have key : ∀ w ∈ h_wH ++ r_wq, w.1 = 192 ∨ 199 ≤ w.1 := by decide
  have := key w hw
  omega)
theorem h_kept {d w k r1 r2 : Int} {M M1 M2 : EM} (hJ : r_J M) (J1 : r_J M1) (hB : h_B M 0 (r_G M)) (hS : h_S M) (hk : -2147483648 ≤ k ∧ k ≤ 2147483647) (hfr : ∀ i, M1 193 i = M 193 i) (k1 : E_C 139 [8, d, w, k] M = some (r1, M1)) (k2 : E_C 258 [192, d, w, k] M1 = some (r2, M2)) : r1 = r2 ∧ h_S M2 := by
  have eG1 : r_G M1 = r_G M := funext fun i => hfr _
  obtain ⟨r, M2', c1, c2⟩ := h_keep2 (d := d) (w := w) (p := k) J1
  have e3 := Prod.mk.inj (Option.some.inj (k2.symm.trans c1))
  obtain ⟨e3, e4⟩ := e3
  subst e3
  subst e4
  rw [eG1] at c2
  have ip := h_149 (k := k) (M := M)
  have h10 := hB.1
  rw [h10] at ip
  rcases c2 with ⟨⟨q0, q1, q2⟩, e, f⟩ | ⟨q, e, f⟩
  · obtain ⟨m, hm⟩ : ∃ m : Nat, d = m := ⟨d.toNat, by omega⟩
    have m8 : m < 8 := by omega
    have hh := (h_gr145 m8).2
    have c0 : E_C 154 [8, d] M = some (((146 + 2 * m : Nat) : Int), M) := by
      rw [hm]
      exact h_154a (by omega) (by omega) (h_rd145 m8 M)
    have hs : ((146 + 2 * m : Nat) : Int) ≠ -1 := by omega
    have em : d.toNat = m := by omega
    rw [em] at f
    -- what the class leaves
    have cl : r1 = 0 ∧ M1 (146 + 2 * m) 0 = w ∧ M1 (146 + 2 * m) 1 = 0 ∧ ∀ id j, ¬ (id = 146 + 2 * m ∧ j ≤ 3) → id < 170 ∨ 181 < id → M1 id j = M id j := by
      by_cases c : w = 1
      · subst c
        rw [if_pos (q2 rfl)] at ip
        obtain ⟨a, Ma, a1, -, a2, a3⟩ := a_entry h_c165 (as := [8, k]) (M := M) ⟨List.mem_cons_self, a_gi hk.1 hk.2, trivial⟩ hJ.1
        obtain ⟨c, Mb, b1, -, b2, b3⟩ := a_entry h_c166 (as := [8, k]) (M := Ma) ⟨List.mem_cons_self, a_gi hk.1 hk.2, trivial⟩ a2
        have e1 := Prod.mk.inj (Option.some.inj (k1.symm.trans (h_139b c0 hs ip a1 b1 (h_86 hh Mb))))
        obtain ⟨e1, e2⟩ := e1
        rw [Int.toNat_natCast] at e2
        refine ⟨e1, ?_, ?_, fun id j h h' => ?_⟩
        · rw [e2, c_up_n (by omega), c_up_n (by omega), c_up_n (by omega), c_up_s]
        · rw [e2, c_up_n (by omega), c_up_n (by omega), c_up_s]
        · rw [e2, c_up_n (by omega), c_up_n (by omega), c_up_n (by omega), c_up_n (by omega), h_wb_out b3 h', h_wb_out a3 h']
      · have w0 : w = 0 := by omega
        subst w0
        have e1 := Prod.mk.inj (Option.some.inj (k1.symm.trans (h_139a c0 hs (h_85 hh M))))
        obtain ⟨e1, e2⟩ := e1
        rw [Int.toNat_natCast] at e2
        refine ⟨e1, ?_, ?_, fun id j h h' => ?_⟩
        · rw [e2, c_up_n (by omega), c_up_s]
        · rw [e2, c_up_s]
        · rw [e2, c_up_n (by omega), c_up_n (by omega)]
    obtain ⟨l1, l2, l3, l4⟩ := cl
    have z : ∀ id j, id < 192 ∨ 196 ≤ id ∧ id ≤ 198 → M2 id j = M1 id j := fun id j h => by
      rw [h_wH_out f (by omega)]
      exact c_up_n (by omega)
    have zk : M2 195 m = w := by
      rw [h_wH_out f (by omega)]
      exact c_up_s
    have zk2 : ∀ j, j ≠ m → M2 195 j = M 195 j := fun j hj => by
      rw [h_wH_out f (by omega), c_up_n (by omega)]
      exact l4 _ _ (by omega) (by omega)
    refine ⟨l1.trans e.symm, h_S_set (m := m) hS ?_ (fun d' hd' hne => ?_)⟩
    · by_cases c : w = 1
      · exact Or.inr (Or.inl ⟨zk.trans c, (z _ _ (by omega)).trans (l2.trans c), (z _ _ (by omega)).trans l3⟩)
      · have w0 : w = 0 := by omega
        exact Or.inl ⟨zk.trans w0, (z _ _ (by omega)).trans (l2.trans w0), (z _ _ (by omega)).trans l3⟩
    · have zz : ∀ id j, (id = 146 + 2 * d' ∨ id = 147 + 2 * d' ∨ 196 ≤ id ∧ id ≤ 198) → M2 id j = M id j := fun id j h => (z id j (by omega)).trans (l4 id j (by omega) (by omega))
      exact ⟨zk2 d' hne, zz _ _ (by omega), zz _ _ (by omega), zz _ _ (by omega), zz _ _ (by omega), zz _ _ (by omega), zz _ _ (by omega), fun i hi => ⟨zz _ _ (by omega), zz _ _ (by omega)⟩⟩
  · have e1 : r1 = -1 ∧ M1 = M := by
      by_cases hd : 0 ≤ d ∧ d < 8
      · obtain ⟨m, hm⟩ : ∃ m : Nat, d = m := ⟨d.toNat, by omega⟩
        have c0 : E_C 154 [8, d] M = some (((146 + 2 * m : Nat) : Int), M) := by
          rw [hm]
          exact h_154a (by omega) (by omega) (h_rd145 (by omega) M)
        refine Prod.mk.inj (Option.some.inj (k1.symm.trans (h_139n c0 ip ?_)))
        by_cases c : 0 ≤ w ∧ w ≤ 1
        · refine Or.inr (Or.inr ?_)
          by_cases c1 : w = 1
          · refine ⟨c1, if_neg (fun e => q ⟨by omega, c, fun _ => e⟩)⟩
          · exact absurd ⟨⟨hd.1, by omega⟩, c, fun e => absurd e c1⟩ q
        · exact Or.inr (Or.inl c)
      · exact Prod.mk.inj (Option.some.inj (k1.symm.trans (h_139n (h_154n hd) ip (Or.inl rfl))))
    rw [e1.1, e, f, e1.2]
    exact ⟨rfl, hS⟩
