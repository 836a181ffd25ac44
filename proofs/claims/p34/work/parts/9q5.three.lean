/-! what the law's three helpers write -/
def l_wQ : AW := a_w1 ++ (a_w16 ++ (a_w160 ++ [(213, 0, 0), (5, 0, 0)]))
theorem l_F1 {W : AW} {M M' : EM} {v : Int} (h : a_fr W M M') (hW : (W.all fun w => decide (w ∈ l_wQ)) = true) : a_fr l_wQ M (e_up M' 213 0 v) := fun id k hn => by
  have hm : ((213, 0, 0) : Nat × Nat × Nat) ∈ l_wQ := by decide +kernel
  rw [c_up_n (fun e => hn _ hm ⟨e.1.symm, by dsimp only; omega, by dsimp only; omega⟩)]
  exact h id k (fun w hw => hn w (of_decide_eq_true (List.all_eq_true.mp hW w hw)))
theorem l_F2 {M : EM} : a_fr l_wQ M (c_thr M) := fun id k hn => by
  have hm : ((5, 0, 0) : Nat × Nat × Nat) ∈ l_wQ := by decide +kernel
  exact c_up_n (fun e => hn _ hm ⟨e.1.symm, by dsimp only; omega, by dsimp only; omega⟩)
theorem l_rfF {W : AW} {u : Nat} {as : List Int} {M : EM} (h : r_T W u as M) (hW : (W.all fun w => decide (192 ≤ w.1)) = true) : ∃ r M1, E_C u as M = some (r, M1) ∧ l_s0 M M1 ∧ a_fr (W ++ r_wq) M M1 := by
  obtain ⟨r, M1, k, s⟩ := l_rf h hW
  obtain ⟨r', M1', k', j, f⟩ := h
  have p := Prod.mk.inj (Option.some.inj (k.symm.trans k'))
  obtain ⟨-, rfl⟩ := p
  exact ⟨r, M1, k, s, f⟩
theorem l_pushF {p c : Int} {M : EM} (hJ : r_J M) (hp : -2147483648 ≤ p ∧ p ≤ 2147483647) (hc : -2147483648 ≤ c ∧ c ≤ 2147483647) : ∃ r M1, E_C 271 [8, p, c, 213] M = some (r, M1) ∧ l_st M M1 ∧ a_fr l_wQ M M1 := by
  obtain ⟨r, M', k, h⟩ := l_cpush hJ.1 hp hc
  have j16 : ∀ M1, E_V 271 16 [8, p, c, 213, 0] M1 = some (0, M1) := by
    intro M1
    rw [E_V_eq]
    show e_tv E_C (E_V 271) e_t271_16 [8, p, c, 213, 0] M1 = _
    unfold e_t271_16
    simp [e_tv, e_ev, e_sv, e_b1, e_b2, x_o1, x_o2]
  rcases h with ⟨h1, h2, h3⟩ | ⟨h1, h2⟩
  · have n := l_TH r h1
    have s1 := l_cl hJ h2 h3 (by decide +kernel)
    have s2 := l_J213 s1.1 h1
    refine ⟨0, e_up M' 213 0 r, ?_, l_st_s0 (l_s0_st s1) s2, l_F1 h3 (by decide +kernel)⟩
    rw [l_ent (show e_rok 271 [8, p, c, 213] = true from rfl)]
    show e_tv E_C (E_V 271) e_t271_0 [8, p, c, 213, 0] M = _
    unfold e_t271_0
    simp [e_tv, e_ev, e_sv, e_b1, e_b2, x_o1, x_o2, k, n.1, n.2, l_st213, j16]
  · subst h2
    refine ⟨1, c_thr M, ?_, l_thr hJ, l_F2⟩
    rw [l_ent (show e_rok 271 [8, p, c, 213] = true from rfl)]
    show e_tv E_C (E_V 271) e_t271_0 [8, p, c, 213, 0] M = _
    unfold e_t271_0
    simp [e_tv, e_ev, e_sv, e_b1, e_b2, x_o1, x_o2, k, h1]
theorem l_lossF {p c al : Int} {M : EM} (hJ : r_J M) (hp : -2147483648 ≤ p ∧ p ≤ 2147483647) (hc : -2147483648 ≤ c ∧ c ≤ 2147483647) : ∃ r M1, E_C 272 [8, p, c, al, 213] M = some (r, M1) ∧ l_st M M1 ∧ a_fr l_wQ M M1 := by
  obtain ⟨r, M', k, h⟩ := l_closs (al := al) hJ.1 hp hc
  have j16 : ∀ M1, E_V 272 18 [8, p, c, al, 213, 0] M1 = some (0, M1) := by
    intro M1
    rw [E_V_eq]
    show e_tv E_C (E_V 272) e_t272_18 [8, p, c, al, 213, 0] M1 = _
    unfold e_t272_18
    simp [e_tv, e_ev, e_sv, e_b1, e_b2, x_o1, x_o2]
  rcases h with ⟨h1, h2, h3⟩ | ⟨h1, h2⟩
  · have n := l_TH r h1
    have s1 := l_cl hJ h2 h3 (by decide +kernel)
    have s2 := l_J213 s1.1 h1
    refine ⟨0, e_up M' 213 0 r, ?_, l_st_s0 (l_s0_st s1) s2, l_F1 h3 (by decide +kernel)⟩
    rw [l_ent (show e_rok 272 [8, p, c, al, 213] = true from rfl)]
    show e_tv E_C (E_V 272) e_t272_0 [8, p, c, al, 213, 0] M = _
    unfold e_t272_0
    simp [e_tv, e_ev, e_sv, e_b1, e_b2, x_o1, x_o2, k, n.1, n.2, l_st213, j16]
  · subst h2
    refine ⟨1, c_thr M, ?_, l_thr hJ, l_F2⟩
    rw [l_ent (show e_rok 272 [8, p, c, al, 213] = true from rfl)]
    show e_tv E_C (E_V 272) e_t272_0 [8, p, c, al, 213, 0] M = _
    unfold e_t272_0
    simp [e_tv, e_ev, e_sv, e_b1, e_b2, x_o1, x_o2, k, h1]
theorem l_elementF {d i : Int} {M : EM} (hJ : r_J M) (hd : -2147483648 ≤ d ∧ d ≤ 2147483647) (hi : -2147483648 ≤ i ∧ i ≤ 2147483647) : ∃ r M1, E_C 273 [8, d, i, 213] M = some (r, M1) ∧ l_st M M1 ∧ a_fr l_wQ M M1 := by
  obtain ⟨r, M', k, h⟩ := c_element hJ.1 hd hi
  have j16 : ∀ M1, E_V 273 20 [8, d, i, 213, 0] M1 = some (0, M1) := by
    intro M1
    rw [E_V_eq]
    show e_tv E_C (E_V 273) e_t273_20 [8, d, i, 213, 0] M1 = _
    unfold e_t273_20
    simp [e_tv, e_ev, e_sv, e_b1, e_b2, x_o1, x_o2]
  have e10 : ¬ (e_TH + 1 = e_TH) := by unfold e_TH; decide
  rcases h with ⟨h1, h2, h3⟩ | ⟨h1, h2⟩
  · have h1' := l_T64 h1
    have n := l_TH r h1'
    have s1 := l_cl hJ h2 h3 (by decide +kernel)
    have s2 := l_J213 s1.1 h1'
    refine ⟨0, e_up M' 213 0 r, ?_, l_st_s0 (l_s0_st s1) s2, l_F1 h3 (by decide +kernel)⟩
    rw [l_ent (show e_rok 273 [8, d, i, 213] = true from rfl)]
    show e_tv E_C (E_V 273) e_t273_0 [8, d, i, 213, 0] M = _
    unfold e_t273_0
    simp [e_tv, e_ev, e_sv, e_b1, e_b2, x_o1, x_o2, k, n.1, n.2, l_st213, j16]
  · subst h2
    rcases h1 with h1 | h1
    · refine ⟨1, c_thr M, ?_, l_thr hJ, l_F2⟩
      rw [l_ent (show e_rok 273 [8, d, i, 213] = true from rfl)]
      show e_tv E_C (E_V 273) e_t273_0 [8, d, i, 213, 0] M = _
      unfold e_t273_0
      simp [e_tv, e_ev, e_sv, e_b1, e_b2, x_o1, x_o2, k, h1]
    · refine ⟨2, c_thr M, ?_, l_thr hJ, l_F2⟩
      rw [l_ent (show e_rok 273 [8, d, i, 213] = true from rfl)]
      show e_tv E_C (E_V 273) e_t273_0 [8, d, i, 213, 0] M = _
      unfold e_t273_0
      simp [e_tv, e_ev, e_sv, e_b1, e_b2, x_o1, x_o2, k, h1, e10]
