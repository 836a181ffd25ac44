theorem c_gf {key : Nat} {a : Int} {M : EM} (h : e_isO (key / 64) a) (ht : e_fty key ≠ 2) : e_gf key [a] M = some (M a.toNat (key % 64)) := by
  show (if e_isO (key / 64) a then some (if e_fty key = 2 then e_gr a.toNat (key % 64) else M a.toNat (key % 64)) else none) = _
  rw [if_pos h, if_neg ht]
theorem c_gr {key : Nat} {a : Int} {M : EM} (h : e_isO (key / 64) a) (ht : e_fty key = 2) : e_gf key [a] M = some (e_gr a.toNat (key % 64)) := by
  show (if e_isO (key / 64) a then some (if e_fty key = 2 then e_gr a.toNat (key % 64) else M a.toNat (key % 64)) else none) = _
  rw [if_pos h, if_pos ht]
theorem c_pf {key : Nat} {a v : Int} {M : EM} (h : e_isO (key / 64) a) (ht : e_fty key ≠ 2) : e_pf key [a, v] M = some (e_up M a.toNat (key % 64) v) := if_pos ⟨h, ht⟩
theorem c_up_s {M : EM} {a k : Nat} {v : Int} : e_up M a k v a k = v := by unfold e_up; simp
theorem c_up_n {M : EM} {a k b j : Nat} {v : Int} (h : ¬ (b = a ∧ j = k)) : e_up M a k v b j = M b j := by
  unfold e_up
  by_cases hb : b = a
  · rw [if_pos hb, if_neg (fun hj => h ⟨hb, hj⟩)]
  · rw [if_neg hb]
/-- the known methods but for the reading of a TEXT -/
def a_orc0 (W : AW) (u : Nat) (xs : List AV) : Option AV := if u = 59 then none else a_orc W u xs
theorem a_orc0_ok (W : AW) : a_CALL W (a_orc0 W) := by
  intro u xs v h as M hg hM
  unfold a_orc0 at h
  split at h
  · cases h
  · rename_i n59
    unfold a_orc at h
    split at h
    · rename_i hu
      subst hu
      split at h
      · exact a_at_ok h hg hM
      · cases h
    · split at h
      · rename_i hu
        subst hu
        split at h
        · rename_i ids x y
          split at h
          · rename_i hall
            cases h
            obtain ⟨a, b, c, rfl, ha, -, -⟩ := a_gs_3 hg
            obtain ⟨r, r1, r2, r3⟩ := c_hc (c := b) (n := c) (M := M) (of_decide_eq_true (List.all_eq_true.mp hall a ha))
            exact ⟨r, M, r1, a_gi r2 r3, hM, a_fr_rf⟩
          · cases h
        · cases h
      · cases h
set_option maxRecDepth 100000 in
theorem a_g60 : (a_rok 60 a_x60 && a_an a_w60 (a_orc0 a_w60) 60 60 [] (a_ent 60 a_x60) (.mulL 4 (.num 0))) = true := by decide +kernel
theorem a_w60_RW : a_sub a_w60 a_RW = true ∧ (a_w60.all fun w => decide (w.1 ≠ e_RD.toNat) || decide (2 ≤ w.2.1)) = true := by decide +kernel
theorem a_sub_fr {R W : AW} {M M' : EM} (h : a_sub R W = true) (hf : a_fr R M M') : a_fr W M M' := by
  intro id k hw
  refine hf id k (fun r hr hc => ?_)
  obtain ⟨w, w1, w2⟩ := List.any_eq_true.mp (List.all_eq_true.mp h r hr)
  simp only [Bool.and_eq_true, decide_eq_true_eq] at w2
  exact hw w w1 ⟨by omega, by omega, by omega⟩
/-- one byte more -/
theorem c_goOn {x : Int} {M : EM} (hM : a_M M) (hx : -2147483648 ≤ x ∧ x ≤ 2147483647) : ∃ r M', E_C 60 [e_RD, x] M = some (r, M') ∧ (0 ≤ r ∧ r ≤ 1) ∧ a_M M' ∧ a_fr a_RW M M' ∧ M' e_RD.toNat 0 = M e_RD.toNat 0 ∧ M' e_RD.toNat 1 = M e_RD.toNat 1 := by
  have hg : a_gs a_x60 [e_RD, x] := ⟨List.mem_cons_self, a_gi hx.1 hx.2, trivial⟩
  obtain ⟨r, M', h1, h2, h3, h4⟩ := a_call_ok (a_orc0_ok a_w60) a_g60 hg hM
  have hk : ∀ k, k < 2 → M' e_RD.toNat k = M e_RD.toNat k := by
    intro k hk
    refine h4 _ _ (fun w hw hc => ?_)
    have := List.all_eq_true.mp a_w60_RW.2 w hw
    simp only [Bool.or_eq_true, decide_eq_true_eq] at this
    rcases this with h | h
    · exact h hc.1
    · omega
  have hr : a_g (a_i 0 1) r := by
    have : a_rho 60 = a_i 0 1 := by rfl
    rw [← this]; exact h2
  exact ⟨r, M', h1, ⟨hr.1, hr.2.1⟩, h3, a_sub_fr a_w60_RW.1 h4, hk 0 (by decide), hk 1 (by decide)⟩
theorem c_rd5 : e_isO 5 e_RD := by decide +kernel
theorem c_shelf {h : Int} (hh : h ∈ a_SH) : e_isO 8 h ∧ 0 < e_gr h.toNat 6 ∧ (e_gr h.toNat 6).toNat < e_N ∧ e_sh (e_gr h.toNat 6).toNat = (100, 120) := by
  have h2 : ∀ x ∈ a_SH, e_isO 8 x ∧ 0 < e_gr x.toNat 6 ∧ (e_gr x.toNat 6).toNat < e_N ∧ e_sh (e_gr x.toNat 6).toNat = (100, 120) := by decide +kernel
  exact h2 h hh
theorem c_RW_up {M : EM} {k : Nat} {v : Int} (hk : k < 9) (hv : -2147483648 ≤ v ∧ v ≤ 2147483647) (hM : a_M M) : a_M (e_up M e_RD.toNat k v) ∧ a_fr a_RW M (e_up M e_RD.toNat k v) := by
  have hz : ∀ k, k < 9 → a_ok a_RW e_RD.toNat (k : Nat) (k : Nat) (-2147483648, 2147483647, false) = true := by decide +kernel
  exact a_up_ok (k := k) (hz k hk) (Int.le_refl _) (Int.le_refl _) ⟨hv.1, hv.2, fun h => by cases h⟩ hM
theorem c_rs_loop {h : Int} (hh : h ∈ a_SH) : ∀ (m : Nat) (M : EM), a_M M → 0 ≤ M e_RD.toNat 1 → (M e_RD.toNat 0 - M e_RD.toNat 1).toNat ≤ m → a_OUT a_RW (a_i 0 1) M (E_V 59 28 [e_RD, h] M) := by
  obtain ⟨s1, s2, s3, s4⟩ := c_shelf hh
  have f0 : ∀ M, e_gf 320 [e_RD] M = some (M e_RD.toNat 0) := fun M => c_gf c_rd5 (by decide +kernel)
  have f1 : ∀ M, e_gf 321 [e_RD] M = some (M e_RD.toNat 1) := fun M => c_gf c_rd5 (by decide +kernel)
  have f2 : ∀ M, e_gf 322 [e_RD] M = some (M e_RD.toNat 2) := fun M => c_gf c_rd5 (by decide +kernel)
  have f7 : ∀ M, e_gf 327 [e_RD] M = some (M e_RD.toNat 7) := fun M => c_gf c_rd5 (by decide +kernel)
  have p1 : ∀ v M, e_pf 321 [e_RD, v] M = some (e_up M e_RD.toNat 1 v) := fun v M => c_pf c_rd5 (by decide +kernel)
  have g6 : ∀ M, e_gf 518 [h] M = some (e_gr h.toNat 6) := fun M => c_gr s1 (by decide +kernel)
  intro m
  induction m with
  | zero =>
    intro M hM h0 hm
    have hlt : ¬ (M e_RD.toNat 1 < M e_RD.toNat 0) := by omega
    rw [E_V_eq]
    show a_OUT _ _ _ (e_tv E_C (E_V 59) e_t59_28 [e_RD, h] M)
    unfold e_t59_28
    by_cases q1 : M e_RD.toNat 2 = 0
    · by_cases q2 : 0 < M e_RD.toNat 7
      · exact ⟨1, M, by simp [e_tv, e_ev, e_sv, e_op, e_b1, e_b2, f0, f1, f2, f7, hlt, q1, q2], a_gi (by decide) (by decide), hM, a_fr_rf⟩
      · exact ⟨0, M, by simp [e_tv, e_ev, e_sv, e_op, e_b1, e_b2, f0, f1, f2, f7, hlt, q1, q2], a_gi (by decide) (by decide), hM, a_fr_rf⟩
    · exact ⟨0, M, by simp [e_tv, e_ev, e_sv, e_op, e_b1, e_b2, f0, f1, f2, f7, hlt, q1], a_gi (by decide) (by decide), hM, a_fr_rf⟩
  | succ m ih =>
    intro M hM h0 hm
    rw [E_V_eq]
    show a_OUT _ _ _ (e_tv E_C (E_V 59) e_t59_28 [e_RD, h] M)
    unfold e_t59_28
    by_cases hlt : M e_RD.toNat 1 < M e_RD.toNat 0
    · have h5 : (e_gr h.toNat 6).toNat ≠ 5 := fun e => by rw [e] at s4; exact absurd s4 (by decide +kernel)
      have hat : ∃ v, E_C 146 [e_gr h.toNat 6, M e_RD.toNat 1] M = some (v, M) ∧ -2147483648 ≤ v ∧ v ≤ 2147483647 := by
        refine ⟨_, c_at _ _ M (Or.inr ⟨s2, s3, by rw [s4]⟩), ?_⟩
        split
        · obtain ⟨m1, m2, -⟩ := hM (e_gr h.toNat 6).toNat (M e_RD.toNat 1).toNat h5
          have ho : (e_gr h.toNat 6).toNat ≠ e_OUT := fun e => by rw [e] at s4; exact absurd s4 (by decide +kernel)
          unfold a_lo at m1; unfold a_hi at m2
          rw [if_neg ho] at m1 m2
          exact ⟨m1, m2⟩
        · exact ⟨by decide, by decide⟩
      obtain ⟨v, v1, v2⟩ := hat
      obtain ⟨r, M', g1, g2, g3, g4, g5, g7⟩ := c_goOn hM v2
      by_cases hr : r = 0
      · subst hr
        exact ⟨0, M', by simp [e_tv, e_ev, e_sv, e_op, e_b1, e_b2, f0, f1, g6, hlt, v1, g1], a_gi (by decide) (by decide), g3, g4⟩
      · have hrng : M e_RD.toNat 1 ≤ 2147483646 := by
          obtain ⟨-, m2, -⟩ := hM e_RD.toNat 0 (by decide +kernel)
          have : a_hi e_RD.toNat = 2147483647 := by decide +kernel
          omega
        have hw : e_w (M' e_RD.toNat 1 + 1) = M e_RD.toNat 1 + 1 := by rw [g7]; exact a_w_id (by omega) (by omega)
        obtain ⟨u1, u2⟩ := c_RW_up (M := M') (k := 1) (v := M e_RD.toNat 1 + 1) (by decide) ⟨by omega, by omega⟩ g3
        have hM2 : (e_up M' e_RD.toNat 1 (M e_RD.toNat 1 + 1)) e_RD.toNat 0 = M e_RD.toNat 0 := by rw [c_up_n (by decide), g5]
        have hM3 : (e_up M' e_RD.toNat 1 (M e_RD.toNat 1 + 1)) e_RD.toNat 1 = M e_RD.toNat 1 + 1 := c_up_s
        have hrec := ih (e_up M' e_RD.toNat 1 (M e_RD.toNat 1 + 1)) u1 (by rw [hM3]; omega) (by rw [hM2, hM3]; omega)
        refine a_OUT_tr (a_fr_tr g4 u2) ?_
        have he : e_tv E_C (E_V 59) e_t59_28 [e_RD, h] M = E_V 59 28 [e_RD, h] (e_up M' e_RD.toNat 1 (M e_RD.toNat 1 + 1)) := by
          unfold e_t59_28
          simp [e_tv, e_ev, e_sv, e_op, e_b1, e_b2, f0, f1, g6, hlt, v1, g1, hr, hw, p1]
        unfold e_t59_28 at he
        rw [he]
        exact hrec
    · by_cases q1 : M e_RD.toNat 2 = 0
      · by_cases q2 : 0 < M e_RD.toNat 7
        · exact ⟨1, M, by simp [e_tv, e_ev, e_sv, e_op, e_b1, e_b2, f0, f1, f2, f7, hlt, q1, q2], a_gi (by decide) (by decide), hM, a_fr_rf⟩
        · exact ⟨0, M, by simp [e_tv, e_ev, e_sv, e_op, e_b1, e_b2, f0, f1, f2, f7, hlt, q1, q2], a_gi (by decide) (by decide), hM, a_fr_rf⟩
      · exact ⟨0, M, by simp [e_tv, e_ev, e_sv, e_op, e_b1, e_b2, f0, f1, f2, f7, hlt, q1], a_gi (by decide) (by decide), hM, a_fr_rf⟩
