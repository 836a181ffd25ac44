/-! SHELVES: keep -/
def h_wH : AW := [(199, 0, 7), (200, 0, 7), (201, 0, 7)]
theorem h_sh_up {M : EM} {a k : Nat} {v : Int} (ha : a = 199 ∨ a = 200 ∨ a = 201) (hk : k ≤ 7) (hv : -2147483648 ≤ v ∧ v ≤ 2147483647) (hJ : r_J M) : r_J (e_up M a k v) ∧ a_fr (h_wH ++ r_wq) M (e_up M a k v) := by
  refine ⟨(r_sh_up (Or.inr ha) hk hv hJ).1, fun b j hw => c_up_n (fun hc => ?_)⟩
  have hm : (a, 0, 7) ∈ h_wH := by
    rcases ha with rfl | rfl | rfl <;> decide
  exact hw _ (List.mem_append.mpr (Or.inl hm)) ⟨hc.1.symm, Nat.zero_le _, by have := hc.2; show j ≤ 7; omega⟩
theorem h_keep2 {d w p : Int} {M : EM} (hJ : r_J M) : ∃ r M', E_C 258 [192, d, w, p] M = some (r, M') ∧ ((((0 ≤ d ∧ d ≤ 7) ∧ (0 ≤ w ∧ w ≤ 1) ∧ (w = 1 → 0 ≤ p ∧ p < r_G M 1198)) ∧ r = 0 ∧ a_fr (h_wH ++ r_wq) (e_up M 195 d.toNat w) M') ∨ (¬ ((0 ≤ d ∧ d ≤ 7) ∧ (0 ≤ w ∧ w ≤ 1) ∧ (w = 1 → 0 ≤ p ∧ p < r_G M 1198)) ∧ r = -1 ∧ M' = M)) := by
  have hW := (r_J_E hJ).2.1
  have ks := r_isShelf d M
  by_cases q0 : 0 ≤ d ∧ d ≤ 7
  · rw [if_pos q0] at ks
    by_cases q1 : 0 ≤ w ∧ w ≤ 1
    · have i1 := r_in1 (M := M) q1
      obtain ⟨u1, v1⟩ := r_sh_up (a := 195) (k := d.toNat) (v := w) (Or.inl rfl) (by omega) ⟨by omega, by omega⟩ hJ
      have s1 : e_st 100 [195, d, w] M = some (e_up M 195 d.toNat w) := r_shst (a := 195) (Or.inl rfl) q0
      by_cases q2 : w = 1
      · by_cases q3 : 0 ≤ p ∧ p < r_G M 1198
        · have ip := r_ip1 hW q3
          have h40 := r_40 hW q3
          have g1 : r_G (e_up M 195 d.toNat w) = r_G M := r_up_Gne (by decide)
          obtain ⟨M2, k2, u2, v2, c2⟩ := r_gathers u1 (p := p) (by rw [g1]; exact q3)
          have g2 : r_G M2 = r_G M := (r_q_G v2).trans g1
          have kk2 : E_C 170 [192, p] M2 = some (r_G M2 (28 * p), M2) := r_kind h40
          have s2 := fun v => r_shst (a := 199) (d := d) (v := v) (M := M2) (Or.inr (Or.inl rfl)) q0
          obtain ⟨u3, v3⟩ := h_sh_up (a := 199) (k := d.toNat) (v := r_G M2 (28 * p)) (Or.inl rfl) (by omega) (r_gr u2.1 _) u2
          have g3 : r_G (e_up M2 199 d.toNat (r_G M2 (28 * p))) = r_G M := (r_up_Gne (by decide)).trans g2
          obtain ⟨c, kc, hc⟩ := r_currentOf (u := 0) (r_J_E u3) (r_J_E u3).2.1.2.1 (r_pt_of (r_J_E u3).2.1 (p := p) (by rw [g3]; exact q3))
          have s3 := fun M => r_shst (a := 201) (d := d) (v := c) (M := M) (Or.inr (Or.inr (Or.inr rfl))) q0
          obtain ⟨u4, v4⟩ := h_sh_up (a := 201) (k := d.toNat) (v := c) (Or.inr (Or.inr rfl)) (by omega) hc u3
          have g4 : r_G (e_up (e_up M2 199 d.toNat (r_G M2 (28 * p))) 201 d.toNat c) = r_G M := (r_up_Gne (by decide)).trans g3
          have hf4 : a_fr (h_wH ++ r_wq) (e_up M 195 d.toNat w) (e_up (e_up M2 199 d.toNat (r_G M2 (28 * p))) 201 d.toNat c) := a_fr_tr (c_sub_r v2) (a_fr_tr v3 v4)
          generalize hM4 : e_up (e_up M2 199 d.toNat (r_G M2 (28 * p))) 201 d.toNat c = M4 at u4 g4 hf4
          have kk4 : E_C 170 [192, p] M4 = some (r_G M (28 * p), M4) := by rw [← g4]; exact r_kind h40
          have km4 : E_C 171 [192, p] M4 = some (r_G M (28 * p + 2), M4) := by rw [← g4]; exact r_many h40
          have w9 : e_w (10 + p) = 10 + p := a_w_id (by omega) (by omega)
          have hfin : ∀ v : Int, (-2147483648 ≤ v ∧ v ≤ 2147483647) → ∃ M', E_V 258 196 [192, d, w, p] (e_up M4 200 d.toNat v) = some (0, M') ∧ r_J M' ∧ a_fr (h_wH ++ r_wq) (e_up M 195 d.toNat w) M' := by
            intro v hv
            obtain ⟨u5, v5⟩ := h_sh_up (a := 200) (k := d.toNat) (v := v) (Or.inr (Or.inl rfl)) (by omega) hv u4
            refine ⟨_, ?_, u5, a_fr_tr hf4 v5⟩
            rw [E_V_eq]
            show e_tv E_C (E_V 258) e_t258_196 [192, d, w, p] (e_up M4 200 d.toNat v) = _
            unfold e_t258_196
            simp [e_tv, e_ev, e_sv, e_b1, e_b2, x_o1, x_o2]
          have s4 := fun v => r_shst (a := 200) (d := d) (v := v) (M := M4) (Or.inr (Or.inr (Or.inl rfl))) q0
          have hpt := r_pt_of hW q3
          have hm := hpt
          have j104 : r_G M (28 * p) = 0 → ∃ M', E_V 258 104 [192, d, w, p] M4 = some (0, M') ∧ r_J M' ∧ a_fr (h_wH ++ r_wq) (e_up M 195 d.toNat w) M' := by
            intro hk
            have hcl := r_pt_cell hpt hk
            have h1 := hcl.2.2.2.1
            have h2 := hcl.2.2.2.2.1
            have w1 : e_w (r_G M (28 * p + 2) - 1) = r_G M (28 * p + 2) - 1 := a_w_id (by omega) (by omega)
            have w2 : e_w (28 * p) = 28 * p := a_w_id (by omega) (by omega)
            have w3 : e_w (28 * p + 3) = 28 * p + 3 := a_w_id (by omega) (by omega)
            have w4 : e_w (28 * p + 3 + (r_G M (28 * p + 2) - 1)) = 28 * p + 3 + (r_G M (28 * p + 2) - 1) := a_w_id (by omega) (by omega)
            have lo : e_op 60 [193, 28 * p + 3 + (r_G M (28 * p + 2) - 1)] M4 = some (r_G M4 (28 * p + 3 + (r_G M (28 * p + 2) - 1))) := r_rd (by omega) (by omega)
            have ko : E_C 172 [192, p, r_G M (28 * p + 2) - 1] M4 = some (r_G M4 (28 * p + 3 + (r_G M (28 * p + 2) - 1)), M4) := by
              rw [r_ent (show e_rok 172 [192, p, r_G M (28 * p + 2) - 1] = true from decide_eq_true r_ref)]
              show e_tv E_C (E_V 172) e_t172_0 [192, p, r_G M (28 * p + 2) - 1] M4 = _
              unfold e_t172_0
              simp [e_tv, e_ev, e_sv, e_b1, e_b2, x_o1, x_o2, r_O0, w2, w3, w4, lo]
            obtain ⟨M', k, t⟩ := hfin (e_w (10 + p + r_G M4 (28 * p + 3 + (r_G M (28 * p + 2) - 1)))) (a_w _)
            refine ⟨M', ?_, t⟩
            rw [E_V_eq]
            show e_tv E_C (E_V 258) e_t258_104 [192, d, w, p] M4 = _
            unfold e_t258_104
            simp [e_tv, e_ev, e_sv, e_b1, e_b2, x_o1, x_o2, r_O7, km4, w1, ko, w9, s4, k]
          have j130 : ∃ M', E_V 258 130 [192, d, w, p] M4 = some (0, M') ∧ r_J M' ∧ a_fr (h_wH ++ r_wq) (e_up M 195 d.toNat w) M' := by
            obtain ⟨M', k, t⟩ := hfin (e_w (10 + p + e_w (10 * M4 192 13))) (a_w _)
            refine ⟨M', ?_, t⟩
            rw [E_V_eq]
            show e_tv E_C (E_V 258) e_t258_130 [192, d, w, p] M4 = _
            unfold e_t258_130
            simp [e_tv, e_ev, e_sv, e_b1, e_b2, x_o1, x_o2, r_O7, r_F13, w9, s4, k]
          have j151 : ∃ M', E_V 258 151 [192, d, w, p] M4 = some (0, M') ∧ r_J M' ∧ a_fr (h_wH ++ r_wq) (e_up M 195 d.toNat w) M' := by
            obtain ⟨M', k, t⟩ := hfin (e_w (2 * e_w (10 + p + e_w (10 * M4 192 13)))) (a_w _)
            refine ⟨M', ?_, t⟩
            rw [E_V_eq]
            show e_tv E_C (E_V 258) e_t258_151 [192, d, w, p] M4 = _
            unfold e_t258_151
            simp [e_tv, e_ev, e_sv, e_b1, e_b2, x_o1, x_o2, r_O7, r_F13, w9, s4, k]
          have j174 : ∃ M', E_V 258 174 [192, d, w, p] M4 = some (0, M') ∧ r_J M' ∧ a_fr (h_wH ++ r_wq) (e_up M 195 d.toNat w) M' := by
            have w2 : e_w (28 * p) = 28 * p := a_w_id (by omega) (by omega)
            have w3 : e_w (28 * p + 5) = 28 * p + 5 := a_w_id (by omega) (by omega)
            have lo : e_op 60 [193, 28 * p + 5] M4 = some (r_G M4 (28 * p + 5)) := r_rd (by omega) (by omega)
            obtain ⟨M', k, t⟩ := hfin (e_w (10 + p + r_G M4 (28 * p + 5))) (a_w _)
            refine ⟨M', ?_, t⟩
            rw [E_V_eq]
            show e_tv E_C (E_V 258) e_t258_174 [192, d, w, p] M4 = _
            unfold e_t258_174
            simp [e_tv, e_ev, e_sv, e_b1, e_b2, x_o1, x_o2, r_O0, r_O7, w2, w3, w9, lo, s4, k]
          have hgo : ∃ l : Nat, (∃ M', E_V 258 l [192, d, w, p] M4 = some (0, M') ∧ r_J M' ∧ a_fr (h_wH ++ r_wq) (e_up M 195 d.toNat w) M') ∧ ∀ t, e_tv E_C (E_V 258) e_t258_0 [192, d, w, p] M = t ↔ E_V 258 l [192, d, w, p] M4 = t := by
            unfold e_t258_0
            subst q2
            rcases hm with h | h | h | h
            · have hk := h.2.2.1
              refine ⟨104, j104 hk, fun t => ?_⟩
              rw [hk] at kk4
              simp [e_tv, e_ev, e_sv, e_b1, e_b2, x_o1, x_o2, e_len, e_nth, r_O2, r_O6, r_O8, ks, i1, ip, s1, k2, kk2, s2, kc, s3, hM4, kk4]
            · have hk := h.2.2.1
              refine ⟨130, j130, fun t => ?_⟩
              rw [hk] at kk4
              simp [e_tv, e_ev, e_sv, e_b1, e_b2, x_o1, x_o2, e_len, e_nth, r_O2, r_O6, r_O8, ks, i1, ip, s1, k2, kk2, s2, kc, s3, hM4, kk4]
            · have hk := h.2.2.1
              refine ⟨151, j151, fun t => ?_⟩
              rw [hk] at kk4
              simp [e_tv, e_ev, e_sv, e_b1, e_b2, x_o1, x_o2, e_len, e_nth, r_O2, r_O6, r_O8, ks, i1, ip, s1, k2, kk2, s2, kc, s3, hM4, kk4]
            · have hk := h.2.2.1
              refine ⟨174, j174, fun t => ?_⟩
              rw [hk] at kk4
              simp [e_tv, e_ev, e_sv, e_b1, e_b2, x_o1, x_o2, e_len, e_nth, r_O2, r_O6, r_O8, ks, i1, ip, s1, k2, kk2, s2, kc, s3, hM4, kk4]
          obtain ⟨l, ⟨M', k, t⟩, hgo⟩ := hgo
          refine ⟨0, M', ?_, Or.inl ⟨⟨q0, q1, fun _ => q3⟩, rfl, t.2⟩⟩
          rw [r_ent (show e_rok 258 [192, d, w, p] = true from decide_eq_true r_ref)]
          show e_tv E_C (E_V 258) e_t258_0 [192, d, w, p] M = _
          unfold e_t258_0
          exact (hgo _).mpr k
        · have ip := r_ip0 hW q3
          refine ⟨-1, M, ?_, Or.inr ⟨fun e => q3 (e.2.2 q2), rfl, rfl⟩⟩
          subst q2
          rw [r_ent (show e_rok 258 [192, d, 1, p] = true from decide_eq_true r_ref)]
          show e_tv E_C (E_V 258) e_t258_0 [192, d, 1, p] M = _
          unfold e_t258_0
          simp [e_tv, e_ev, e_sv, e_b1, e_b2, x_o1, x_o2, ks, i1, ip]
      · have q2' : w = 0 := by omega
        refine ⟨0, _, ?_, Or.inl ⟨⟨q0, q1, fun e => absurd e q2⟩, rfl, a_fr_rf⟩⟩
        subst q2'
        rw [r_ent (show e_rok 258 [192, d, 0, p] = true from decide_eq_true r_ref)]
        show e_tv E_C (E_V 258) e_t258_0 [192, d, 0, p] M = _
        unfold e_t258_0
        simp [e_tv, e_ev, e_sv, e_b1, e_b2, x_o1, x_o2, r_O2, ks, i1, s1]
    · have i1 := r_in0 (M := M) q1
      refine ⟨-1, M, ?_, Or.inr ⟨fun e => q1 e.2.1, rfl, rfl⟩⟩
      rw [r_ent (show e_rok 258 [192, d, w, p] = true from decide_eq_true r_ref)]
      show e_tv E_C (E_V 258) e_t258_0 [192, d, w, p] M = _
      unfold e_t258_0
      simp [e_tv, e_ev, e_sv, e_b1, e_b2, x_o1, x_o2, ks, i1]
  · rw [if_neg q0] at ks
    refine ⟨-1, M, ?_, Or.inr ⟨fun e => q0 e.1, rfl, rfl⟩⟩
    rw [r_ent (show e_rok 258 [192, d, w, p] = true from decide_eq_true r_ref)]
    show e_tv E_C (E_V 258) e_t258_0 [192, d, w, p] M = _
    unfold e_t258_0
    simp [e_tv, e_ev, e_sv, e_b1, e_b2, x_o1, x_o2, ks]
