theorem c_rs {h : Int} {M : EM} (hh : h ∈ a_SH) (hM : a_M M) : a_OUT a_RW (a_i 0 1) M (E_C 59 [e_RD, h] M) := by
  obtain ⟨s1, s2, s3, s4⟩ := c_shelf hh
  have f5 : ∀ M, e_gf 517 [h] M = some (M h.toNat 5) := fun M => c_gf s1 (by decide +kernel)
  have p0 : ∀ v M, e_pf 320 [e_RD, v] M = some (e_up M e_RD.toNat 0 v) := fun v M => c_pf c_rd5 (by decide +kernel)
  have p1 : ∀ v M, e_pf 321 [e_RD, v] M = some (e_up M e_RD.toNat 1 v) := fun v M => c_pf c_rd5 (by decide +kernel)
  have p2 : ∀ v M, e_pf 322 [e_RD, v] M = some (e_up M e_RD.toNat 2 v) := fun v M => c_pf c_rd5 (by decide +kernel)
  have p7 : ∀ v M, e_pf 327 [e_RD, v] M = some (e_up M e_RD.toNat 7 v) := fun v M => c_pf c_rd5 (by decide +kernel)
  have p8 : ∀ v M, e_pf 328 [e_RD, v] M = some (e_up M e_RD.toNat 8 v) := fun v M => c_pf c_rd5 (by decide +kernel)
  have h5 : h.toNat ≠ 5 := fun e => by have := s1.1; omega
  have ho : h.toNat ≠ e_OUT := fun e => by have h2 := s1.2.2; rw [e] at h2; exact absurd h2 (by decide +kernel)
  have hsz : -2147483648 ≤ M h.toNat 5 ∧ M h.toNat 5 ≤ 2147483647 := by
    obtain ⟨m1, m2, -⟩ := hM h.toNat 5 h5
    unfold a_lo at m1; unfold a_hi at m2
    rw [if_neg ho] at m1 m2
    exact ⟨m1, m2⟩
  obtain ⟨a1, b1⟩ := c_RW_up (M := M) (k := 0) (by decide) hsz hM
  obtain ⟨a2, b2⟩ := c_RW_up (k := 2) (v := 0) (by decide) (by decide) a1
  obtain ⟨a3, b3⟩ := c_RW_up (k := 7) (v := 0) (by decide) (by decide) a2
  obtain ⟨a4, b4⟩ := c_RW_up (k := 8) (v := 0) (by decide) (by decide) a3
  obtain ⟨a5, b5⟩ := c_RW_up (k := 1) (v := 0) (by decide) (by decide) a4
  have h1 : E_C 59 [e_RD, h] M = E_V 59 28 [e_RD, h] (e_up (e_up (e_up (e_up (e_up M e_RD.toNat 0 (M h.toNat 5)) e_RD.toNat 2 0) e_RD.toNat 7 0) e_RD.toNat 8 0) e_RD.toNat 1 0) := by
    have : E_C 59 [e_RD, h] M = e_tv E_C (E_V 59) e_t59_0 [e_RD, h] M := by
      unfold E_C
      rw [if_pos (show e_rok 59 [e_RD, h] = true from decide_eq_true c_rd5), E_V_eq]
      rfl
    rw [this]
    unfold e_t59_0
    simp [e_tv, e_ev, e_sv, f5, p0, p1, p2, p7, p8]
  rw [h1]
  refine a_OUT_tr (a_fr_tr b1 (a_fr_tr b2 (a_fr_tr b3 (a_fr_tr b4 b5)))) ?_
  exact c_rs_loop hh _ _ a5 (by rw [c_up_s]; exact Int.le_refl _) (Nat.le_refl _)
/-- the methods known beside the analysis -/
theorem a_orc_ok (W : AW) : a_CALL W (a_orc W) := by
  intro u xs v h as M hg hM
  by_cases hu : u = 59
  · subst hu
    unfold a_orc at h
    rw [if_neg (by decide), if_pos rfl] at h
    split at h
    · rename_i r ids
      split at h
      · rename_i hc
        obtain ⟨rfl, hc2, hc3⟩ := hc
        cases h
        obtain ⟨a, b, rfl, ha, hb⟩ := a_gs_2 hg
        have : a = e_RD := List.mem_singleton.mp ha
        subst this
        have hb2 : b ∈ a_SH := List.contains_iff_mem.mp (List.all_eq_true.mp hc2 b hb)
        obtain ⟨r, M', r1, r2, r3, r4⟩ := c_rs hb2 hM
        exact ⟨r, M', r1, r2, r3, a_sub_fr hc3 r4⟩
      · cases h
    · cases h
  · exact a_orc0_ok W u xs v (by unfold a_orc0; rw [if_neg hu]; exact h) as M hg hM
/-- an entry of the class: it comes to an end, and writes what its row says at most -/
theorem a_entry {W : AW} {n u : Nat} {xs : List AV} (h : (a_rok u xs && a_an W (a_orc W) n u [] (a_ent u xs) (.mulL 4 (.num 0))) = true) {as : List Int} {M : EM} (hg : a_gs xs as) (hM : a_M M) : ∃ r M', E_C u as M = some (r, M') ∧ a_g (a_rho u) r ∧ a_M M' ∧ a_fr W M M' := a_call_ok (a_orc_ok W) h hg hM
