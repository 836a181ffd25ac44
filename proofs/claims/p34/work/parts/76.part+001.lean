theorem c_shl {n : Int} (h : 2 ≤ n ∧ n ≤ 8) : 0 ≤ e_w (e_bit (fun x y => x <<< (y &&& 31)) 1 n - 1) ∧ e_w (e_bit (fun x y => x <<< (y &&& 31)) 1 n - 1) ≤ 1000 := by
  have h1 : ∀ k : Fin 9, 2 ≤ k.val → 0 ≤ e_w (e_bit (fun x y => x <<< (y &&& 31)) 1 (k.val : Int) - 1) ∧ e_w (e_bit (fun x y => x <<< (y &&& 31)) 1 (k.val : Int) - 1) ≤ 1000 := by decide +kernel
  have h2 := h1 ⟨n.toNat, by omega⟩ (show 2 ≤ n.toNat by omega)
  have h3 : ((⟨n.toNat, by omega⟩ : Fin 9).val : Int) = n := Int.toNat_of_nonneg (by omega)
  rw [h3] at h2
  exact h2
theorem c_find {M : EM} (hM : a_M M) (hn : 2 ≤ M 170 0 ∧ M 170 0 ≤ 8) : a_OUT a_w27 a_T32 M (E_C 27 [170] M) := by
  have h1 : E_C 27 [170] M = e_tv E_C (E_V 27) e_t27_0 [170, 0, 0, 0, 0] M := by
    unfold E_C
    rw [if_pos (show e_rok 27 [170] = true from decide_eq_true c_isB), E_V_eq]
    rfl
  have g0 : ∀ M, e_gf 0 [170] M = some (M 170 0) := fun M => c_gf c_isB (by decide +kernel)
  obtain ⟨r1, M1, l1, -, l2, l3⟩ := a_entry a_c11 (as := [170]) ⟨List.mem_cons_self, trivial⟩ hM
  have h0 : M1 170 0 = M 170 0 := l3 170 0 (by decide +kernel)
  refine a_OUT_tr (a_sub_fr (by decide +kernel) l3) ?_
  have hs := c_shl hn
  rw [← h0] at hs
  have he : E_C 27 [170] M = E_V 27 20 [170, -1, 0, e_w (e_bit (fun x y => x <<< (y &&& 31)) 1 (M1 170 0) - 1), 2] M1 := by
    rw [h1]
    unfold e_t27_0
    simp [e_tv, e_ev, e_sv, e_op, e_b2, g0, l1]
  rw [he]
  exact c_find_loop hs _ _ _ _ M1 l2 (Nat.le_refl _) (by decide) (by decide) (by decide) (by decide)

