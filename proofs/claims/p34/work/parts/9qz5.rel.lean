/-! the relation's keepers by frames; sky's answers -/
theorem h_cG {W : AW} {M M1 : EM} (h4 : a_fr W M M1) (hW : (W.all fun w => decide (8 ≤ w.1) && decide (w.1 < 192)) = true) : ∀ id i, 192 ≤ id → M1 id i = M id i := fun id i hi => h4 id i (fun w hw hc => by
  have h := List.all_eq_true.mp hW w hw
  simp only [Bool.and_eq_true, decide_eq_true_eq] at h
  omega)
theorem h_keB {W : AW} {M M' : EM} (h : h_av h_KB W = true) (hf : a_fr W M M') (hB : h_B M 0 (r_G M)) : h_B M' 0 (r_G M') := h_keepB (h_av_ok h hf) hB
theorem h_keI {W : AW} {M M' : EM} (h : h_av h_KI W = true) (hf : a_fr W M M') (hB : h_B M 68 (r_Gi M)) : h_B M' 68 (r_Gi M') := h_keepI (h_av_ok h hf) hB
theorem h_keS {W : AW} {M M' : EM} (h : h_av h_KS W = true) (hf : a_fr W M M') (hS : h_S M) : h_S M' := h_keepS (h_av_ok h hf) hS
theorem h_keF {W : AW} {M M' : EM} (h : h_av [(165, 0, 0)] W = true) (hf : a_fr W M M') (h0 : M 165 0 = 0) : M' 165 0 = 0 := (h_av_ok h hf (165, 0, 0) List.mem_cons_self 0 (Nat.le_refl _) (Nat.le_refl _)).trans h0
theorem h_121n {d x z : Int} {M : EM} (c0 : E_C 154 [8, d] M = some (x, M)) (c1 : E_C 156 [x, -1] M = some (z, M)) (hz : z ≠ 0) : E_C 121 [8, d] M = some (z, M) := by
  have s0 : E_C 121 [8, d] M = e_tv E_C (E_V 121) e_t121_0 [8, d, 0, 0] M := r_ent (u := 121) (as := [8, d]) (M := M) (decide_eq_true c_this)
  rw [s0]
  unfold e_t121_0
  simp [e_tv, e_ev, e_sv, e_b1, e_b2, x_o1, x_o2, c0, c1, hz]
theorem h_121y {d h r n : Int} {M M1 : EM} (c0 : E_C 154 [8, d] M = some (h, M)) (hx : h ≠ -1) (c1 : E_C 156 [h, -1] M = some (0, M)) (k : E_C 76 [26, h] M = some (r, M1)) (f : e_gf 517 [h] M1 = some n) : E_C 121 [8, d] M = some (n, M1) := by
  have s0 : E_C 121 [8, d] M = e_tv E_C (E_V 121) e_t121_0 [8, d, 0, 0] M := r_ent (u := 121) (as := [8, d]) (M := M) (decide_eq_true c_this)
  rw [s0]
  unfold e_t121_0
  simp [e_tv, e_ev, e_sv, e_b1, e_b2, x_o1, x_o2, p_704, p_195, c0, hx, c1, k, f]
theorem h_121i {d h r1 : Int} {M M1 : EM} (hh : h ∈ a_SH) (c0 : E_C 154 [8, d] M = some (h, M)) (c1 : E_C 156 [h, -1] M = some (0, M)) (k1 : E_C 121 [8, d] M = some (r1, M1)) : r1 = M1 h.toNat 5 := by
  have hx : h ≠ -1 := by
    have := w_sh hh
    omega
  cases hk : E_C 76 [26, h] M with
  | none =>
    exfalso
    have s0 : E_C 121 [8, d] M = e_tv E_C (E_V 121) e_t121_0 [8, d, 0, 0] M := r_ent (u := 121) (as := [8, d]) (M := M) (decide_eq_true c_this)
    rw [s0] at k1
    unfold e_t121_0 at k1
    simp [e_tv, e_ev, e_sv, e_b1, e_b2, x_o1, x_o2, p_704, p_195, c0, hx, c1, hk] at k1
  | some z =>
    obtain ⟨r, N⟩ := z
    obtain ⟨-, -, -, f5⟩ := h_sf hh N
    have e := Prod.mk.inj (Option.some.inj (k1.symm.trans (h_121y c0 hx c1 hk f5)))
    rw [e.1, e.2]
