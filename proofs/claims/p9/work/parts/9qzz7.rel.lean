/-! all that level D relates, and its keepers -/
def h_Z (M : EM) : Prop := hd_D M 0 (r_G M) ∧ hd_D M 68 (r_Gi M) ∧ rx_K M ∧ M 171 0 = 0
def h_RD (M : EM) : Prop := h_RC M ∧ h_Z M
theorem hd_K1 {M M1 : EM} (g : ∀ id i, 192 ≤ id → M1 id i = M id i) (hK : rx_K M) : rx_K M1 := ⟨(g 192 22 (by decide)).trans hK.1, (g 192 23 (by decide)).trans hK.2.1, (g 192 24 (by decide)).trans hK.2.2⟩
theorem hd_0 {W : AW} {M M' : EM} (h : h_av [(171, 0, 0)] W = true) (hf : a_fr W M M') (h0 : M 171 0 = 0) : M' 171 0 = 0 := (h_av_ok h hf (171, 0, 0) List.mem_cons_self 0 (by decide) (by decide)).trans h0
/-- a text taken keeps members and CURVES -/
theorem hd_text {d r1 r2 : Int} {M M1 M2 : EM} (hJ : r_J M) (hB : h_B M 0 (r_G M)) (hD : hd_D M 0 (r_G M)) (hS : h_S M) (h0 : M 165 0 = 0) (k1 : E_C 104 [8, d] M = some (r1, M1)) (J1 : r_J M1) (hfr : ∀ id i, 192 ≤ id → M1 id i = M id i) (k2 : E_C 190 [192, d] M1 = some (r2, M2)) : hd_D M2 0 (r_G M2) := (h_text3 (Q := fun M g => hd_D M 0 g) hd_D_qs hd_D_qc hJ hB hD hS h0 k1 J1 hfr k2).2.2.1
theorem hd_Rall {M : EM} (hR : h_R M) (hQ : h_Q M) (hZ : h_Z M) : hd_all M := ⟨hR.2.1, hQ.2.1, hZ.1, hZ.2.2.2⟩
theorem hd_KW {W : AW} {M M' : EM} (h : h_av [(192, 22, 24)] W = true) (hf : a_fr W M M') (hK : rx_K M) : rx_K M' := by
  have a := h_av_ok h hf (192, 22, 24) List.mem_cons_self
  exact ⟨(a 22 (by decide) (by decide)).trans hK.1, (a 23 (by decide) (by decide)).trans hK.2.1, (a 24 (by decide) (by decide)).trans hK.2.2⟩
theorem hd_dz {M M1 : EM} (hfr : ∀ i, M1 193 i = M 193 i) (hC : h_C M 0 (r_G M)) : ∀ q : Nat, (q : Int) < r_G M1 1198 → r_G M1 (28 * (q : Int)) = 0 → r_G M1 (28 * (q : Int) + 19) = 0 ∨ r_G M1 (28 * (q : Int) + 19) = 1 := by
  have eG : r_G M1 = r_G M := funext fun i => hfr _
  rw [eG]
  intro q h1 h2
  exact (hd_cs_of hC (q : Int) (by omega) h1 h2).2
