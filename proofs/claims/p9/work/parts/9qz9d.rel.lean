/-! all that level C relates, and its keepers by frames -/
def h_Q (M : EM) : Prop := h_t1 M ∧ h_C M 0 (r_G M) ∧ h_C M 68 (r_Gi M) ∧ h_K M 0 (r_G M) ∧ h_K M 68 (r_Gi M)
def h_RC (M : EM) : Prop := h_R M ∧ h_Q M
theorem h_ke1 {W : AW} {M M' : EM} (h : h_av [(1, 0, 3)] W = true) (hf : a_fr W M M') (h1 : h_t1 M) : h_t1 M' := by
  have a := h_av_ok h hf (1, 0, 3) List.mem_cons_self
  obtain ⟨t0, t1, t2, t3⟩ := h1
  exact ⟨(a 0 (by decide) (by decide)).trans t0, (a 1 (by decide) (by decide)).trans t1, (a 2 (by decide) (by decide)).trans t2, (a 3 (by decide) (by decide)).trans t3⟩
theorem h_keC {W : AW} {M M' : EM} (h : h_av (h_KC 0 193) W = true) (hf : a_fr W M M') (hB : h_B M 0 (r_G M)) (hC : h_C M 0 (r_G M)) : h_C M' 0 (r_G M') := h_keepC (dc := 0) (s := 193) (h_av_ok h hf) hB.2.1.2 hC
theorem h_keCI {W : AW} {M M' : EM} (h : h_av (h_KC 68 194) W = true) (hf : a_fr W M M') (hB : h_B M 68 (r_Gi M)) (hC : h_C M 68 (r_Gi M)) : h_C M' 68 (r_Gi M') := h_keepC (dc := 68) (s := 194) (h_av_ok h hf) hB.2.1.2 hC
theorem h_keK {W : AW} {M M' : EM} (h : h_av (h_KK 0 193) W = true) (hf : a_fr W M M') (hK : h_K M 0 (r_G M)) : h_K M' 0 (r_G M') := h_keepK (dc := 0) (s := 193) (h_av_ok h hf) hK
theorem h_keKI {W : AW} {M M' : EM} (h : h_av (h_KK 68 194) W = true) (hf : a_fr W M M') (hK : h_K M 68 (r_Gi M)) : h_K M' 68 (r_Gi M') := h_keepK (dc := 68) (s := 194) (h_av_ok h hf) hK
