section RMK
variable {p kd : Int} {g0 : Int → Int} {M0 M M' : EM}
theorem r_mk_w {i v : Int} (h : r_mk p kd g0 M0 M) (hp : 0 ≤ p) (hi : 28 * p < i ∧ i < 28 * p + 28) (h0 : kd = 0 → i ≠ 28 * p + 20) (h3 : kd = 3 → i ≠ 28 * p + 4) (hv : -2147483648 ≤ v ∧ v ≤ 2147483647) : r_mk p kd g0 M0 (e_up M 193 i.toNat v) := by
  obtain ⟨a1, a2, a3, a4, a5, a6, a7, a8⟩ := h
  refine ⟨r_upw hv a1, fun id k h1 h2 => (r_n193 h1).trans (a2 id k h1 h2), fun j j0 j1 j2 => (r_G_n (by omega) (by omega)).trans (a3 j j0 j1 j2), fun j hj => (r_G_n (by omega) (by omega)).trans (a4 j hj), (r_G_n (by omega) (by omega)).trans a5, fun hk => (r_G_n (by omega) (fun e => h0 hk e.symm)).trans (a6 hk), fun hk => (r_G_n (by omega) (fun e => h3 hk e.symm)).trans (a7 hk), ?_⟩
  unfold r_N99
  rw [r_n193 (by decide)]
  exact a8
theorem r_mk_o {q v : Int} (h : r_mk p kd g0 M0 M) (hq : 0 ≤ q ∧ q < p) (hv : -2147483648 ≤ v ∧ v ≤ 2147483647) : r_mk p kd g0 M0 (e_up M 193 (28 * q + 1).toNat v) := by
  obtain ⟨a1, a2, a3, a4, a5, a6, a7, a8⟩ := h
  refine ⟨r_upw hv a1, fun id k h1 h2 => (r_n193 h1).trans (a2 id k h1 h2), fun j j0 j1 j2 => (r_G_n (by omega) (by omega)).trans (a3 j j0 j1 j2), fun j hj => (r_G_n (by omega) (by omega)).trans (a4 j hj), (r_G_n (by omega) (by omega)).trans a5, fun hk => (r_G_n (by omega) (by omega)).trans (a6 hk), fun hk => (r_G_n (by omega) (by omega)).trans (a7 hk), ?_⟩
  unfold r_N99
  rw [r_n193 (by decide)]
  exact a8
theorem r_mk_t (h : r_mk p kd g0 M0 M) (t : r_tt M M') : r_mk p kd g0 M0 M' := by
  obtain ⟨a1, a2, a3, a4, a5, a6, a7, a8⟩ := h
  obtain ⟨b1, b2, b3, b4, b5⟩ := t
  have eG : r_G M' = r_G M := funext fun i => b2 _ _ (by omega)
  exact ⟨b1, fun id k h1 h2 => (b2 id k h2).trans (a2 id k h1 h2), by rw [eG]; exact a3, by rw [eG]; exact a4, by rw [eG]; exact a5, by rw [eG]; exact a6, by rw [eG]; exact a7, b5 a8⟩
theorem r_mk_p {v : Int} (h : r_mk p kd g0 M0 M) (hv : -2147483648 ≤ v ∧ v ≤ 2147483647) : r_mk p kd g0 M0 (e_up M 192 15 v) := by
  obtain ⟨a1, a2, a3, a4, a5, a6, a7, a8⟩ := h
  have eG : r_G (e_up M 192 15 v) = r_G M := r_up_Gne (by decide)
  refine ⟨r_up (by decide) (by decide +kernel) (by decide +kernel) hv a1, fun id k h1 h2 => (c_up_n (fun hc => h2 ⟨hc.1, Or.inl hc.2⟩)).trans (a2 id k h1 h2), by rw [eG]; exact a3, by rw [eG]; exact a4, by rw [eG]; exact a5, by rw [eG]; exact a6, by rw [eG]; exact a7, ?_⟩
  unfold r_N99
  rw [r_ff (by decide)]
  exact a8
/-- where the TEXT lies -/
def r_bl (M0 : EM) : Prop := 0 ≤ M0 192 16 ∧ M0 192 16 ≤ 840 ∧ M0 192 17 ≤ 120
theorem r_mk_ty (h : r_mk p kd g0 M0 M) (hb : r_bl M0) (hq : 0 ≤ M 192 15 ∧ M 192 15 ≤ 1000) : r_ty M := by
  obtain ⟨a1, a2, -⟩ := h
  have e6 := a2 192 16 (by decide) (by omega)
  have e7 := a2 192 17 (by decide) (by omega)
  obtain ⟨b1, b2, b3⟩ := hb
  exact ⟨a1, hq.1, hq.2, by omega, by omega, by omega⟩
theorem r_mk_17 (h : r_mk p kd g0 M0 M) : M 192 17 = M0 192 17 := h.2.1 192 17 (by decide) (by omega)
theorem r_mk_cl {y : Int} (h : r_mk p kd g0 M0 M) (hy : r_cl g0 p y) : r_cl (r_G M) p y := by
  have a3 := h.2.2.1
  have h0 := hy.1
  have h1 := hy.2.1
  exact r_cl_eq (a3 _ (by omega) (by omega) (by omega)) (a3 _ (by omega) (by omega) (by omega)) (r_lies_eq (fun j j0 j1 => a3 _ (by omega) (by omega) (by omega))) hy
theorem r_mk_cl' {b y : Int} (h : r_mk p kd g0 M0 M) (hb : b ≤ p) (hy : r_cl g0 b y) : r_cl (r_G M) b y := by
  have h1 := r_mk_cl h (r_cl_up hy hb)
  exact ⟨h1.1, hy.2.1, h1.2.2⟩
theorem r_mk_rw' {b y : Int} (h : r_mk p kd g0 M0 M) (hb : b ≤ p) (hy : r_rw g0 b y) : r_rw (r_G M) b y := by
  have a3 := h.2.2.1
  have h0 := hy.1
  have h1 := hy.2.1
  exact r_rw_eq (fun j j0 j1 j2 => a3 _ (by omega) (by omega) (by omega)) (fun z hz => r_mk_cl' h (by omega) hz) hy
theorem r_mk_fd' {b y : Int} (h : r_mk p kd g0 M0 M) (hb : b ≤ p) (hy : r_fd g0 b y) : r_fd (r_G M) b y := by
  have a3 := h.2.2.1
  have h0 := hy.1
  have h1 := hy.2.1
  exact r_fd_eq (fun j j0 j1 j2 => a3 _ (by omega) (by omega) (by omega)) (fun z hz => r_mk_cl' h (by omega) hz) (fun z hz => r_mk_rw' h (by omega) hz) hy
theorem r_mk_bx' {b y : Int} (h : r_mk p kd g0 M0 M) (hb : b ≤ p) (hy : r_bx g0 b y) : r_bx (r_G M) b y := by
  have a3 := h.2.2.1
  have h0 := hy.1
  have h1 := hy.2.1
  exact r_bx_eq (a3 _ (by omega) (by omega) (by omega)) (a3 _ (by omega) (by omega) (by omega)) (a3 _ (by omega) (by omega) (by omega)) (fun h4 => by rw [a3 _ (by omega) (by omega) (by omega)]; exact h4) (fun z hz => r_mk_cl' h (by omega) hz) (fun z hz => r_mk_rw' h (by omega) hz) (fun z hz => r_mk_fd' h (by omega) hz) hy
end RMK
