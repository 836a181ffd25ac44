section ERE
variable {ro : MRo} {d mid pc pc' pc'' : Nat} {L L' L'' : ML} {st st' st'' : List MV} {w w' w'' : MWd} {i : Instr}
theorem e_re_rf : e_re ro d mid pc L st w pc L st w := fun k _ h => ⟨k, h⟩
theorem e_re_tr (h1 : e_re ro d mid pc L st w pc' L' st' w') (h2 : e_re ro d mid pc' L' st' w' pc'' L'' st'' w'') : e_re ro d mid pc L st w pc'' L'' st'' w'' := fun k o h => by
  obtain ⟨k1, h3⟩ := h2 k o h
  exact h1 k1 o h3
theorem e_in_ok (h : e_in mid pc = some i) : q_th mid pc = none ∧ q_i mid pc = some i := by
  unfold e_in at h
  split at h
  · rename_i h1; exact ⟨h1, h⟩
  · cases h
theorem e_re_stp {r : Nat × ML × List MV × MWd} (hi : e_in mid pc = some i) (h : m_stp ro mid d i pc L st w = some r) : e_re ro d mid pc L st w r.1 r.2.1 r.2.2.1 r.2.2.2 := fun k o hk => by
  obtain ⟨h1, h2⟩ := e_in_ok hi
  exact ⟨k + 1, by rw [m_run_stp h1 h2 h]; exact hk⟩
theorem e_re_pr {r : Nat × ML × List MV} (hi : e_in mid pc = some i) (h : m_pure i pc (q_nl mid) L st = some r) : e_re ro d mid pc L st w r.1 r.2.1 r.2.2 w := e_re_stp hi (m_stp_p h)
theorem e_re_p (hi : e_in mid pc = some i) (h : m_pure i pc (q_nl mid) L st = some (pc', L', st')) : e_re ro d mid pc L st w pc' L' st' w := e_re_pr hi h
theorem e_re_h {r : List MV × MWd} (hi : e_in mid pc = some i) (h0 : m_pure i pc (q_nl mid) L st = none) (h : m_heap ro mid i st w = some r) : e_re ro d mid pc L st w (pc + m_len i) L r.1 r.2 := e_re_stp hi (m_stp_h h0 h)
theorem e_re_c {v : MV} (hi : e_in mid pc = some i) (h0 : m_pure i pc (q_nl mid) L st = none) (h1 : m_heap ro mid i st w = none) (h2 : m_new mid i st w = none) (h3 : m_ret mid i st = none) (h4 : m_obj mid i st = none) (h : m_con mid i = some v) : e_re ro d mid pc L st w (pc + m_len i) L (v :: st) w := e_re_stp hi (m_stp_c h0 h1 h2 h3 h4 h)
theorem e_re_o (hi : e_in mid pc = some i) (h0 : m_pure i pc (q_nl mid) L st = none) (h1 : m_heap ro mid i st w = none) (h2 : m_new mid i st w = none) (h3 : m_ret mid i st = none) (h : m_obj mid i st = some st') (hd : 0 < d) : e_re ro d mid pc L st w (pc + 3) L st' w := e_re_stp hi (m_stp_o h0 h1 h2 h3 h (by omega))
theorem e_no_new (h1 : ∀ idx, i ≠ .new idx) (h2 : ∀ t, i ≠ .newarray t) (h3 : ∀ idx, i ≠ .anewarray idx) : m_new mid i st w = none := m_new_none h1 h2 h3
/-- a constant -/
theorem e_re_cst {x : Int32 × Nat} (h : (e_in mid pc).bind (e_cst mid) = some x) : e_re ro d mid pc L st w (pc + x.2) L (.inl x.1 :: st) w := by
  obtain ⟨i, hi, h⟩ := Option.bind_eq_some_iff.mp h
  cases i
  case iconst n => cases h; exact e_re_p hi rfl
  case bipush n => cases h; exact e_re_p hi rfl
  case sipush n => cases h; exact e_re_p hi rfl
  case ldc idx =>
    simp only [e_cst] at h
    split at h
    · rename_i y hq
      cases h
      exact e_re_c hi rfl rfl (e_no_new (fun _ q => by cases q) (fun _ q => by cases q) (fun _ q => by cases q)) rfl rfl (by simp only [m_con, hq])
    · cases h
  case ldc_w idx =>
    simp only [e_cst] at h
    split at h
    · rename_i y hq
      cases h
      exact e_re_c hi rfl rfl (e_no_new (fun _ q => by cases q) (fun _ q => by cases q) (fun _ q => by cases q)) rfl rfl (by simp only [m_con, hq])
    · cases h
  all_goals cases h
theorem e_re_csl {x : Int64 × Nat} (h : (e_in mid pc).bind (e_csl mid) = some x) : e_re ro d mid pc L st w (pc + x.2) L (.inr (.inl x.1) :: st) w := by
  obtain ⟨i, hi, h⟩ := Option.bind_eq_some_iff.mp h
  cases i
  case lconst n => cases h; exact e_re_p hi rfl
  case ldc2_w idx =>
    simp only [e_csl] at h
    split at h
    · rename_i y hq
      cases h
      exact e_re_c hi rfl rfl (e_no_new (fun _ q => by cases q) (fun _ q => by cases q) (fun _ q => by cases q)) rfl rfl (by simp only [m_con, hq])
    · cases h
  all_goals cases h
theorem e_re_null (hi : e_in mid pc = some .aconst_null) : e_re ro d mid pc L st w (pc + 1) L (.inr (.inr none) :: st) w := e_re_p hi rfl
theorem e_re_stat {idx s : Nat} (hi : e_in mid pc = some (.getstatic idx)) (hq : q_s mid idx = some s) : e_re ro d mid pc L st w (pc + 3) L (.inr (.inr (some s)) :: st) w :=
  e_re_c hi rfl rfl (e_no_new (fun _ q => by cases q) (fun _ q => by cases q) (fun _ q => by cases q)) rfl rfl (by simp only [m_con, hq])
theorem e_ld_ok {pc2 i t : Nat} {x : Int} {v : MV} {f : MV → Bool} {c : Nat} (hg : m_get L i = some v) (hv : e_v t x v) (hc : e_kt t = c) (hf : ∀ (x : Int) (v : MV), e_v c x v → f v = true) : m_ld pc2 L st i f = some (pc2, L, v :: st) := by
  subst hc
  unfold m_ld
  rw [hg]
  dsimp only
  rw [if_pos (hf x v (e_v_kt hv))]
theorem e_f0 (x : Int) (v : MV) (h : e_v 0 x v) : m_isI v = true := by obtain ⟨y, rfl, -⟩ := h; rfl
theorem e_f1 (x : Int) (v : MV) (h : e_v 1 x v) : m_isL v = true := by obtain ⟨y, rfl, -⟩ := h; rfl
theorem e_f2 (x : Int) (v : MV) (h : e_v 2 x v) : m_isR v = true := by rcases h with ⟨-, rfl⟩ | ⟨a, -, rfl⟩ <;> rfl
theorem e_re_lod {x : Nat × Nat × Nat} {t : Nat} {y : Int} {v : MV} (h : (e_in mid pc).bind e_lod = some x) (hg : m_get L x.1 = some v) (hv : e_v t y v) (hc : e_kt t = x.2.1) : e_re ro d mid pc L st w (pc + x.2.2) L (v :: st) w := by
  obtain ⟨i, hi, h⟩ := Option.bind_eq_some_iff.mp h
  cases i <;> first
    | (cases h; exact e_re_p hi (e_ld_ok hg hv hc e_f0))
    | (cases h; exact e_re_p hi (e_ld_ok hg hv hc e_f1))
    | (cases h; exact e_re_p hi (e_ld_ok hg hv hc e_f2))
    | (cases h; done)
/-! numbers -/
theorem e_wb (x : Int) : x.bmod 4294967296 = e_w x := by
  unfold e_w Int.bmod
  dsimp only
  split <;> omega
theorem e_Wb (x : Int) : x.bmod 18446744073709551616 = e_W x := by
  unfold e_W Int.bmod
  dsimp only
  split <;> omega
theorem e_of (x : Int32) : Int32.ofInt x.toInt = x := Int32.ofInt_toInt x
theorem e_rng (x : Int32) : -2147483648 ≤ x.toInt ∧ x.toInt ≤ 2147483647 := ⟨Int32.le_toInt x, by have := Int32.toInt_lt x; omega⟩
theorem e_rngL (x : Int64) : -9223372036854775808 ≤ x.toInt ∧ x.toInt ≤ 9223372036854775807 := ⟨Int64.le_toInt x, by have := Int64.toInt_lt x; omega⟩
theorem e_zero {y : Int32} : y = 0 ↔ y.toInt = 0 := by rw [← Int32.toInt_inj]; rfl
theorem e_zeroL {y : Int64} : y = 0 ↔ y.toInt = 0 := by rw [← Int64.toInt_inj]; rfl
theorem e_rem (x y : Int32) : (x - x / y * y).toInt = x.toInt.tmod y.toInt := by
  have h1 := e_rng x
  have h2 : -2147483648 ≤ x.toInt.tmod y.toInt ∧ x.toInt.tmod y.toInt ≤ 2147483647 := by
    by_cases hy : y.toInt = 0
    · rw [hy, Int.tmod_zero]; exact h1
    · have h5 := e_rng y
      have h6 : (x.toInt.tmod y.toInt).natAbs < y.toInt.natAbs := by
        rw [Int.natAbs_tmod]; exact Nat.mod_lt _ (by omega)
      revert h6
      generalize x.toInt.tmod y.toInt = z
      intro h6
      omega
  rw [Int32.toInt_sub, Int32.toInt_mul, Int32.toInt_div]
  have h3 : (((x.toInt.tdiv y.toInt).bmod (2 ^ 32) * y.toInt).bmod (2 ^ 32)) = (x.toInt.tdiv y.toInt * y.toInt).bmod (2 ^ 32) := by
    rw [Int.bmod_mul_bmod]
  rw [h3, Int.sub_bmod_bmod]
  have h4 : x.toInt - x.toInt.tdiv y.toInt * y.toInt = x.toInt.tmod y.toInt := by
    rw [Int.tmod_def, Int.mul_comm]
  rw [h4]
  show Int.bmod _ 4294967296 = _
  rw [e_wb]
  unfold e_w
  clear h3 h4
  revert h2
  generalize x.toInt.tmod y.toInt = z
  intro h2
  omega
end ERE
