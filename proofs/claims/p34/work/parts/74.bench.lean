def a_w147x173 : AW := [(173, 0, 39)]
def a_x147x173 : List AV := [a_r [173], a_T32, a_T32]
set_option maxRecDepth 100000 in
theorem a_c147x173 : (a_rok 147 a_x147x173 && a_an a_w147x173 (a_orc a_w147x173) 60 147 [] (a_ent 147 a_x147x173) (.mulL 4 (.num 0))) = true := by decide +kernel
def a_w147x174 : AW := [(174, 0, 39)]
def a_x147x174 : List AV := [a_r [174], a_T32, a_T32]
set_option maxRecDepth 100000 in
theorem a_c147x174 : (a_rok 147 a_x147x174 && a_an a_w147x174 (a_orc a_w147x174) 60 147 [] (a_ent 147 a_x147x174) (.mulL 4 (.num 0))) = true := by decide +kernel
def a_w147x175 : AW := [(175, 0, 159)]
def a_x147x175 : List AV := [a_r [175], a_T32, a_T32]
set_option maxRecDepth 100000 in
theorem a_c147x175 : (a_rok 147 a_x147x175 && a_an a_w147x175 (a_orc a_w147x175) 60 147 [] (a_ent 147 a_x147x175) (.mulL 4 (.num 0))) = true := by decide +kernel
def a_w147x176 : AW := [(176, 0, 39)]
def a_x147x176 : List AV := [a_r [176], a_T32, a_T32]
set_option maxRecDepth 100000 in
theorem a_c147x176 : (a_rok 147 a_x147x176 && a_an a_w147x176 (a_orc a_w147x176) 60 147 [] (a_ent 147 a_x147x176) (.mulL 4 (.num 0))) = true := by decide +kernel
def a_w270 : AW := [(172, 0, 39)]
def a_x270 : List AV := [a_r [172], a_i 0 0]
set_option maxRecDepth 100000 in
theorem a_c270 : (a_rok 270 a_x270 && a_an a_w270 (a_orc a_w270) 60 270 [] (a_ent 270 a_x270) (.mulL 4 (.num 0))) = true := by decide +kernel
def a_w270b : AW := [(181, 0, 999)]
def a_x270b : List AV := [a_r [181], a_i 0 0]
set_option maxRecDepth 100000 in
theorem a_c270b : (a_rok 270 a_x270b && a_an a_w270b (a_orc a_w270b) 60 270 [] (a_ent 270 a_x270b) (.mulL 4 (.num 0))) = true := by decide +kernel
theorem c_isB : e_isO 0 170 := by decide +kernel
theorem c_lay {a i v : Int} {M : EM} (ha : a ∈ [(173 : Int), 174, 175, 176]) (hM : a_M M) (hi : -2147483648 ≤ i ∧ i ≤ 2147483647) (hv : -2147483648 ≤ v ∧ v ≤ 2147483647) : ∃ r M', E_C 147 [a, i, v] M = some (r, M') ∧ a_M M' ∧ a_fr a_w5 M M' ∧ M' 170 0 = M 170 0 := by
  simp only [List.mem_cons, List.not_mem_nil, or_false] at ha
  rcases ha with rfl | rfl | rfl | rfl
  · obtain ⟨r, M', h1, -, h3, h4⟩ := a_entry a_c147x173 (as := [173, i, v]) ⟨List.mem_cons_self, a_gi hi.1 hi.2, a_gi hv.1 hv.2, trivial⟩ hM
    exact ⟨r, M', h1, h3, a_sub_fr (by decide +kernel) h4, h4 170 0 (by decide +kernel)⟩
  · obtain ⟨r, M', h1, -, h3, h4⟩ := a_entry a_c147x174 (as := [174, i, v]) ⟨List.mem_cons_self, a_gi hi.1 hi.2, a_gi hv.1 hv.2, trivial⟩ hM
    exact ⟨r, M', h1, h3, a_sub_fr (by decide +kernel) h4, h4 170 0 (by decide +kernel)⟩
  · obtain ⟨r, M', h1, -, h3, h4⟩ := a_entry a_c147x175 (as := [175, i, v]) ⟨List.mem_cons_self, a_gi hi.1 hi.2, a_gi hv.1 hv.2, trivial⟩ hM
    exact ⟨r, M', h1, h3, a_sub_fr (by decide +kernel) h4, h4 170 0 (by decide +kernel)⟩
  · obtain ⟨r, M', h1, -, h3, h4⟩ := a_entry a_c147x176 (as := [176, i, v]) ⟨List.mem_cons_self, a_gi hi.1 hi.2, a_gi hv.1 hv.2, trivial⟩ hM
    exact ⟨r, M', h1, h3, a_sub_fr (by decide +kernel) h4, h4 170 0 (by decide +kernel)⟩
theorem c_bup {W : AW} {M : EM} {k : Nat} {v : Int} (hk : (a_ok W 170 (k : Nat) (k : Nat) (-2147483648, 2147483647, false)) = true) (hv : -2147483648 ≤ v ∧ v ≤ 2147483647) (hM : a_M M) : a_M (e_up M 170 k v) ∧ a_fr W M (e_up M 170 k v) :=
  a_up_ok (k := k) hk (Int.le_refl _) (Int.le_refl _) ⟨hv.1, hv.2, fun h => by cases h⟩ hM
theorem c_clear {M : EM} (hM : a_M M) : ∃ r M', E_C 3 [170] M = some (r, M') ∧ a_M M' ∧ a_fr a_w3 M M' ∧ M' 170 0 = 0 := by
  have h1 : E_C 3 [170] M = e_tv E_C (E_V 3) e_t3_0 [170] M := by
    unfold E_C
    rw [if_pos (show e_rok 3 [170] = true from decide_eq_true c_isB), E_V_eq]
    rfl
  rw [h1]
  have p0 : ∀ M, e_pf 0 [170, 0] M = some (e_up M 170 0 0) := fun M => c_pf c_isB (by decide +kernel)
  have p4 : ∀ M, e_pf 4 [170, 0] M = some (e_up M 170 4 0) := fun M => c_pf c_isB (by decide +kernel)
  have p5 : ∀ M, e_pf 5 [170, 0] M = some (e_up M 170 5 0) := fun M => c_pf c_isB (by decide +kernel)
  have g9 : ∀ M, e_gf 9 [170] M = some 172 := fun M => (c_gr c_isB (by decide +kernel)).trans (congrArg some (by decide +kernel))
  obtain ⟨a1, b1⟩ := c_bup (W := a_w3) (M := M) (k := 0) (v := 0) (by decide +kernel) (by decide) hM
  obtain ⟨a2, b2⟩ := c_bup (W := a_w3) (k := 4) (v := 0) (by decide +kernel) (by decide) a1
  obtain ⟨a3, b3⟩ := c_bup (W := a_w3) (k := 5) (v := 0) (by decide +kernel) (by decide) a2
  obtain ⟨r, M', f1, -, f2, f3⟩ := a_entry a_c270 (as := [172, 0]) ⟨List.mem_cons_self, a_gi (by decide) (by decide), trivial⟩ a3
  refine ⟨0, M', ?_, f2, a_fr_tr b1 (a_fr_tr b2 (a_fr_tr b3 (a_sub_fr (by decide +kernel) f3))), ?_⟩
  · unfold e_t3_0
    simp [e_tv, e_ev, e_sv, p0, p4, p5, g9, f1]
  · rw [f3 170 0 (by decide +kernel), c_up_n (by decide), c_up_n (by decide), c_up_s]
