section YL
variable {b : Nat → Int} {n k k' : Nat} {M M' : EM}
def y_Pi (b : Nat → Int) (n k k' : Nat) : Prop := y_rd b n k' ∧ w_T b k' 3 = 114 ∧ w_T b k' 5 = 0 ∧ w_T b k' 7 = w_T b k 7
theorem y_item (hB : y_B b n k M) (hA : w_A b k) (h2 : w_T b k 2 = 1) (h3 : w_T b k 3 = 114) (h5 : w_T b k 5 = 0) : y_O b n k M (E_C 182 [192] M) (y_Pi b n k) := by
  obtain ⟨t1, t2⟩ := y_takes (c := 91) hB (by decide)
  by_cases q : y_s b n k = 91
  · obtain ⟨g1, l1, e1, tt1, B1⟩ := t1 q
    obtain ⟨a1, a2, a3, a4, a5, a6, a7, a8⟩ := y_opn hA h2 e1 h3 h5
    obtain ⟨r, M2, k2, g2, tt2, B2, c1, c2, c3⟩ := y_nums B1 a1 a2 (Or.inr ⟨a3.trans h3, by rw [a5]; decide⟩)
    rcases c3 with ⟨e, p1, p2, p3, p4, p5⟩ | ⟨e, c3⟩
    · subst e
      obtain ⟨s1, s2⟩ := y_takes (c := 93) B2 (by decide)
      by_cases q2 : y_s b n k2 = 93
      · obtain ⟨g3, l3, e3, tt3, B3⟩ := s1 q2
        obtain ⟨u1, u2, u3, u4, u5, u6, u7, u8⟩ := y_cls c2 p1 l3 e3 (by rw [p4, a5]; decide)
        refine ⟨1, _, k2 + 1, ?_, r_tt_tr tt1 (r_tt_tr tt2 tt3), B3, by omega, u1, Or.inl ⟨rfl, ⟨by rw [u2]; decide, by rw [u2]; decide, by rw [u2]; exact fun e => absurd e.1 (by decide)⟩, u3.trans (p3.trans (a3.trans h3)), u5, u7.trans (p5.trans a7)⟩⟩
        rw [r_ent (show e_rok 182 [192] = true from decide_eq_true r_ref)]
        show e_tv E_C (E_V 182) e_t182_0 [192] M = _
        unfold e_t182_0
        simp [e_tv, e_ev, e_sv, e_b1, e_b2, x_o1, x_o2, g1, g2, g3]
      · have g3 := s2 q2
        refine ⟨0, M2, k2, ?_, r_tt_tr tt1 tt2, B2, by omega, c2, Or.inr ⟨rfl, y_bad2 c2 B2.2.2.1 p1 (fun hl e => ?_)⟩⟩
        · rw [r_ent (show e_rok 182 [192] = true from decide_eq_true r_ref)]
          show e_tv E_C (E_V 182) e_t182_0 [192] M = _
          unfold e_t182_0
          simp [e_tv, e_ev, e_sv, e_b1, e_b2, x_o1, x_o2, g1, g2, g3]
        · rw [y_sb hl] at q2 p2
          omega
    · subst e
      refine ⟨0, M2, k2, ?_, r_tt_tr tt1 tt2, B2, by omega, c2, Or.inr ⟨rfl, c3⟩⟩
      rw [r_ent (show e_rok 182 [192] = true from decide_eq_true r_ref)]
      show e_tv E_C (E_V 182) e_t182_0 [192] M = _
      unfold e_t182_0
      simp [e_tv, e_ev, e_sv, e_b1, e_b2, x_o1, x_o2, g1, g2]
  · have g1 := t2 q
    obtain ⟨n1, n2⟩ := y_num hB hA h2
    by_cases d : k < n ∧ 48 ≤ b k ∧ b k ≤ 57
    · obtain ⟨k1, M1, g2, tt1, B1, ⟨z1, z2, z3, z4, z5, z6, z7, z8, z9, z10, z11⟩, -⟩ := n2 d
      refine ⟨1, M1, k1, ?_, tt1, B1, by omega, z4, Or.inl ⟨rfl, z5, z6.trans h3, z8.trans h5, z10⟩⟩
      rw [r_ent (show e_rok 182 [192] = true from decide_eq_true r_ref)]
      show e_tv E_C (E_V 182) e_t182_0 [192] M = _
      unfold e_t182_0
      simp [e_tv, e_ev, e_sv, e_b1, e_b2, x_o1, x_o2, g1, g2]
    · have g2 := n1 d
      refine ⟨0, M, k, ?_, r_tt_rf hB.1, hB, Nat.le_refl _, hA, Or.inr ⟨rfl, y_bad1 hA hB.2.2.1 h2 d (fun hl e => ?_)⟩⟩
      · rw [r_ent (show e_rok 182 [192] = true from decide_eq_true r_ref)]
        show e_tv E_C (E_V 182) e_t182_0 [192] M = _
        unfold e_t182_0
        simp [e_tv, e_ev, e_sv, e_b1, e_b2, x_o1, x_o2, g1, g2]
      · rw [y_sb hl] at q
        exact q e.1
def y_Ps (b : Nat → Int) (n k k' : Nat) : Prop := w_T b k' 2 = 0 ∧ w_T b k' 7 = w_T b k 7 + 1
theorem y_132 {x1 : Int} (hB : y_B b n k M) (hA : w_A b k) (rd : y_rd b n k) (h5 : w_T b k 5 = 0) (h4 : ¬ (w_T b k 3 = 99 ∧ w_T b k 4 = 0)) (h32 : w_T b k 3 = 98 ∨ y_s b n k ≠ 32) : y_O b n k M (E_V 183 132 [192, x1] M) (y_Ps b n k) := by
  obtain ⟨t1, t2⟩ := y_takes (c := 59) hB (by decide)
  by_cases q : y_s b n k = 59
  · obtain ⟨g1, l1, e1, tt1, B1⟩ := t1 q
    obtain ⟨a1, a2, a3, a4, a5, a6, a7, a8⟩ := y_smc hA rd l1 e1 h5 h4
    refine ⟨1, _, k + 1, ?_, tt1, B1, by omega, a1, Or.inl ⟨rfl, a2, a7⟩⟩
    rw [E_V_eq]
    show e_tv E_C (E_V 183) e_t183_132 [192, x1] M = _
    unfold e_t183_132
    simp [e_tv, e_ev, e_sv, e_b1, e_b2, x_o1, x_o2, g1]
  · have g1 := t2 q
    refine ⟨0, M, k, ?_, r_tt_rf hB.1, hB, Nat.le_refl _, hA, Or.inr ⟨rfl, y_bad2 hA hB.2.2.1 rd (fun hl e => ?_)⟩⟩
    · rw [E_V_eq]
      show e_tv E_C (E_V 183) e_t183_132 [192, x1] M = _
      unfold e_t183_132
      simp [e_tv, e_ev, e_sv, e_b1, e_b2, x_o1, x_o2, g1]
    · rw [y_sb hl] at q h32
      omega
theorem y_56 {x1 : Int} : ∀ (m k : Nat) (M : EM), n - k ≤ m → y_B b n k M → w_A b k → y_rd b n k → w_T b k 3 = 99 → w_T b k 4 = 1 → w_T b k 5 = 0 → y_O b n k M (E_V 183 56 [192, x1] M) (y_Ps b n k) := by
  intro m
  induction m with
  | zero =>
    intro k M hm hB hA rd h3 h4 h5
    obtain ⟨t1, t2⟩ := y_takes (c := 32) hB (by decide)
    have hk := hB.2.2.1
    have hn : y_s b n k ≠ 32 := fun e => by have := (y_lt e (by decide)).1; omega
    have k0 := t2 hn
    obtain ⟨r, M', k', k1, c1⟩ := y_132 (x1 := x1) hB hA rd h5 (by omega) (Or.inr hn)
    refine ⟨r, M', k', ?_, c1⟩
    rw [E_V_eq]
    show e_tv E_C (E_V 183) e_t183_56 [192, x1] M = _
    unfold e_t183_56
    simp [e_tv, e_ev, e_sv, e_b1, e_b2, x_o1, x_o2, k0, k1]
  | succ m ih =>
    intro k M hm hB hA rd h3 h4 h5
    obtain ⟨t1, t2⟩ := y_takes (c := 32) hB (by decide)
    by_cases q : y_s b n k = 32
    · obtain ⟨g1, l1, e1, tt1, B1⟩ := t1 q
      obtain ⟨a1, a2, a3, a4, a5, a6, a7, a8⟩ := y_spc hA rd l1 e1 (by omega) (by omega)
      obtain ⟨r, M2, k2, g2, tt2, B2, c1, c2, c3⟩ := y_point B1 a1 a2 (a3.trans h3) a4 (a5.trans h5)
      rcases c3 with ⟨e, p1, p2, p3, p4, p5⟩ | ⟨e, c3⟩
      · subst e
        obtain ⟨r, M3, k3, g3, tt3, B3, d1, d2, d3⟩ := ih k2 M2 (by omega) B2 c2 p1 p2 p3 p4
        refine ⟨r, M3, k3, ?_, r_tt_tr tt1 (r_tt_tr tt2 tt3), B3, by omega, d2, ?_⟩
        · rw [E_V_eq]
          show e_tv E_C (E_V 183) e_t183_56 [192, x1] M = _
          unfold e_t183_56
          simp [e_tv, e_ev, e_sv, e_b1, e_b2, x_o1, x_o2, g1, g2, g3]
        · rcases d3 with ⟨e, d3, d4⟩ | d3
          · exact Or.inl ⟨e, d3, by omega⟩
          · exact Or.inr d3
      · subst e
        refine ⟨0, M2, k2, ?_, r_tt_tr tt1 tt2, B2, by omega, c2, Or.inr ⟨rfl, c3⟩⟩
        rw [E_V_eq]
        show e_tv E_C (E_V 183) e_t183_56 [192, x1] M = _
        unfold e_t183_56
        simp [e_tv, e_ev, e_sv, e_b1, e_b2, x_o1, x_o2, g1, g2]
    · have k0 := t2 q
      obtain ⟨r, M', k', k1, c1⟩ := y_132 (x1 := x1) hB hA rd h5 (by omega) (Or.inr q)
      refine ⟨r, M', k', ?_, c1⟩
      rw [E_V_eq]
      show e_tv E_C (E_V 183) e_t183_56 [192, x1] M = _
      unfold e_t183_56
      simp [e_tv, e_ev, e_sv, e_b1, e_b2, x_o1, x_o2, k0, k1]
end YL
