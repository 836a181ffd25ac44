section YL
variable {b : Nat → Int} {n k k' : Nat} {M M' : EM}
/-- where a sign is wanted and none comes -/
theorem y_bad2 (hA : w_A b k) (hk : k ≤ n) (rd : y_rd b n k) (h : k < n → ¬ ((b k = 47 ∧ w_T b k 3 = 99 ∧ w_T b k 4 = 0) ∨ (b k = 93 ∧ w_T b k 5 ≠ 0) ∨ (b k = 32 ∧ w_T b k 3 ≠ 98 ∧ ¬ (w_T b k 3 = 99 ∧ w_T b k 4 = 0)) ∨ (b k = 59 ∧ w_T b k 5 = 0 ∧ ¬ (w_T b k 3 = 99 ∧ w_T b k 4 = 0)))) : y_bad b n k :=
  ⟨hA, hk, fun hl ok => h hl ((y_okr rd hl).mp ok), fun e => by rw [← e]; exact rd.1⟩
theorem y_F (h : y_bad b n k) : w_F b n k := ⟨h.1, h.2.1, h.2.2.1, fun e q => h.2.2.2 e q.1⟩
/-- what reading leaves -/
def y_O (b : Nat → Int) (n k : Nat) (M : EM) (o : EO) (P : Nat → Prop) : Prop := ∃ r M' k', o = some (r, M') ∧ r_tt M M' ∧ y_B b n k' M' ∧ k ≤ k' ∧ w_A b k' ∧ ((r = 1 ∧ P k') ∨ (r = 0 ∧ y_bad b n k'))
def y_Pn (b : Nat → Int) (n k k' : Nat) : Prop := y_rd b n k' ∧ y_s b n k' ≠ 32 ∧ w_T b k' 3 = w_T b k 3 ∧ w_T b k' 5 = w_T b k 5 ∧ w_T b k' 7 = w_T b k 7
theorem y_nums_l : ∀ (m k : Nat) (M : EM), n - k ≤ m → y_B b n k M → w_A b k → y_rd b n k → (w_T b k 3 = 102 ∨ (w_T b k 3 = 114 ∧ w_T b k 5 ≠ 0)) → y_O b n k M (E_V 180 9 [192] M) (y_Pn b n k) := by
  intro m
  induction m with
  | zero =>
    intro k M hm hB hA rd h3
    obtain ⟨t1, t2⟩ := y_takes (c := 32) hB (by decide)
    have hk := hB.2.2.1
    have hn : y_s b n k ≠ 32 := fun e => by have := (y_lt e (by decide)).1; omega
    have k0 := t2 hn
    refine ⟨1, M, k, ?_, r_tt_rf hB.1, hB, Nat.le_refl _, hA, Or.inl ⟨rfl, rd, hn, rfl, rfl, rfl⟩⟩
    rw [E_V_eq]
    show e_tv E_C (E_V 180) e_t180_9 [192] M = _
    unfold e_t180_9
    simp [e_tv, e_ev, e_sv, e_b1, e_b2, x_o1, x_o2, k0]
  | succ m ih =>
    intro k M hm hB hA rd h3
    obtain ⟨t1, t2⟩ := y_takes (c := 32) hB (by decide)
    by_cases q : y_s b n k = 32
    · obtain ⟨k1, l1, e1, tt1, B1⟩ := t1 q
      obtain ⟨a1, a2, a3, a4, a5, a6, a7, a8⟩ := y_spc hA rd l1 e1 (by omega) (by omega)
      obtain ⟨n1, n2⟩ := y_num B1 a1 a2
      by_cases d : k + 1 < n ∧ 48 ≤ b (k + 1) ∧ b (k + 1) ≤ 57
      · obtain ⟨k', M', k2, tt2, B2, ⟨z1, z2, z3, z4, z5, z6, z7, z8, z9, z10, z11⟩, -⟩ := n2 d
        obtain ⟨r, M'', k'', k3, tt3, B3, c1, c2, c3⟩ := ih k' M' (by omega) B2 z4 z5 (by rw [z6, z8, a3, a5]; exact h3)
        refine ⟨r, M'', k'', ?_, r_tt_tr tt1 (r_tt_tr tt2 tt3), B3, by omega, c2, ?_⟩
        · rw [E_V_eq]
          show e_tv E_C (E_V 180) e_t180_9 [192] M = _
          unfold e_t180_9
          simp [e_tv, e_ev, e_sv, e_b1, e_b2, x_o1, x_o2, k1, k2, k3]
        · rcases c3 with ⟨e, p1, p2, p3, p4, p5⟩ | c3
          · exact Or.inl ⟨e, p1, p2, p3.trans (z6.trans a3), p4.trans (z8.trans a5), p5.trans (z10.trans a7)⟩
          · exact Or.inr c3
      · have k2 := n1 d
        refine ⟨0, _, k + 1, ?_, tt1, B1, by omega, a1, Or.inr ⟨rfl, y_bad1 a1 B1.2.2.1 a2 d (fun _ e => by omega)⟩⟩
        rw [E_V_eq]
        show e_tv E_C (E_V 180) e_t180_9 [192] M = _
        unfold e_t180_9
        simp [e_tv, e_ev, e_sv, e_b1, e_b2, x_o1, x_o2, k1, k2]
    · have k0 := t2 q
      refine ⟨1, M, k, ?_, r_tt_rf hB.1, hB, Nat.le_refl _, hA, Or.inl ⟨rfl, rd, q, rfl, rfl, rfl⟩⟩
      rw [E_V_eq]
      show e_tv E_C (E_V 180) e_t180_9 [192] M = _
      unfold e_t180_9
      simp [e_tv, e_ev, e_sv, e_b1, e_b2, x_o1, x_o2, k0]
theorem y_nums (hB : y_B b n k M) (hA : w_A b k) (h2 : w_T b k 2 = 1) (h3 : w_T b k 3 = 102 ∨ (w_T b k 3 = 114 ∧ w_T b k 5 ≠ 0)) : y_O b n k M (E_C 180 [192] M) (y_Pn b n k) := by
  obtain ⟨n1, n2⟩ := y_num hB hA h2
  by_cases d : k < n ∧ 48 ≤ b k ∧ b k ≤ 57
  · obtain ⟨k', M', k2, tt2, B2, ⟨z1, z2, z3, z4, z5, z6, z7, z8, z9, z10, z11⟩, -⟩ := n2 d
    obtain ⟨r, M'', k'', k3, tt3, B3, c1, c2, c3⟩ := y_nums_l _ k' M' (Nat.le_refl _) B2 z4 z5 (by rw [z6, z8]; exact h3)
    refine ⟨r, M'', k'', ?_, r_tt_tr tt2 tt3, B3, by omega, c2, ?_⟩
    · rw [r_ent (show e_rok 180 [192] = true from decide_eq_true r_ref)]
      show e_tv E_C (E_V 180) e_t180_0 [192] M = _
      unfold e_t180_0
      simp [e_tv, e_ev, e_sv, e_b1, e_b2, x_o1, x_o2, k2, k3]
    · rcases c3 with ⟨e, p1, p2, p3, p4, p5⟩ | c3
      · exact Or.inl ⟨e, p1, p2, p3.trans z6, p4.trans z8, p5.trans z10⟩
      · exact Or.inr c3
  · have k2 := n1 d
    refine ⟨0, M, k, ?_, r_tt_rf hB.1, hB, Nat.le_refl _, hA, Or.inr ⟨rfl, y_bad1 hA hB.2.2.1 h2 d (fun _ e => by omega)⟩⟩
    rw [r_ent (show e_rok 180 [192] = true from decide_eq_true r_ref)]
    show e_tv E_C (E_V 180) e_t180_0 [192] M = _
    unfold e_t180_0
    simp [e_tv, e_ev, e_sv, e_b1, e_b2, x_o1, x_o2, k2]
def y_Pp (b : Nat → Int) (n k k' : Nat) : Prop := y_rd b n k' ∧ w_T b k' 3 = 99 ∧ w_T b k' 4 = 1 ∧ w_T b k' 5 = 0 ∧ w_T b k' 7 = w_T b k 7
theorem y_point (hB : y_B b n k M) (hA : w_A b k) (h2 : w_T b k 2 = 1) (h3 : w_T b k 3 = 99) (h4 : w_T b k 4 = 0) (h5 : w_T b k 5 = 0) : y_O b n k M (E_C 181 [192] M) (y_Pp b n k) := by
  obtain ⟨n1, n2⟩ := y_num hB hA h2
  by_cases d : k < n ∧ 48 ≤ b k ∧ b k ≤ 57
  · obtain ⟨k1, M1, g1, tt1, B1, ⟨z1, z2, z3, z4, z5, z6, z7, z8, z9, z10, z11⟩, -⟩ := n2 d
    obtain ⟨t1, t2⟩ := y_takes (c := 47) B1 (by decide)
    by_cases q : y_s b n k1 = 47
    · obtain ⟨g2, l1, e1, tt2, B2⟩ := t1 q
      obtain ⟨a1, a2, a3, a4, a5, a6, a7, a8⟩ := y_sla z4 z5 l1 e1 (z6.trans h3) (z7.trans h4)
      obtain ⟨m1, m2⟩ := y_num B2 a1 a2
      by_cases d2 : k1 + 1 < n ∧ 48 ≤ b (k1 + 1) ∧ b (k1 + 1) ≤ 57
      · obtain ⟨k2, M2, g3, tt3, B3, ⟨y1, y2, y3, y4, y5, y6, y7, y8, y9, y10, y11⟩, -⟩ := m2 d2
        refine ⟨1, M2, k2, ?_, r_tt_tr tt1 (r_tt_tr tt2 tt3), B3, by omega, y4, Or.inl ⟨rfl, y5, y6.trans (a3.trans (z6.trans h3)), y7.trans a4, y8.trans (a5.trans (z8.trans h5)), y10.trans (a7.trans z10)⟩⟩
        rw [r_ent (show e_rok 181 [192] = true from decide_eq_true r_ref)]
        show e_tv E_C (E_V 181) e_t181_0 [192] M = _
        unfold e_t181_0
        simp [e_tv, e_ev, e_sv, e_b1, e_b2, x_o1, x_o2, g1, g2, g3]
      · have g3 := m1 d2
        refine ⟨0, _, k1 + 1, ?_, r_tt_tr tt1 tt2, B2, by omega, a1, Or.inr ⟨rfl, y_bad1 a1 B2.2.2.1 a2 d2 (fun _ e => by omega)⟩⟩
        rw [r_ent (show e_rok 181 [192] = true from decide_eq_true r_ref)]
        show e_tv E_C (E_V 181) e_t181_0 [192] M = _
        unfold e_t181_0
        simp [e_tv, e_ev, e_sv, e_b1, e_b2, x_o1, x_o2, g1, g2, g3]
    · have g2 := t2 q
      refine ⟨0, M1, k1, ?_, tt1, B1, by omega, z4, Or.inr ⟨rfl, y_bad2 z4 z2 z5 (fun hl e => ?_)⟩⟩
      · rw [r_ent (show e_rok 181 [192] = true from decide_eq_true r_ref)]
        show e_tv E_C (E_V 181) e_t181_0 [192] M = _
        unfold e_t181_0
        simp [e_tv, e_ev, e_sv, e_b1, e_b2, x_o1, x_o2, g1, g2]
      · rw [y_sb hl] at q
        omega
  · have g1 := n1 d
    refine ⟨0, M, k, ?_, r_tt_rf hB.1, hB, Nat.le_refl _, hA, Or.inr ⟨rfl, y_bad1 hA hB.2.2.1 h2 d (fun _ e => by omega)⟩⟩
    rw [r_ent (show e_rok 181 [192] = true from decide_eq_true r_ref)]
    show e_tv E_C (E_V 181) e_t181_0 [192] M = _
    unfold e_t181_0
    simp [e_tv, e_ev, e_sv, e_b1, e_b2, x_o1, x_o2, g1]
end YL
