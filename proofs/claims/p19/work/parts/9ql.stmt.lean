section
/-! the reference reads a STATEMENT: exactly -/
section YL
variable {b : Nat → Int} {n k k' : Nat} {M M' : EM}
theorem y_okr (rd : y_rd b n k) (hk : k < n) : w_ok (w_T b k) (b k) ↔ ((b k = 47 ∧ w_T b k 3 = 99 ∧ w_T b k 4 = 0) ∨ (b k = 93 ∧ w_T b k 5 ≠ 0) ∨ (b k = 32 ∧ w_T b k 3 ≠ 98 ∧ ¬ (w_T b k 3 = 99 ∧ w_T b k 4 = 0)) ∨ (b k = 59 ∧ w_T b k 5 = 0 ∧ ¬ (w_T b k 3 = 99 ∧ w_T b k 4 = 0))) := by
  obtain ⟨r1, r2, r3⟩ := rd
  unfold w_ok
  rw [if_neg r1, if_neg r2]
  exact ⟨fun h => h.resolve_left (fun e => r3 ⟨e.1, hk, e.2⟩), Or.inr⟩
theorem y_go (hA : w_A b k) (rd : y_rd b n k) (hk : k < n) (ok : w_ok (w_T b k) (b k)) : w_A b (k + 1) ∧ w_T b (k + 1) 2 = (if b k = 47 then 1 else if b k = 93 then 3 else if b k = 32 then 1 else 0) ∧ w_T b (k + 1) 3 = w_T b k 3 ∧ w_T b (k + 1) 4 = (if b k = 47 then 1 else if b k = 32 then 0 else w_T b k 4) ∧ w_T b (k + 1) 5 = (if b k = 93 then 0 else w_T b k 5) ∧ w_T b (k + 1) 6 = (if b k = 32 ∧ w_T b k 5 = 0 then w_T b k 6 + 1 else w_T b k 6) ∧ w_T b (k + 1) 7 = (if b k = 59 then w_T b k 7 + 1 else w_T b k 7) ∧ w_T b (k + 1) 8 = w_T b k 8 := by
  obtain ⟨r1, r2, r3⟩ := rd
  have r4 : ¬ (w_T b k 2 = 2 ∧ 48 ≤ b k ∧ b k ≤ 57) := fun e => r3 ⟨e.1, hk, e.2⟩
  refine ⟨w_As hA ok, ?_, ?_, ?_, ?_, ?_, ?_, ?_⟩
  · rw [w_Tn, w_nx2, if_neg r1, if_neg r2, if_neg r4]
  · rw [w_Tn, w_nx3, if_neg r1]
  · rw [w_Tn, w_nx4, if_neg r1, if_neg r2, if_neg r4]
  · rw [w_Tn, w_nx5, if_neg r1, if_neg r2, if_neg r4]
  · rw [w_Tn, w_nx6, if_neg r1, if_neg r2, if_neg r4]
  · rw [w_Tn, w_nx7 ok]
    by_cases c : b k = 59
    · rw [if_pos ⟨r1, r2, c⟩, if_pos c]
    · rw [if_neg (fun e => c e.2.2), if_neg c]
  · rw [w_Tn, w_nx8, if_neg (fun e => r2 e.1)]
theorem y_spc (hA : w_A b k) (rd : y_rd b n k) (hk : k < n) (e : b k = 32) (h3 : w_T b k 3 ≠ 98) (h4 : ¬ (w_T b k 3 = 99 ∧ w_T b k 4 = 0)) : w_A b (k + 1) ∧ w_T b (k + 1) 2 = 1 ∧ w_T b (k + 1) 3 = w_T b k 3 ∧ w_T b (k + 1) 4 = 0 ∧ w_T b (k + 1) 5 = w_T b k 5 ∧ w_T b (k + 1) 6 = (if w_T b k 5 = 0 then w_T b k 6 + 1 else w_T b k 6) ∧ w_T b (k + 1) 7 = w_T b k 7 ∧ w_T b (k + 1) 8 = w_T b k 8 := by
  have ok : w_ok (w_T b k) (b k) := (y_okr rd hk).mpr (Or.inr (Or.inr (Or.inl ⟨e, h3, h4⟩)))
  obtain ⟨a1, a2, a3, a4, a5, a6, a7, a8⟩ := y_go hA rd hk ok
  rw [e] at a2 a4 a5 a6 a7
  refine ⟨a1, a2, a3, a4, a5, ?_, a7, a8⟩
  rw [a6]
  by_cases c : w_T b k 5 = 0
  · rw [if_pos ⟨rfl, c⟩, if_pos c]
  · rw [if_neg (fun q => c q.2), if_neg c]
theorem y_sla (hA : w_A b k) (rd : y_rd b n k) (hk : k < n) (e : b k = 47) (h3 : w_T b k 3 = 99) (h4 : w_T b k 4 = 0) : w_A b (k + 1) ∧ w_T b (k + 1) 2 = 1 ∧ w_T b (k + 1) 3 = w_T b k 3 ∧ w_T b (k + 1) 4 = 1 ∧ w_T b (k + 1) 5 = w_T b k 5 ∧ w_T b (k + 1) 6 = w_T b k 6 ∧ w_T b (k + 1) 7 = w_T b k 7 ∧ w_T b (k + 1) 8 = w_T b k 8 := by
  have ok : w_ok (w_T b k) (b k) := (y_okr rd hk).mpr (Or.inl ⟨e, h3, h4⟩)
  obtain ⟨a1, a2, a3, a4, a5, a6, a7, a8⟩ := y_go hA rd hk ok
  rw [e] at a2 a4 a5 a6 a7
  exact ⟨a1, a2, a3, a4, a5, a6.trans (if_neg (fun q => absurd q.1 (by decide))), a7, a8⟩
theorem y_cls (hA : w_A b k) (rd : y_rd b n k) (hk : k < n) (e : b k = 93) (h5 : w_T b k 5 ≠ 0) : w_A b (k + 1) ∧ w_T b (k + 1) 2 = 3 ∧ w_T b (k + 1) 3 = w_T b k 3 ∧ w_T b (k + 1) 4 = w_T b k 4 ∧ w_T b (k + 1) 5 = 0 ∧ w_T b (k + 1) 6 = w_T b k 6 ∧ w_T b (k + 1) 7 = w_T b k 7 ∧ w_T b (k + 1) 8 = w_T b k 8 := by
  have ok : w_ok (w_T b k) (b k) := (y_okr rd hk).mpr (Or.inr (Or.inl ⟨e, h5⟩))
  obtain ⟨a1, a2, a3, a4, a5, a6, a7, a8⟩ := y_go hA rd hk ok
  rw [e] at a2 a4 a5 a6 a7
  exact ⟨a1, a2, a3, a4, a5, a6.trans (if_neg (fun q => absurd q.1 (by decide))), a7, a8⟩
theorem y_smc (hA : w_A b k) (rd : y_rd b n k) (hk : k < n) (e : b k = 59) (h5 : w_T b k 5 = 0) (h4 : ¬ (w_T b k 3 = 99 ∧ w_T b k 4 = 0)) : w_A b (k + 1) ∧ w_T b (k + 1) 2 = 0 ∧ w_T b (k + 1) 3 = w_T b k 3 ∧ w_T b (k + 1) 4 = w_T b k 4 ∧ w_T b (k + 1) 5 = w_T b k 5 ∧ w_T b (k + 1) 6 = w_T b k 6 ∧ w_T b (k + 1) 7 = w_T b k 7 + 1 ∧ w_T b (k + 1) 8 = w_T b k 8 := by
  have ok : w_ok (w_T b k) (b k) := (y_okr rd hk).mpr (Or.inr (Or.inr (Or.inr ⟨e, h5, h4⟩)))
  obtain ⟨a1, a2, a3, a4, a5, a6, a7, a8⟩ := y_go hA rd hk ok
  rw [e] at a2 a4 a5 a6 a7
  exact ⟨a1, a2, a3, a4, a5, a6.trans (if_neg (fun q => absurd q.1 (by decide))), a7, a8⟩
theorem y_opn (hA : w_A b k) (h2 : w_T b k 2 = 1) (e : b k = 91) (h3 : w_T b k 3 = 114) (h5 : w_T b k 5 = 0) : w_A b (k + 1) ∧ w_T b (k + 1) 2 = 1 ∧ w_T b (k + 1) 3 = w_T b k 3 ∧ w_T b (k + 1) 4 = w_T b k 4 ∧ w_T b (k + 1) 5 = 1 ∧ w_T b (k + 1) 6 = w_T b k 6 ∧ w_T b (k + 1) 7 = w_T b k 7 ∧ w_T b (k + 1) 8 = w_T b k 8 := by
  have ok : w_ok (w_T b k) (b k) := by
    unfold w_ok
    rw [if_neg (by omega), if_pos h2]
    exact Or.inr ⟨e, h3, h5⟩
  have d : ¬ (48 ≤ b k ∧ b k ≤ 57) := by omega
  refine ⟨w_As hA ok, ?_, ?_, ?_, ?_, ?_, ?_, ?_⟩
  · rw [w_Tn, w_nx2, if_neg (by omega), if_pos h2, if_neg d]
  · rw [w_Tn, w_nx3, if_neg (by omega)]
  · rw [w_Tn, w_nx4, if_neg (by omega), if_pos h2]
  · rw [w_Tn, w_nx5, if_neg (by omega), if_pos h2, if_neg d]
  · rw [w_Tn, w_nx6, if_neg (by omega), if_pos h2]
  · rw [w_Tn, w_nx7 ok, if_neg (by omega)]
  · rw [w_Tn, w_nx8, if_neg (by omega)]
theorem y_bgn (hA : w_A b k) (h2 : w_T b k 2 = 0) (e : b k = 99 ∨ b k = 114 ∨ b k = 102 ∨ b k = 98) : w_A b (k + 1) ∧ w_T b (k + 1) 2 = 1 ∧ w_T b (k + 1) 3 = b k ∧ w_T b (k + 1) 4 = 0 ∧ w_T b (k + 1) 5 = 0 ∧ w_T b (k + 1) 6 = 1 ∧ w_T b (k + 1) 7 = w_T b k 7 ∧ w_T b (k + 1) 8 = w_T b k 8 := by
  have ok : w_ok (w_T b k) (b k) := by
    unfold w_ok
    rw [if_pos h2]
    exact e
  refine ⟨w_As hA ok, ?_, ?_, ?_, ?_, ?_, ?_, ?_⟩
  · rw [w_Tn, w_nx2, if_pos h2]
  · rw [w_Tn, w_nx3, if_pos h2]
  · rw [w_Tn, w_nx4, if_pos h2]
  · rw [w_Tn, w_nx5, if_pos h2]
  · rw [w_Tn, w_nx6, if_pos h2]
  · rw [w_Tn, w_nx7 ok, if_neg (by omega)]
  · rw [w_Tn, w_nx8, if_neg (by omega)]
/-- where a number is wanted and none comes -/
theorem y_bad1 (hA : w_A b k) (hk : k ≤ n) (h2 : w_T b k 2 = 1) (q : ¬ (k < n ∧ 48 ≤ b k ∧ b k ≤ 57)) (q' : k < n → ¬ (b k = 91 ∧ w_T b k 3 = 114 ∧ w_T b k 5 = 0)) : y_bad b n k := by
  refine ⟨hA, hk, fun hl ok => ?_, fun e => by rw [← e, h2]; decide⟩
  unfold w_ok at ok
  rw [if_neg (by omega), if_pos h2] at ok
  rcases ok with ok | ok
  · exact q ⟨hl, ok⟩
  · exact q' hl ok
/-- where a sign is wanted and none comes -/
theorem y_bad2 (hA : w_A b k) (hk : k ≤ n) (rd : y_rd b n k) (h : k < n → ¬ ((b k = 47 ∧ w_T b k 3 = 99 ∧ w_T b k 4 = 0) ∨ (b k = 93 ∧ w_T b k 5 ≠ 0) ∨ (b k = 32 ∧ w_T b k 3 ≠ 98 ∧ ¬ (w_T b k 3 = 99 ∧ w_T b k 4 = 0)) ∨ (b k = 59 ∧ w_T b k 5 = 0 ∧ ¬ (w_T b k 3 = 99 ∧ w_T b k 4 = 0)))) : y_bad b n k :=
  ⟨hA, hk, fun hl ok => h hl ((y_okr rd hl).mp ok), fun e => by rw [← e]; exact rd.1⟩
theorem y_F (h : y_bad b n k) : w_F b n k := ⟨h.1, h.2.1, h.2.2.1, fun e q => h.2.2.2 e q.1⟩
/-- what reading leaves -/
def y_O (b : Nat → Int) (n k : Nat) (M : EM) (o : EO) (P : Nat → Prop) : Prop := ∃ r M' k', o = some (r, M') ∧ r_tt M M' ∧ y_B b n k' M' ∧ k ≤ k' ∧ w_A b k' ∧ ((r = 1 ∧ P k') ∨ (r = 0 ∧ y_bad b n k'))
def y_Pn (b : Nat → Int) (n k k' : Nat) : Prop := y_rd b n k' ∧ y_s b n k' ≠ 32 ∧ w_T b k' 3 = w_T b k 3 ∧ w_T b k' 5 = w_T b k 5 ∧ w_T b k' 7 = w_T b k 7
theorem y_nums_l : ∀ (m k : Nat) (M : EM), n - k ≤ m → y_B b n k M → w_A b k → y_rd b n k → (w_T b k 3 = 102 ∨ (w_T b k 3 = 114 ∧ w_T b k 5 ≠ 0)) → y_O b n k M (E_V 180 9 [192] M) (y_Pn b n k) := by
  intro m
  induction m with
  | zero =>
    intro k M hm hB hA rd h3
    obtain ⟨t1, t2⟩ := y_takes (c := 32) hB (by decide)
    have hk := hB.2.2.1
    have hn : y_s b n k ≠ 32 := fun e => by have := (y_lt e (by decide)).1; omega
    have k0 := t2 hn
    refine ⟨1, M, k, ?_, r_tt_rf hB.1, hB, Nat.le_refl _, hA, Or.inl ⟨rfl, rd, hn, rfl, rfl, rfl⟩⟩
    rw [E_V_eq]
    show e_tv E_C (E_V 180) e_t180_9 [192] M = _
    unfold e_t180_9
    simp [e_tv, e_ev, e_sv, e_b1, e_b2, x_o1, x_o2, k0]
  | succ m ih =>
    intro k M hm hB hA rd h3
    obtain ⟨t1, t2⟩ := y_takes (c := 32) hB (by decide)
    by_cases q : y_s b n k = 32
    · obtain ⟨k1, l1, e1, tt1, B1⟩ := t1 q
      obtain ⟨a1, a2, a3, a4, a5, a6, a7, a8⟩ := y_spc hA rd l1 e1 (by omega) (by omega)
      obtain ⟨n1, n2⟩ := y_num B1 a1 a2
      by_cases d : k + 1 < n ∧ 48 ≤ b (k + 1) ∧ b (k + 1) ≤ 57
      · obtain ⟨k', M', k2, tt2, B2, ⟨z1, z2, z3, z4, z5, z6, z7, z8, z9, z10, z11⟩, -⟩ := n2 d
        obtain ⟨r, M'', k'', k3, tt3, B3, c1, c2, c3⟩ := ih k' M' (by omega) B2 z4 z5 (by rw [z6, z8, a3, a5]; exact h3)
        refine ⟨r, M'', k'', ?_, r_tt_tr tt1 (r_tt_tr tt2 tt3), B3, by omega, c2, ?_⟩
        · rw [E_V_eq]
          show e_tv E_C (E_V 180) e_t180_9 [192] M = _
          unfold e_t180_9
          simp [e_tv, e_ev, e_sv, e_b1, e_b2, x_o1, x_o2, k1, k2, k3]
        · rcases c3 with ⟨e, p1, p2, p3, p4, p5⟩ | c3
          · exact Or.inl ⟨e, p1, p2, p3.trans (z6.trans a3), p4.trans (z8.trans a5), p5.trans (z10.trans a7)⟩
          · exact Or.inr c3
      · have k2 := n1 d
        refine ⟨0, _, k + 1, ?_, tt1, B1, by omega, a1, Or.inr ⟨rfl, y_bad1 a1 B1.2.2.1 a2 d (fun _ e => by omega)⟩⟩
        rw [E_V_eq]
        show e_tv E_C (E_V 180) e_t180_9 [192] M = _
        unfold e_t180_9
        simp [e_tv, e_ev, e_sv, e_b1, e_b2, x_o1, x_o2, k1, k2]
    · have k0 := t2 q
      refine ⟨1, M, k, ?_, r_tt_rf hB.1, hB, Nat.le_refl _, hA, Or.inl ⟨rfl, rd, q, rfl, rfl, rfl⟩⟩
      rw [E_V_eq]
      show e_tv E_C (E_V 180) e_t180_9 [192] M = _
      unfold e_t180_9
      simp [e_tv, e_ev, e_sv, e_b1, e_b2, x_o1, x_o2, k0]
theorem y_nums (hB : y_B b n k M) (hA : w_A b k) (h2 : w_T b k 2 = 1) (h3 : w_T b k 3 = 102 ∨ (w_T b k 3 = 114 ∧ w_T b k 5 ≠ 0)) : y_O b n k M (E_C 180 [192] M) (y_Pn b n k) := by
  obtain ⟨n1, n2⟩ := y_num hB hA h2
  by_cases d : k < n ∧ 48 ≤ b k ∧ b k ≤ 57
  · obtain ⟨k', M', k2, tt2, B2, ⟨z1, z2, z3, z4, z5, z6, z7, z8, z9, z10, z11⟩, -⟩ := n2 d
    obtain ⟨r, M'', k'', k3, tt3, B3, c1, c2, c3⟩ := y_nums_l _ k' M' (Nat.le_refl _) B2 z4 z5 (by rw [z6, z8]; exact h3)
    refine ⟨r, M'', k'', ?_, r_tt_tr tt2 tt3, B3, by omega, c2, ?_⟩
    · rw [r_ent (show e_rok 180 [192] = true from decide_eq_true r_ref)]
      show e_tv E_C (E_V 180) e_t180_0 [192] M = _
      unfold e_t180_0
      simp [e_tv, e_ev, e_sv, e_b1, e_b2, x_o1, x_o2, k2, k3]
    · rcases c3 with ⟨e, p1, p2, p3, p4, p5⟩ | c3
      · exact Or.inl ⟨e, p1, p2, p3.trans z6, p4.trans z8, p5.trans z10⟩
      · exact Or.inr c3
  · have k2 := n1 d
    refine ⟨0, M, k, ?_, r_tt_rf hB.1, hB, Nat.le_refl _, hA, Or.inr ⟨rfl, y_bad1 hA hB.2.2.1 h2 d (fun _ e => by omega)⟩⟩
    rw [r_ent (show e_rok 180 [192] = true from decide_eq_true r_ref)]
    show e_tv E_C (E_V 180) e_t180_0 [192] M = _
    unfold e_t180_0
    simp [e_tv, e_ev, e_sv, e_b1, e_b2, x_o1, x_o2, k2]
def y_Pp (b : Nat → Int) (n k k' : Nat) : Prop := y_rd b n k' ∧ w_T b k' 3 = 99 ∧ w_T b k' 4 = 1 ∧ w_T b k' 5 = 0 ∧ w_T b k' 7 = w_T b k 7
theorem y_point (hB : y_B b n k M) (hA : w_A b k) (h2 : w_T b k 2 = 1) (h3 : w_T b k 3 = 99) (h4 : w_T b k 4 = 0) (h5 : w_T b k 5 = 0) : y_O b n k M (E_C 181 [192] M) (y_Pp b n k) := by
  obtain ⟨n1, n2⟩ := y_num hB hA h2
  by_cases d : k < n ∧ 48 ≤ b k ∧ b k ≤ 57
  · obtain ⟨k1, M1, g1, tt1, B1, ⟨z1, z2, z3, z4, z5, z6, z7, z8, z9, z10, z11⟩, -⟩ := n2 d
    obtain ⟨t1, t2⟩ := y_takes (c := 47) B1 (by decide)
    by_cases q : y_s b n k1 = 47
    · obtain ⟨g2, l1, e1, tt2, B2⟩ := t1 q
      obtain ⟨a1, a2, a3, a4, a5, a6, a7, a8⟩ := y_sla z4 z5 l1 e1 (z6.trans h3) (z7.trans h4)
      obtain ⟨m1, m2⟩ := y_num B2 a1 a2
      by_cases d2 : k1 + 1 < n ∧ 48 ≤ b (k1 + 1) ∧ b (k1 + 1) ≤ 57
      · obtain ⟨k2, M2, g3, tt3, B3, ⟨y1, y2, y3, y4, y5, y6, y7, y8, y9, y10, y11⟩, -⟩ := m2 d2
        refine ⟨1, M2, k2, ?_, r_tt_tr tt1 (r_tt_tr tt2 tt3), B3, by omega, y4, Or.inl ⟨rfl, y5, y6.trans (a3.trans (z6.trans h3)), y7.trans a4, y8.trans (a5.trans (z8.trans h5)), y10.trans (a7.trans z10)⟩⟩
        rw [r_ent (show e_rok 181 [192] = true from decide_eq_true r_ref)]
        show e_tv E_C (E_V 181) e_t181_0 [192] M = _
        unfold e_t181_0
        simp [e_tv, e_ev, e_sv, e_b1, e_b2, x_o1, x_o2, g1, g2, g3]
      · have g3 := m1 d2
        refine ⟨0, _, k1 + 1, ?_, r_tt_tr tt1 tt2, B2, by omega, a1, Or.inr ⟨rfl, y_bad1 a1 B2.2.2.1 a2 d2 (fun _ e => by omega)⟩⟩
        rw [r_ent (show e_rok 181 [192] = true from decide_eq_true r_ref)]
        show e_tv E_C (E_V 181) e_t181_0 [192] M = _
        unfold e_t181_0
        simp [e_tv, e_ev, e_sv, e_b1, e_b2, x_o1, x_o2, g1, g2, g3]
    · have g2 := t2 q
      refine ⟨0, M1, k1, ?_, tt1, B1, by omega, z4, Or.inr ⟨rfl, y_bad2 z4 z2 z5 (fun hl e => ?_)⟩⟩
      · rw [r_ent (show e_rok 181 [192] = true from decide_eq_true r_ref)]
        show e_tv E_C (E_V 181) e_t181_0 [192] M = _
        unfold e_t181_0
        simp [e_tv, e_ev, e_sv, e_b1, e_b2, x_o1, x_o2, g1, g2]
      · rw [y_sb hl] at q
        omega
  · have g1 := n1 d
    refine ⟨0, M, k, ?_, r_tt_rf hB.1, hB, Nat.le_refl _, hA, Or.inr ⟨rfl, y_bad1 hA hB.2.2.1 h2 d (fun _ e => by omega)⟩⟩
    rw [r_ent (show e_rok 181 [192] = true from decide_eq_true r_ref)]
    show e_tv E_C (E_V 181) e_t181_0 [192] M = _
    unfold e_t181_0
    simp [e_tv, e_ev, e_sv, e_b1, e_b2, x_o1, x_o2, g1]
def y_Pi (b : Nat → Int) (n k k' : Nat) : Prop := y_rd b n k' ∧ w_T b k' 3 = 114 ∧ w_T b k' 5 = 0 ∧ w_T b k' 7 = w_T b k 7
theorem y_item (hB : y_B b n k M) (hA : w_A b k) (h2 : w_T b k 2 = 1) (h3 : w_T b k 3 = 114) (h5 : w_T b k 5 = 0) : y_O b n k M (E_C 182 [192] M) (y_Pi b n k) := by
  obtain ⟨t1, t2⟩ := y_takes (c := 91) hB (by decide)
  by_cases q : y_s b n k = 91
  · obtain ⟨g1, l1, e1, tt1, B1⟩ := t1 q
    obtain ⟨a1, a2, a3, a4, a5, a6, a7, a8⟩ := y_opn hA h2 e1 h3 h5
    obtain ⟨r, M2, k2, g2, tt2, B2, c1, c2, c3⟩ := y_nums B1 a1 a2 (Or.inr ⟨a3.trans h3, by rw [a5]; decide⟩)
    rcases c3 with ⟨e, p1, p2, p3, p4, p5⟩ | ⟨e, c3⟩
    · subst e
      obtain ⟨s1, s2⟩ := y_takes (c := 93) B2 (by decide)
      by_cases q2 : y_s b n k2 = 93
      · obtain ⟨g3, l3, e3, tt3, B3⟩ := s1 q2
        obtain ⟨u1, u2, u3, u4, u5, u6, u7, u8⟩ := y_cls c2 p1 l3 e3 (by rw [p4, a5]; decide)
        refine ⟨1, _, k2 + 1, ?_, r_tt_tr tt1 (r_tt_tr tt2 tt3), B3, by omega, u1, Or.inl ⟨rfl, ⟨by rw [u2]; decide, by rw [u2]; decide, by rw [u2]; exact fun e => absurd e.1 (by decide)⟩, u3.trans (p3.trans (a3.trans h3)), u5, u7.trans (p5.trans a7)⟩⟩
        rw [r_ent (show e_rok 182 [192] = true from decide_eq_true r_ref)]
        show e_tv E_C (E_V 182) e_t182_0 [192] M = _
        unfold e_t182_0
        simp [e_tv, e_ev, e_sv, e_b1, e_b2, x_o1, x_o2, g1, g2, g3]
      · have g3 := s2 q2
        refine ⟨0, M2, k2, ?_, r_tt_tr tt1 tt2, B2, by omega, c2, Or.inr ⟨rfl, y_bad2 c2 B2.2.2.1 p1 (fun hl e => ?_)⟩⟩
        · rw [r_ent (show e_rok 182 [192] = true from decide_eq_true r_ref)]
          show e_tv E_C (E_V 182) e_t182_0 [192] M = _
          unfold e_t182_0
          simp [e_tv, e_ev, e_sv, e_b1, e_b2, x_o1, x_o2, g1, g2, g3]
        · rw [y_sb hl] at q2 p2
          omega
    · subst e
      refine ⟨0, M2, k2, ?_, r_tt_tr tt1 tt2, B2, by omega, c2, Or.inr ⟨rfl, c3⟩⟩
      rw [r_ent (show e_rok 182 [192] = true from decide_eq_true r_ref)]
      show e_tv E_C (E_V 182) e_t182_0 [192] M = _
      unfold e_t182_0
      simp [e_tv, e_ev, e_sv, e_b1, e_b2, x_o1, x_o2, g1, g2]
  · have g1 := t2 q
    obtain ⟨n1, n2⟩ := y_num hB hA h2
    by_cases d : k < n ∧ 48 ≤ b k ∧ b k ≤ 57
    · obtain ⟨k1, M1, g2, tt1, B1, ⟨z1, z2, z3, z4, z5, z6, z7, z8, z9, z10, z11⟩, -⟩ := n2 d
      refine ⟨1, M1, k1, ?_, tt1, B1, by omega, z4, Or.inl ⟨rfl, z5, z6.trans h3, z8.trans h5, z10⟩⟩
      rw [r_ent (show e_rok 182 [192] = true from decide_eq_true r_ref)]
      show e_tv E_C (E_V 182) e_t182_0 [192] M = _
      unfold e_t182_0
      simp [e_tv, e_ev, e_sv, e_b1, e_b2, x_o1, x_o2, g1, g2]
    · have g2 := n1 d
      refine ⟨0, M, k, ?_, r_tt_rf hB.1, hB, Nat.le_refl _, hA, Or.inr ⟨rfl, y_bad1 hA hB.2.2.1 h2 d (fun hl e => ?_)⟩⟩
      · rw [r_ent (show e_rok 182 [192] = true from decide_eq_true r_ref)]
        show e_tv E_C (E_V 182) e_t182_0 [192] M = _
        unfold e_t182_0
        simp [e_tv, e_ev, e_sv, e_b1, e_b2, x_o1, x_o2, g1, g2]
      · rw [y_sb hl] at q
        exact q e.1
def y_Ps (b : Nat → Int) (n k k' : Nat) : Prop := w_T b k' 2 = 0 ∧ w_T b k' 7 = w_T b k 7 + 1
theorem y_132 {x1 : Int} (hB : y_B b n k M) (hA : w_A b k) (rd : y_rd b n k) (h5 : w_T b k 5 = 0) (h4 : ¬ (w_T b k 3 = 99 ∧ w_T b k 4 = 0)) (h32 : w_T b k 3 = 98 ∨ y_s b n k ≠ 32) : y_O b n k M (E_V 183 132 [192, x1] M) (y_Ps b n k) := by
  obtain ⟨t1, t2⟩ := y_takes (c := 59) hB (by decide)
  by_cases q : y_s b n k = 59
  · obtain ⟨g1, l1, e1, tt1, B1⟩ := t1 q
    obtain ⟨a1, a2, a3, a4, a5, a6, a7, a8⟩ := y_smc hA rd l1 e1 h5 h4
    refine ⟨1, _, k + 1, ?_, tt1, B1, by omega, a1, Or.inl ⟨rfl, a2, a7⟩⟩
    rw [E_V_eq]
    show e_tv E_C (E_V 183) e_t183_132 [192, x1] M = _
    unfold e_t183_132
    simp [e_tv, e_ev, e_sv, e_b1, e_b2, x_o1, x_o2, g1]
  · have g1 := t2 q
    refine ⟨0, M, k, ?_, r_tt_rf hB.1, hB, Nat.le_refl _, hA, Or.inr ⟨rfl, y_bad2 hA hB.2.2.1 rd (fun hl e => ?_)⟩⟩
    · rw [E_V_eq]
      show e_tv E_C (E_V 183) e_t183_132 [192, x1] M = _
      unfold e_t183_132
      simp [e_tv, e_ev, e_sv, e_b1, e_b2, x_o1, x_o2, g1]
    · rw [y_sb hl] at q h32
      omega
theorem y_56 {x1 : Int} : ∀ (m k : Nat) (M : EM), n - k ≤ m → y_B b n k M → w_A b k → y_rd b n k → w_T b k 3 = 99 → w_T b k 4 = 1 → w_T b k 5 = 0 → y_O b n k M (E_V 183 56 [192, x1] M) (y_Ps b n k) := by
  intro m
  induction m with
  | zero =>
    intro k M hm hB hA rd h3 h4 h5
    obtain ⟨t1, t2⟩ := y_takes (c := 32) hB (by decide)
    have hk := hB.2.2.1
    have hn : y_s b n k ≠ 32 := fun e => by have := (y_lt e (by decide)).1; omega
    have k0 := t2 hn
    obtain ⟨r, M', k', k1, c1⟩ := y_132 (x1 := x1) hB hA rd h5 (by omega) (Or.inr hn)
    refine ⟨r, M', k', ?_, c1⟩
    rw [E_V_eq]
    show e_tv E_C (E_V 183) e_t183_56 [192, x1] M = _
    unfold e_t183_56
    simp [e_tv, e_ev, e_sv, e_b1, e_b2, x_o1, x_o2, k0, k1]
  | succ m ih =>
    intro k M hm hB hA rd h3 h4 h5
    obtain ⟨t1, t2⟩ := y_takes (c := 32) hB (by decide)
    by_cases q : y_s b n k = 32
    · obtain ⟨g1, l1, e1, tt1, B1⟩ := t1 q
      obtain ⟨a1, a2, a3, a4, a5, a6, a7, a8⟩ := y_spc hA rd l1 e1 (by omega) (by omega)
      obtain ⟨r, M2, k2, g2, tt2, B2, c1, c2, c3⟩ := y_point B1 a1 a2 (a3.trans h3) a4 (a5.trans h5)
      rcases c3 with ⟨e, p1, p2, p3, p4, p5⟩ | ⟨e, c3⟩
      · subst e
        obtain ⟨r, M3, k3, g3, tt3, B3, d1, d2, d3⟩ := ih k2 M2 (by omega) B2 c2 p1 p2 p3 p4
        refine ⟨r, M3, k3, ?_, r_tt_tr tt1 (r_tt_tr tt2 tt3), B3, by omega, d2, ?_⟩
        · rw [E_V_eq]
          show e_tv E_C (E_V 183) e_t183_56 [192, x1] M = _
          unfold e_t183_56
          simp [e_tv, e_ev, e_sv, e_b1, e_b2, x_o1, x_o2, g1, g2, g3]
        · rcases d3 with ⟨e, d3, d4⟩ | d3
          · exact Or.inl ⟨e, d3, by omega⟩
          · exact Or.inr d3
      · subst e
        refine ⟨0, M2, k2, ?_, r_tt_tr tt1 tt2, B2, by omega, c2, Or.inr ⟨rfl, c3⟩⟩
        rw [E_V_eq]
        show e_tv E_C (E_V 183) e_t183_56 [192, x1] M = _
        unfold e_t183_56
        simp [e_tv, e_ev, e_sv, e_b1, e_b2, x_o1, x_o2, g1, g2]
    · have k0 := t2 q
      obtain ⟨r, M', k', k1, c1⟩ := y_132 (x1 := x1) hB hA rd h5 (by omega) (Or.inr q)
      refine ⟨r, M', k', ?_, c1⟩
      rw [E_V_eq]
      show e_tv E_C (E_V 183) e_t183_56 [192, x1] M = _
      unfold e_t183_56
      simp [e_tv, e_ev, e_sv, e_b1, e_b2, x_o1, x_o2, k0, k1]
theorem y_89 {x1 : Int} : ∀ (m k : Nat) (M : EM), n - k ≤ m → y_B b n k M → w_A b k → y_rd b n k → w_T b k 3 = 114 → w_T b k 5 = 0 → y_O b n k M (E_V 183 89 [192, x1] M) (y_Ps b n k) := by
  intro m
  induction m with
  | zero =>
    intro k M hm hB hA rd h3 h5
    obtain ⟨t1, t2⟩ := y_takes (c := 32) hB (by decide)
    have hk := hB.2.2.1
    have hn : y_s b n k ≠ 32 := fun e => by have := (y_lt e (by decide)).1; omega
    have k0 := t2 hn
    obtain ⟨r, M', k', k1, c1⟩ := y_132 (x1 := x1) hB hA rd h5 (by omega) (Or.inr hn)
    refine ⟨r, M', k', ?_, c1⟩
    rw [E_V_eq]
    show e_tv E_C (E_V 183) e_t183_89 [192, x1] M = _
    unfold e_t183_89
    simp [e_tv, e_ev, e_sv, e_b1, e_b2, x_o1, x_o2, k0, k1]
  | succ m ih =>
    intro k M hm hB hA rd h3 h5
    obtain ⟨t1, t2⟩ := y_takes (c := 32) hB (by decide)
    by_cases q : y_s b n k = 32
    · obtain ⟨g1, l1, e1, tt1, B1⟩ := t1 q
      obtain ⟨a1, a2, a3, a4, a5, a6, a7, a8⟩ := y_spc hA rd l1 e1 (by omega) (by omega)
      obtain ⟨r, M2, k2, g2, tt2, B2, c1, c2, c3⟩ := y_item B1 a1 a2 (a3.trans h3) (a5.trans h5)
      rcases c3 with ⟨e, p1, p2, p3, p4⟩ | ⟨e, c3⟩
      · subst e
        obtain ⟨r, M3, k3, g3, tt3, B3, d1, d2, d3⟩ := ih k2 M2 (by omega) B2 c2 p1 p2 p3
        refine ⟨r, M3, k3, ?_, r_tt_tr tt1 (r_tt_tr tt2 tt3), B3, by omega, d2, ?_⟩
        · rw [E_V_eq]
          show e_tv E_C (E_V 183) e_t183_89 [192, x1] M = _
          unfold e_t183_89
          simp [e_tv, e_ev, e_sv, e_b1, e_b2, x_o1, x_o2, g1, g2, g3]
        · rcases d3 with ⟨e, d3, d4⟩ | d3
          · exact Or.inl ⟨e, d3, by omega⟩
          · exact Or.inr d3
      · subst e
        refine ⟨0, M2, k2, ?_, r_tt_tr tt1 tt2, B2, by omega, c2, Or.inr ⟨rfl, c3⟩⟩
        rw [E_V_eq]
        show e_tv E_C (E_V 183) e_t183_89 [192, x1] M = _
        unfold e_t183_89
        simp [e_tv, e_ev, e_sv, e_b1, e_b2, x_o1, x_o2, g1, g2]
    · have k0 := t2 q
      obtain ⟨r, M', k', k1, c1⟩ := y_132 (x1 := x1) hB hA rd h5 (by omega) (Or.inr q)
      refine ⟨r, M', k', ?_, c1⟩
      rw [E_V_eq]
      show e_tv E_C (E_V 183) e_t183_89 [192, x1] M = _
      unfold e_t183_89
      simp [e_tv, e_ev, e_sv, e_b1, e_b2, x_o1, x_o2, k0, k1]
end YL
end
section
/-! the reference's first way through a TEXT: exactly -/
section YM
variable {b : Nat → Int} {n k : Nat} {M : EM}
theorem y_stmt (hB : y_B b n k M) (hA : w_A b k) (h2 : w_T b k 2 = 0) (h0 : k = n → ¬ 0 < w_T b n 7) : ∃ r M' k', E_C 183 [192] M = some (r, M') ∧ r_tt M M' ∧ y_B b n k' M' ∧ k ≤ k' ∧ w_A b k' ∧ ((r = 1 ∧ k < k' ∧ y_Ps b n k k') ∨ (r = 0 ∧ w_F b n k')) := by
  have ks := r_sign (y_ty hB)
  rw [y_sg hB] at ks
  have hkn := hB.2.2.1
  have h15 := hB.2.1
  have hn120 := hB.2.2.2.2.1
  by_cases q : k < n ∧ (b k = 99 ∨ b k = 114 ∨ b k = 102 ∨ b k = 98)
  · obtain ⟨q0, q1⟩ := q
    rw [y_sb q0] at ks
    obtain ⟨o1, o2⟩ := y_on hB q0
    obtain ⟨a1, a2, a3, a4, a5, a6, a7, a8⟩ := y_bgn hA h2 q1
    have w1 : e_w ((k : Int) + 1) = (k : Int) + 1 := by
      clear ks o1 o2
      exact a_w_id (by omega) (by omega)
    by_cases c1 : b k = 99
    · rw [c1] at ks a3
      obtain ⟨r, M2, k2, g2, tt2, B2, c1', c2, c3⟩ := y_point o2 a1 a2 a3 a4 a5
      rcases c3 with ⟨e, p1, p2, p3, p4, p5⟩ | ⟨e, c3⟩
      · subst e
        obtain ⟨r, M3, k3, g3, tt3, B3, d1, d2, d3⟩ := y_56 (x1 := 99) _ k2 M2 (Nat.le_refl _) B2 c2 p1 p2 p3 p4
        refine ⟨r, M3, k3, ?_, r_tt_tr o1 (r_tt_tr tt2 tt3), B3, by clear ks w1; omega, d2, ?_⟩
        · rw [r_ent (show e_rok 183 [192] = true from decide_eq_true r_ref)]
          show e_tv E_C (E_V 183) e_t183_0 [192, 0] M = _
          unfold e_t183_0
          simp [e_tv, e_ev, e_sv, e_b1, e_b2, x_o1, x_o2, r_F15, r_P15, ks, h15, w1, g2, g3]
        · rcases d3 with ⟨e, d3, d4⟩ | ⟨e, d3⟩
          · exact Or.inl ⟨e, by clear ks w1; omega, d3, by clear ks w1; omega⟩
          · exact Or.inr ⟨e, y_F d3⟩
      · subst e
        refine ⟨0, M2, k2, ?_, r_tt_tr o1 tt2, B2, by clear ks w1; omega, c2, Or.inr ⟨rfl, y_F c3⟩⟩
        rw [r_ent (show e_rok 183 [192] = true from decide_eq_true r_ref)]
        show e_tv E_C (E_V 183) e_t183_0 [192, 0] M = _
        unfold e_t183_0
        simp [e_tv, e_ev, e_sv, e_b1, e_b2, x_o1, x_o2, r_F15, r_P15, ks, h15, w1, g2]
    by_cases c2 : b k = 114
    · rw [c2] at ks a3
      obtain ⟨r, M2, k2, g2, tt2, B2, c1', c2, c3⟩ := y_item o2 a1 a2 a3 a5
      rcases c3 with ⟨e, p1, p2, p3, p4⟩ | ⟨e, c3⟩
      · subst e
        obtain ⟨r, M3, k3, g3, tt3, B3, d1, d2, d3⟩ := y_89 (x1 := 114) _ k2 M2 (Nat.le_refl _) B2 c2 p1 p2 p3
        refine ⟨r, M3, k3, ?_, r_tt_tr o1 (r_tt_tr tt2 tt3), B3, by clear ks w1; omega, d2, ?_⟩
        · rw [r_ent (show e_rok 183 [192] = true from decide_eq_true r_ref)]
          show e_tv E_C (E_V 183) e_t183_0 [192, 0] M = _
          unfold e_t183_0
          simp [e_tv, e_ev, e_sv, e_b1, e_b2, x_o1, x_o2, r_F15, r_P15, ks, h15, w1, g2, g3]
        · rcases d3 with ⟨e, d3, d4⟩ | ⟨e, d3⟩
          · exact Or.inl ⟨e, by clear ks w1; omega, d3, by clear ks w1; omega⟩
          · exact Or.inr ⟨e, y_F d3⟩
      · subst e
        refine ⟨0, M2, k2, ?_, r_tt_tr o1 tt2, B2, by clear ks w1; omega, c2, Or.inr ⟨rfl, y_F c3⟩⟩
        rw [r_ent (show e_rok 183 [192] = true from decide_eq_true r_ref)]
        show e_tv E_C (E_V 183) e_t183_0 [192, 0] M = _
        unfold e_t183_0
        simp [e_tv, e_ev, e_sv, e_b1, e_b2, x_o1, x_o2, r_F15, r_P15, ks, h15, w1, g2]
    have s130 : ∀ x M, E_V 183 130 [192, x] M = some (0, M) := by
      intro x M
      rw [E_V_eq]
      show e_tv E_C (E_V 183) e_t183_130 [192, x] M = _
      unfold e_t183_130
      simp [e_tv, e_ev, e_sv, e_b1, e_b2, x_o1, x_o2]
    by_cases c3 : b k = 102
    · rw [c3] at ks a3
      obtain ⟨r, M2, k2, g2, tt2, B2, c1', c2, c3⟩ := y_nums o2 a1 a2 (Or.inl a3)
      rcases c3 with ⟨e, p1, p2, p3, p4, p5⟩ | ⟨e, c3⟩
      · subst e
        obtain ⟨r, M3, k3, g3, tt3, B3, d1, d2, d3⟩ := y_132 (x1 := 102) B2 c2 p1 (p4.trans a5) (fun e => by rw [p3, a3] at e; exact absurd e.1 (by decide)) (Or.inr p2)
        refine ⟨r, M3, k3, ?_, r_tt_tr o1 (r_tt_tr tt2 tt3), B3, by clear ks w1; omega, d2, ?_⟩
        · rw [r_ent (show e_rok 183 [192] = true from decide_eq_true r_ref)]
          show e_tv E_C (E_V 183) e_t183_0 [192, 0] M = _
          unfold e_t183_0
          simp [e_tv, e_ev, e_sv, e_b1, e_b2, x_o1, x_o2, r_F15, r_P15, ks, h15, w1, g2, g3]
        · rcases d3 with ⟨e, d3, d4⟩ | ⟨e, d3⟩
          · exact Or.inl ⟨e, by clear ks w1; omega, d3, by clear ks w1; omega⟩
          · exact Or.inr ⟨e, y_F d3⟩
      · subst e
        refine ⟨0, M2, k2, ?_, r_tt_tr o1 tt2, B2, by clear ks w1; omega, c2, Or.inr ⟨rfl, y_F c3⟩⟩
        rw [r_ent (show e_rok 183 [192] = true from decide_eq_true r_ref)]
        show e_tv E_C (E_V 183) e_t183_0 [192, 0] M = _
        unfold e_t183_0
        simp [e_tv, e_ev, e_sv, e_b1, e_b2, x_o1, x_o2, r_F15, r_P15, ks, h15, w1, g2, s130]
    · have c4 : b k = 98 := by
        clear ks w1
        omega
      rw [c4] at ks a3
      obtain ⟨n1, n2⟩ := y_num o2 a1 a2
      by_cases d : k + 1 < n ∧ 48 ≤ b (k + 1) ∧ b (k + 1) ≤ 57
      · obtain ⟨k2, M2, g2, tt2, B2, ⟨z1, z2, z3, z4, z5, z6, z7, z8, z9, z10, z11⟩, -⟩ := n2 d
        obtain ⟨r, M3, k3, g3, tt3, B3, d1, d2, d3⟩ := y_132 (x1 := 98) B2 z4 z5 (z8.trans a5) (fun e => by rw [z6, a3] at e; exact absurd e.1 (by decide)) (Or.inl (z6.trans a3))
        refine ⟨r, M3, k3, ?_, r_tt_tr o1 (r_tt_tr tt2 tt3), B3, by clear ks w1; omega, d2, ?_⟩
        · rw [r_ent (show e_rok 183 [192] = true from decide_eq_true r_ref)]
          show e_tv E_C (E_V 183) e_t183_0 [192, 0] M = _
          unfold e_t183_0
          simp [e_tv, e_ev, e_sv, e_b1, e_b2, x_o1, x_o2, r_F15, r_P15, ks, h15, w1, g2, g3]
        · rcases d3 with ⟨e, d3, d4⟩ | ⟨e, d3⟩
          · exact Or.inl ⟨e, by clear ks w1; omega, d3, by clear ks w1; omega⟩
          · exact Or.inr ⟨e, y_F d3⟩
      · have g2 := n1 d
        refine ⟨0, _, k + 1, ?_, o1, o2, by clear ks w1; omega, a1, Or.inr ⟨rfl, y_F (y_bad1 a1 o2.2.2.1 a2 d (fun _ e => by rw [a3] at e; exact absurd e.2.1 (by decide)))⟩⟩
        rw [r_ent (show e_rok 183 [192] = true from decide_eq_true r_ref)]
        show e_tv E_C (E_V 183) e_t183_0 [192, 0] M = _
        unfold e_t183_0
        simp [e_tv, e_ev, e_sv, e_b1, e_b2, x_o1, x_o2, r_F15, r_P15, ks, h15, w1, g2, s130]
  · refine ⟨0, M, k, ?_, r_tt_rf hB.1, hB, Nat.le_refl _, hA, Or.inr ⟨rfl, hA, hkn, fun hl ok => ?_, fun e z => h0 e z.2⟩⟩
    · have c1 : y_s b n k ≠ 99 := fun e => q ⟨(y_lt e (by decide)).1, Or.inl (y_lt e (by decide)).2⟩
      have c2 : y_s b n k ≠ 114 := fun e => q ⟨(y_lt e (by decide)).1, Or.inr (Or.inl (y_lt e (by decide)).2)⟩
      have c3 : y_s b n k ≠ 102 := fun e => q ⟨(y_lt e (by decide)).1, Or.inr (Or.inr (Or.inl (y_lt e (by decide)).2))⟩
      have c4 : y_s b n k ≠ 98 := fun e => q ⟨(y_lt e (by decide)).1, Or.inr (Or.inr (Or.inr (y_lt e (by decide)).2))⟩
      rw [r_ent (show e_rok 183 [192] = true from decide_eq_true r_ref)]
      show e_tv E_C (E_V 183) e_t183_0 [192, 0] M = _
      unfold e_t183_0
      simp [e_tv, e_ev, e_sv, e_b1, e_b2, x_o1, x_o2, ks, c1, c2, c3, c4]
    · unfold w_ok at ok
      rw [if_pos h2] at ok
      exact q ⟨hl, ok⟩
/-- STATEMENTS one by one, to the end -/
theorem y_36 {d x3 x4 : Int} : ∀ (m k : Nat) (M : EM), n - k ≤ m → y_B b n k M → w_A b k → w_T b k 2 = 0 → (k = n → ¬ 0 < w_T b n 7) → ∃ M', r_tt M M' ∧ ((∃ k', w_F b n k' ∧ E_V 190 36 [192, d, 0, x3, x4] M = some (-1000 - (k' : Int), M')) ∨ (w_A b n ∧ w_T b n 2 = 0 ∧ 0 < w_T b n 7 ∧ y_B b n n M' ∧ E_V 190 36 [192, d, 0, x3, x4] M = E_V 190 65 [192, d, 0, 0, x4] M')) := by
  intro m
  induction m with
  | zero =>
    intro k M hm hB hA h2 h0
    obtain ⟨r, M1, k1, g1, t1, B1, c1, c2, c3⟩ := y_stmt hB hA h2 h0
    rcases c3 with ⟨e, c3, -⟩ | ⟨e, c3⟩
    · have := B1.2.2.1
      omega
    · subst e
      refine ⟨M1, t1, Or.inl ⟨k1, c3, ?_⟩⟩
      have h15 := B1.2.1
      have w1 : e_w (-1000 - (k1 : Int)) = -1000 - (k1 : Int) := by
        have := B1.2.2.1
        have := B1.2.2.2.2.1
        exact a_w_id (by omega) (by omega)
      rw [E_V_eq]
      show e_tv E_C (E_V 190) e_t190_36 [192, d, 0, x3, x4] M = _
      unfold e_t190_36
      simp [e_tv, e_ev, e_sv, e_b1, e_b2, x_o1, x_o2, r_F15, g1, h15, w1]
  | succ m ih =>
    intro k M hm hB hA h2 h0
    obtain ⟨r, M1, k1, g1, t1, B1, c1, c2, c3⟩ := y_stmt hB hA h2 h0
    have h15 := B1.2.1
    have h17 := B1.2.2.2.1
    have hk1 := B1.2.2.1
    rcases c3 with ⟨e, c3, c4, c5⟩ | ⟨e, c3⟩
    · subst e
      have p7 : 0 < w_T b k1 7 := by
        have := w_Ii hA
        unfold w_I at this
        omega
      by_cases q : k1 = n
      · subst q
        refine ⟨M1, t1, Or.inr ⟨c2, c4, p7, B1, ?_⟩⟩
        rw [E_V_eq]
        show e_tv E_C (E_V 190) e_t190_36 [192, d, 0, x3, x4] M = _
        unfold e_t190_36
        simp [e_tv, e_ev, e_sv, e_b1, e_b2, x_o1, x_o2, r_F15, r_F17, g1, h15, h17]
      · obtain ⟨M', t2, h⟩ := ih k1 M1 (by omega) B1 c2 c4 (fun e => absurd e q)
        have q1 : ¬ (n ≤ k1) := by omega
        have e1 : E_V 190 36 [192, d, 0, x3, x4] M = E_V 190 36 [192, d, 0, x3, x4] M1 := by
          rw [E_V_eq]
          show e_tv E_C (E_V 190) e_t190_36 [192, d, 0, x3, x4] M = _
          unfold e_t190_36
          simp [e_tv, e_ev, e_sv, e_b1, e_b2, x_o1, x_o2, r_F15, r_F17, g1, h15, h17, q1]
        refine ⟨M', r_tt_tr t1 t2, ?_⟩
        rw [e1]
        exact h
    · subst e
      refine ⟨M1, t1, Or.inl ⟨k1, c3, ?_⟩⟩
      have w1 : e_w (-1000 - (k1 : Int)) = -1000 - (k1 : Int) := by
        have := B1.2.2.2.2.1
        exact a_w_id (by omega) (by omega)
      rw [E_V_eq]
      show e_tv E_C (E_V 190) e_t190_36 [192, d, 0, x3, x4] M = _
      unfold e_t190_36
      simp [e_tv, e_ev, e_sv, e_b1, e_b2, x_o1, x_o2, r_F15, g1, h15, w1]
end YM
end
