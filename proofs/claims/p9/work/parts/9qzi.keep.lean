/-! members and CURVES: what keeps them; set, dead, lies; image and restore -/
theorem hd_D_tr {M M' : EM} {dc dc' : Nat} {g g' : Int → Int} (hD : hd_D M dc g) (h40 : g 1198 ≤ 40) (eg : ∀ i : Int, 0 ≤ i → i < 1120 ∨ i = 1198 → g' i = g i) (c1 : ∀ j, j < 40 → M' (12 + dc') j = M (12 + dc) j ∧ M' (14 + dc') j = M (14 + dc) j) (c2 : ∀ j, j < 320 → M' (15 + dc') j = M (15 + dc) j ∧ M' (16 + dc') j = M (16 + dc) j ∧ M' (17 + dc') j = M (17 + dc) j) (c3 : ∀ j, j < 240 → M' (19 + dc') j = M (19 + dc) j ∧ M' (20 + dc') j = M (20 + dc) j) (c4 : ∀ q, q < 40 → ∀ k, k < 5 → M' (37 + dc' + q) k = M (37 + dc + q) k) : hd_D M' dc' g' := by
  intro q hq
  rw [eg 1198 (by decide) (Or.inr rfl)] at hq
  have q40 : q < 40 := by omega
  exact hd_q_cg (hD q hq) ⟨eg _ (by omega) (Or.inl (by omega)), eg _ (by omega) (Or.inl (by omega)), fun d d0 d1 _ _ => eg _ (by omega) (Or.inl (by omega))⟩ (fun m m0 m1 => ⟨eg _ (by omega) (Or.inl (by omega)), fun _ => eg _ (by omega) (Or.inl (by omega))⟩) ⟨(c1 q q40).1, (c1 q q40).2, fun k hk => c2 _ (by omega), fun i hi => c3 _ (by omega), fun k hk => c4 q q40 k hk⟩
def hd_KD (dc s : Nat) : AW := [(12 + dc, 0, 39), (14 + dc, 0, 39), (15 + dc, 0, 319), (16 + dc, 0, 319), (17 + dc, 0, 319), (19 + dc, 0, 239), (20 + dc, 0, 239), (s, 0, 1119), (s, 1198, 1198)] ++ (List.range 40).map (fun q => (37 + dc + q, 0, 4))
theorem hd_keep {dc s : Nat} {M M' : EM} (h : ∀ c ∈ hd_KD dc s, ∀ k, c.2.1 ≤ k → k ≤ c.2.2 → M' c.1 k = M c.1 k) (h40 : M s 1198 ≤ 40) (hD : hd_D M dc (fun i => M s i.toNat)) : hd_D M' dc (fun i => M' s i.toNat) := by
  have m0 : ∀ c, c ∈ [(12 + dc, 0, 39), (14 + dc, 0, 39), (15 + dc, 0, 319), (16 + dc, 0, 319), (17 + dc, 0, 319), (19 + dc, 0, 239), (20 + dc, 0, 239), (s, 0, 1119), (s, 1198, 1198)] → c ∈ hd_KD dc s := fun c hc => List.mem_append.mpr (Or.inl hc)
  refine hd_D_tr hD h40 (fun i i0 i1 => ?_) (fun j hj => ⟨?_, ?_⟩) (fun j hj => ⟨?_, ?_, ?_⟩) (fun j hj => ⟨?_, ?_⟩) (fun q hq k hk => ?_)
  · rcases i1 with i1 | i1
    · exact h (s, 0, 1119) (m0 _ (by simp)) i.toNat (Nat.zero_le _) (by show i.toNat ≤ 1119; omega)
    · subst i1
      exact h (s, 1198, 1198) (m0 _ (by simp)) 1198 (Nat.le_refl _) (Nat.le_refl _)
  · exact h (12 + dc, 0, 39) (m0 _ (by simp)) j (Nat.zero_le _) (by show j ≤ 39; omega)
  · exact h (14 + dc, 0, 39) (m0 _ (by simp)) j (Nat.zero_le _) (by show j ≤ 39; omega)
  · exact h (15 + dc, 0, 319) (m0 _ (by simp)) j (Nat.zero_le _) (by show j ≤ 319; omega)
  · exact h (16 + dc, 0, 319) (m0 _ (by simp)) j (Nat.zero_le _) (by show j ≤ 319; omega)
  · exact h (17 + dc, 0, 319) (m0 _ (by simp)) j (Nat.zero_le _) (by show j ≤ 319; omega)
  · exact h (19 + dc, 0, 239) (m0 _ (by simp)) j (Nat.zero_le _) (by show j ≤ 239; omega)
  · exact h (20 + dc, 0, 239) (m0 _ (by simp)) j (Nat.zero_le _) (by show j ≤ 239; omega)
  · exact h (37 + dc + q, 0, 4) (List.mem_append.mpr (Or.inr (List.mem_map.mpr ⟨q, List.mem_range.mpr hq, rfl⟩))) k (Nat.zero_le _) (by show k ≤ 4; omega)
theorem hd_ke {W : AW} {M M' : EM} (h : h_av (hd_KD 0 193) W = true) (hf : a_fr W M M') (hB : h_B M 0 (r_G M)) (hD : hd_D M 0 (r_G M)) : hd_D M' 0 (r_G M') := hd_keep (dc := 0) (s := 193) (h_av_ok h hf) hB.2.1.2 hD
theorem hd_keI {W : AW} {M M' : EM} (h : h_av (hd_KD 68 194) W = true) (hf : a_fr W M M') (hB : h_B M 68 (r_Gi M)) (hD : hd_D M 68 (r_Gi M)) : hd_D M' 68 (r_Gi M') := hd_keep (dc := 68) (s := 194) (h_av_ok h hf) hB.2.1.2 hD
/-- a CELL's settings alone have changed -/
theorem hd_cell1 {M M' : EM} {q : Nat} (hD : hd_D M 0 (r_G M)) (k0 : r_G M (28 * (q : Int)) = 0) (hg : ∀ x : Int, 0 ≤ x → (x < 28 * (q : Int) + 15 ∨ 28 * (q : Int) + 28 ≤ x) → r_G M' x = r_G M x) (hc : ∀ id k, id < 192 → M' id k = M id k) (hq40 : q < 40) (h40 : r_G M 1198 ≤ 40) : hd_D M' 0 (r_G M') := by
  intro t ht
  rw [hg 1198 (by decide) (by omega)] at ht
  refine hd_q_cg (hD t ht) ⟨hg _ (by omega) (by omega), hg _ (by omega) (by omega), fun d d0 d1 d2 _ => hg _ (by omega) ?_⟩ (fun m m0 m1 => ⟨hg _ (by omega) (by omega), fun _ => hg _ (by omega) (by omega)⟩) ⟨hc _ _ (by decide), hc _ _ (by decide), fun k _ => ⟨hc _ _ (by decide), hc _ _ (by decide), hc _ _ (by decide)⟩, fun i _ => ⟨hc _ _ (by decide), hc _ _ (by decide)⟩, fun k _ => hc _ _ (by omega)⟩
  by_cases e : t = q
  · subst e
    have := d2 k0
    omega
  · omega
section HDK
variable {M1 M2 : EM} {r2 : Int}
theorem hd_setD {p w v : Int} (J1 : r_J M1) (hD : hd_D M1 0 (r_G M1)) (k2 : E_C 196 [192, p, w, v] M1 = some (r2, M2)) : hd_D M2 0 (r_G M2) := by
  have hW1 := (r_J_E J1).2.1
  by_cases cg : 0 ≤ p ∧ p < r_G M1 1198
  · have ip := r_ip1 hW1 cg
    by_cases hL : h_Sq w v
    · have h40 := r_40 hW1 cg
      obtain ⟨q, hq⟩ : ∃ q : Nat, p = q := ⟨p.toNat, by omega⟩
      subst hq
      have kk : E_C 170 [192, (q : Int)] M1 = some (r_G M1 (28 * (q : Int)), M1) := r_kind h40
      by_cases k0 : r_G M1 (28 * (q : Int)) = 0
      · rw [k0] at kk
        obtain ⟨f1, f2⟩ := Prod.mk.inj (Option.some.inj (k2.symm.trans (h_196c h40 ip kk hL)))
        obtain ⟨⟨s1, s2⟩, -⟩ := hL
        rw [f2]
        refine hd_cell1 (q := q) hD k0 (fun x x0 hx => ?_) (fun id k h => c_up_n (by omega)) (by omega) hW1.2.1
        show e_up M1 193 _ v 193 x.toNat = _
        rw [c_up_n (by omega)]
        rfl
      · obtain ⟨f1, f2⟩ := Prod.mk.inj (Option.some.inj (k2.symm.trans (h_196b ip kk k0 hL)))
        rw [f2]
        exact hD
    · obtain ⟨f1, f2⟩ := Prod.mk.inj (Option.some.inj (k2.symm.trans (h_196a ip (Or.inr hL))))
      rw [f2]
      exact hD
  · obtain ⟨f1, f2⟩ := Prod.mk.inj (Option.some.inj (k2.symm.trans (h_196a (r_ip0 hW1 cg) (Or.inl rfl))))
    rw [f2]
    exact hD
theorem hd_deadD {p v : Int} (J1 : r_J M1) (hD : hd_D M1 0 (r_G M1)) (hz : ∀ q : Nat, (q : Int) < r_G M1 1198 → r_G M1 (28 * (q : Int)) = 0 → r_G M1 (28 * (q : Int) + 19) = 0 ∨ r_G M1 (28 * (q : Int) + 19) = 1) (hv : v = 0 ∨ v = 1) (k2 : E_C 197 [192, p, v] M1 = some (r2, M2)) : hd_D M2 0 (r_G M2) := by
  have hW1 := (r_J_E J1).2.1
  by_cases cg : 0 ≤ p ∧ p < r_G M1 1198
  · have ip := r_ip1 hW1 cg
    have h40 := r_40 hW1 cg
    obtain ⟨q, hq⟩ : ∃ q : Nat, p = q := ⟨p.toNat, by omega⟩
    subst hq
    have kk : E_C 170 [192, (q : Int)] M1 = some (r_G M1 (28 * (q : Int)), M1) := r_kind h40
    by_cases k0 : r_G M1 (28 * (q : Int)) = 0
    · rw [k0] at kk
      obtain ⟨f1, f2⟩ := Prod.mk.inj (Option.some.inj (k2.symm.trans (h_197c h40 ip kk rfl (hz q cg.2 k0) hv)))
      rw [f2]
      refine hd_cell1 (q := q) hD k0 (fun x x0 hx => ?_) (fun id k h => c_up_n (by omega)) (by omega) hW1.2.1
      show e_up M1 193 _ v 193 x.toNat = _
      rw [c_up_n (by omega)]
      rfl
    · obtain ⟨f1, f2⟩ := Prod.mk.inj (Option.some.inj (k2.symm.trans (h_197b ip kk k0)))
      rw [f2]
      exact hD
  · obtain ⟨f1, f2⟩ := Prod.mk.inj (Option.some.inj (k2.symm.trans (h_197a (r_ip0 hW1 cg))))
    rw [f2]
    exact hD
theorem hd_liesD {p f t : Int} (J1 : r_J M1) (hD : hd_D M1 0 (r_G M1)) (hf : f ≤ 2147483647) (ht : t ≤ 2147483647) (k2 : E_C 219 [192, p, f, t] M1 = some (r2, M2)) : hd_D M2 0 (r_G M2) := by
  have hW1 := (r_J_E J1).2.1
  by_cases cg : 0 ≤ p ∧ p < r_G M1 1198
  · have ip := r_ip1 hW1 cg
    by_cases hL : h_Lq f t
    · have h40 := r_40 hW1 cg
      obtain ⟨q, hq⟩ : ∃ q : Nat, p = q := ⟨p.toNat, by omega⟩
      subst hq
      have kk : E_C 170 [192, (q : Int)] M1 = some (r_G M1 (28 * (q : Int)), M1) := r_kind h40
      by_cases k0 : r_G M1 (28 * (q : Int)) = 0
      · rw [k0] at kk
        obtain ⟨f1, f2⟩ := Prod.mk.inj (Option.some.inj (k2.symm.trans (h_219c h40 ip kk hf ht hL)))
        rw [f2]
        refine hd_cell1 (q := q) hD k0 (fun x x0 hx => ?_) (fun id k h => ?_) (by omega) hW1.2.1
        · show r_lay5 M1 (q : Int) _ _ _ _ 193 x.toNat = _
          unfold r_lay5
          rw [c_up_n (by omega), c_up_n (by omega), c_up_n (by omega), c_up_n (by omega), c_up_n (by omega)]
          rfl
        · unfold r_lay5
          rw [c_up_n (by omega), c_up_n (by omega), c_up_n (by omega), c_up_n (by omega), c_up_n (by omega)]
      · obtain ⟨f1, f2⟩ := Prod.mk.inj (Option.some.inj (k2.symm.trans (h_219b ip kk k0 hf ht hL)))
        rw [f2]
        exact hD
    · obtain ⟨f1, f2⟩ := Prod.mk.inj (Option.some.inj (k2.symm.trans (h_219a ip hf ht (Or.inr hL))))
      rw [f2]
      exact hD
  · obtain ⟨f1, f2⟩ := Prod.mk.inj (Option.some.inj (k2.symm.trans (h_219a (r_ip0 hW1 cg) hf ht (Or.inl rfl))))
    rw [f2]
    exact hD
end HDK
theorem hd_cov : (∃ w ∈ p_D48, w.1 = 12 ∧ w.2.1 = 0 ∧ 39 ≤ w.2.2) ∧ (∃ w ∈ p_D48, w.1 = 14 ∧ w.2.1 = 0 ∧ 39 ≤ w.2.2) ∧ (∃ w ∈ p_D48, w.1 = 15 ∧ w.2.1 = 0 ∧ 319 ≤ w.2.2) ∧ (∃ w ∈ p_D48, w.1 = 16 ∧ w.2.1 = 0 ∧ 319 ≤ w.2.2) ∧ (∃ w ∈ p_D48, w.1 = 17 ∧ w.2.1 = 0 ∧ 319 ≤ w.2.2) ∧ (∃ w ∈ p_D48, w.1 = 19 ∧ w.2.1 = 0 ∧ 239 ≤ w.2.2) ∧ (∃ w ∈ p_D48, w.1 = 20 ∧ w.2.1 = 0 ∧ 239 ≤ w.2.2) ∧ ∀ (q : Fin 40) (k : Fin 5), ∃ w ∈ p_D48, w.1 = 37 + q.val ∧ w.2.1 ≤ k.val ∧ k.val ≤ w.2.2 := by decide +kernel
theorem hd_cpD {M M' N : EM} {so to : Nat} {g g' : Int → Int} (c : p_C so to p_D48 M N) (hD : hd_D M so g) (h40 : g 1198 ≤ 40) (eg : ∀ i : Int, 0 ≤ i → i < 1120 ∨ i = 1198 → g' i = g i) (near : ∀ id j, id < 192 → id ≠ 8 → M' id j = N id j) (hto : to ≤ 68) : hd_D M' to g' := by
  obtain ⟨q1, q2, q3, q4, q5, q6, q7, q8⟩ := hd_cov
  refine hd_D_tr hD h40 eg (fun j hj => ⟨(near _ _ (by omega) (by omega)).trans (h_cpx c q1 (by omega)), (near _ _ (by omega) (by omega)).trans (h_cpx c q2 (by omega))⟩) (fun j hj => ⟨(near _ _ (by omega) (by omega)).trans (h_cpx c q3 (by omega)), (near _ _ (by omega) (by omega)).trans (h_cpx c q4 (by omega)), (near _ _ (by omega) (by omega)).trans (h_cpx c q5 (by omega))⟩) (fun j hj => ⟨(near _ _ (by omega) (by omega)).trans (h_cpx c q6 (by omega)), (near _ _ (by omega) (by omega)).trans (h_cpx c q7 (by omega))⟩) (fun q hq k hk => ?_)
  have e := h_cp1 c (q8 ⟨q, hq⟩ ⟨k, hk⟩)
  dsimp only at e
  rw [show 37 + q + to = 37 + to + q by omega, show 37 + q + so = 37 + so + q by omega] at e
  exact (near _ _ (by omega) (by omega)).trans e
theorem hd_image {r1 r2 : Int} {M M1 M2 : EM} (h40 : r_G M 1198 ≤ 40) (hD : hd_D M 0 (r_G M)) (k1 : E_C 136 [8] M = some (r1, M1)) (k2 : E_C 255 [192] M1 = some (r2, M2)) : hd_D M2 0 (r_G M2) ∧ hd_D M2 68 (r_Gi M2) := by
  obtain ⟨N, c1, c2⟩ := p_image M
  obtain ⟨e1, e2⟩ := Prod.mk.inj (Option.some.inj (k1.symm.trans c1))
  subst e2
  obtain ⟨e3, e4⟩ := Prod.mk.inj (Option.some.inj (k2.symm.trans (r_image _)))
  have far : ∀ id j, id < 78 ∨ 145 < id → N id j = M id j := fun id j h => c2.2.1 _ _ (fun w hw e => by have := c2.2.2 w hw; omega)
  have z : ∀ id j, id ≠ 8 → id ≠ 192 → id ≠ 194 → M2 id j = N id j := fun id j a b c => by
    rw [e4, c_up_n (fun e => b e.1), r_cp_n c, c_up_n (fun e => a e.1)]
  have zi : ∀ j, j < 1330 → M2 194 j = M 193 j := fun j hj => by
    rw [e4, c_up_n (fun e => by omega), r_cp_t hj, c_up_n (fun e => by omega)]
    exact far _ _ (by omega)
  have eG : r_G M2 = r_G M := funext fun i => (z _ _ (by decide) (by decide) (by decide)).trans (far _ _ (by omega))
  have nr : ∀ id j, 9 ≤ id → id < 78 → M2 id j = M id j := fun id j a b => (z _ _ (by omega) (by omega) (by omega)).trans (far _ _ (by omega))
  refine ⟨?_, hd_cpD (to := 68) c2 hD h40 (fun i i0 i1 => zi i.toNat (by omega)) (fun id j a b => z _ _ b (by omega) (by omega)) (by decide)⟩
  rw [eG]
  exact hd_D_tr hD h40 (fun _ _ _ => rfl) (fun j _ => ⟨nr _ _ (by decide) (by decide), nr _ _ (by decide) (by decide)⟩) (fun j _ => ⟨nr _ _ (by decide) (by decide), nr _ _ (by decide) (by decide), nr _ _ (by decide) (by decide)⟩) (fun j _ => ⟨nr _ _ (by decide) (by decide), nr _ _ (by decide) (by decide)⟩) (fun q hq k _ => nr _ _ (by omega) (by omega))
theorem hd_restore {r1 r2 : Int} {M M1 M2 : EM} (hfl : M 8 2 = M 192 9) (hB : r_G M 1198 ≤ 40) (hI : r_Gi M 1198 ≤ 40) (hD : hd_D M 0 (r_G M)) (hDI : hd_D M 68 (r_Gi M)) (k1 : E_C 137 [8] M = some (r1, M1)) (k2 : E_C 256 [192] M1 = some (r2, M2)) : hd_D M2 0 (r_G M2) ∧ hd_D M2 68 (r_Gi M2) := by
  by_cases z : M 8 2 = 0
  · obtain ⟨e1, e2⟩ := Prod.mk.inj (Option.some.inj (k1.symm.trans (p_restore0 z)))
    subst e2
    rw [r_restore, if_pos (hfl ▸ z)] at k2
    obtain ⟨e3, e4⟩ := Prod.mk.inj (Option.some.inj k2)
    rw [← e4]
    exact ⟨hD, hDI⟩
  · obtain ⟨N, c1, c2⟩ := p_restore z
    obtain ⟨e1, e2⟩ := Prod.mk.inj (Option.some.inj (k1.symm.trans c1))
    subst e2
    have far : ∀ id j, id < 10 ∨ 76 < id → M1 id j = M id j := fun id j h => c2.2.1 _ _ (fun w hw e => by have := c2.2.2 w hw; omega)
    have z2 : ¬ M1 192 9 = 0 := by rw [far _ _ (by omega), ← hfl]; exact z
    rw [r_restore, if_neg z2] at k2
    obtain ⟨e3, e4⟩ := Prod.mk.inj (Option.some.inj k2)
    have w1 : ∀ id j, id ≠ 193 → M2 id j = M1 id j := fun id j h => by rw [← e4]; exact r_cp_n h
    have w2 : ∀ j, j < 1330 → M2 193 j = M 194 j := fun j hj => by rw [← e4, r_cp_t hj]; exact far _ _ (by omega)
    have eg : ∀ i : Int, 0 ≤ i → i < 1330 → r_G M2 i = r_Gi M i := fun i i0 i1 => w2 i.toNat (by omega)
    have ei : r_Gi M2 = r_Gi M := funext fun i => (w1 _ _ (by decide)).trans (far _ _ (by omega))
    have nr : ∀ id j, 77 ≤ id → id < 190 → M2 id j = M id j := fun id j a b => (w1 _ _ (by omega)).trans (far _ _ (by omega))
    refine ⟨hd_cpD (to := 0) c2 hDI hI (fun i i0 i1 => eg i i0 (by omega)) (fun id j a _ => w1 _ _ (by omega)) (by decide), ?_⟩
    rw [ei]
    exact hd_D_tr hDI hI (fun _ _ _ => rfl) (fun j _ => ⟨nr _ _ (by decide) (by decide), nr _ _ (by decide) (by decide)⟩) (fun j _ => ⟨nr _ _ (by decide) (by decide), nr _ _ (by decide) (by decide), nr _ _ (by decide) (by decide)⟩) (fun j _ => ⟨nr _ _ (by decide) (by decide), nr _ _ (by decide) (by decide)⟩) (fun q hq k _ => nr _ _ (by omega) (by omega))
