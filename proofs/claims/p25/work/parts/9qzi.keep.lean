section
/-! members and CURVES: what keeps them; set, dead, lies; image and restore -/
theorem hd_D_tr {M M' : EM} {dc dc' : Nat} {g g' : Int → Int} (hD : hd_D M dc g) (h40 : g 1198 ≤ 40) (eg : ∀ i : Int, 0 ≤ i → i < 1120 ∨ i = 1198 → g' i = g i) (c1 : ∀ j, j < 40 → M' (12 + dc') j = M (12 + dc) j ∧ M' (14 + dc') j = M (14 + dc) j) (c2 : ∀ j, j < 320 → M' (15 + dc') j = M (15 + dc) j ∧ M' (16 + dc') j = M (16 + dc) j ∧ M' (17 + dc') j = M (17 + dc) j) (c3 : ∀ j, j < 240 → M' (19 + dc') j = M (19 + dc) j ∧ M' (20 + dc') j = M (20 + dc) j) (c4 : ∀ q, q < 40 → ∀ k, k < 5 → M' (37 + dc' + q) k = M (37 + dc + q) k) : hd_D M' dc' g' := by
  intro q hq
  rw [eg 1198 (by decide) (Or.inr rfl)] at hq
  have q40 : q < 40 := by omega
  exact hd_q_cg (hD q hq) ⟨eg _ (by omega) (Or.inl (by omega)), eg _ (by omega) (Or.inl (by omega)), fun d d0 d1 _ _ => eg _ (by omega) (Or.inl (by omega))⟩ (fun m m0 m1 => ⟨eg _ (by omega) (Or.inl (by omega)), fun _ => eg _ (by omega) (Or.inl (by omega))⟩) ⟨(c1 q q40).1, (c1 q q40).2, fun k hk => c2 _ (by omega), fun i hi => c3 _ (by omega), fun k hk => c4 q q40 k hk⟩
def hd_KD (dc s : Nat) : AW := [(12 + dc, 0, 39), (14 + dc, 0, 39), (15 + dc, 0, 319), (16 + dc, 0, 319), (17 + dc, 0, 319), (19 + dc, 0, 239), (20 + dc, 0, 239), (s, 0, 1119), (s, 1198, 1198)] ++ (List.range 40).map (fun q => (37 + dc + q, 0, 4))
theorem hd_keep {dc s : Nat} {M M' : EM} (h : ∀ c ∈ hd_KD dc s, ∀ k, c.2.1 ≤ k → k ≤ c.2.2 → M' c.1 k = M c.1 k) (h40 : M s 1198 ≤ 40) (hD : hd_D M dc (fun i => M s i.toNat)) : hd_D M' dc (fun i => M' s i.toNat) := by
  have m0 : ∀ c, c ∈ [(12 + dc, 0, 39), (14 + dc, 0, 39), (15 + dc, 0, 319), (16 + dc, 0, 319), (17 + dc, 0, 319), (19 + dc, 0, 239), (20 + dc, 0, 239), (s, 0, 1119), (s, 1198, 1198)] → c ∈ hd_KD dc s := fun c hc => List.mem_append.mpr (Or.inl hc)
  refine hd_D_tr hD h40 (fun i i0 i1 => ?_) (fun j hj => ⟨?_, ?_⟩) (fun j hj => ⟨?_, ?_, ?_⟩) (fun j hj => ⟨?_, ?_⟩) (fun q hq k hk => ?_)
  · rcases i1 with i1 | i1
    · exact h (s, 0, 1119) (m0 _ (by simp)) i.toNat (Nat.zero_le _) (by show i.toNat ≤ 1119; omega)
    · subst i1
      exact h (s, 1198, 1198) (m0 _ (by simp)) 1198 (Nat.le_refl _) (Nat.le_refl _)
  · exact h (12 + dc, 0, 39) (m0 _ (by simp)) j (Nat.zero_le _) (by show j ≤ 39; omega)
  · exact h (14 + dc, 0, 39) (m0 _ (by simp)) j (Nat.zero_le _) (by show j ≤ 39; omega)
  · exact h (15 + dc, 0, 319) (m0 _ (by simp)) j (Nat.zero_le _) (by show j ≤ 319; omega)
  · exact h (16 + dc, 0, 319) (m0 _ (by simp)) j (Nat.zero_le _) (by show j ≤ 319; omega)
  · exact h (17 + dc, 0, 319) (m0 _ (by simp)) j (Nat.zero_le _) (by show j ≤ 319; omega)
  · exact h (19 + dc, 0, 239) (m0 _ (by simp)) j (Nat.zero_le _) (by show j ≤ 239; omega)
  · exact h (20 + dc, 0, 239) (m0 _ (by simp)) j (Nat.zero_le _) (by show j ≤ 239; omega)
  · exact h (37 + dc + q, 0, 4) (List.mem_append.mpr (Or.inr (List.mem_map.mpr ⟨q, List.mem_range.mpr hq, rfl⟩))) k (Nat.zero_le _) (by show k ≤ 4; omega)
theorem hd_ke {W : AW} {M M' : EM} (h : h_av (hd_KD 0 193) W = true) (hf : a_fr W M M') (hB : h_B M 0 (r_G M)) (hD : hd_D M 0 (r_G M)) : hd_D M' 0 (r_G M') := hd_keep (dc := 0) (s := 193) (h_av_ok h hf) hB.2.1.2 hD
theorem hd_keI {W : AW} {M M' : EM} (h : h_av (hd_KD 68 194) W = true) (hf : a_fr W M M') (hB : h_B M 68 (r_Gi M)) (hD : hd_D M 68 (r_Gi M)) : hd_D M' 68 (r_Gi M') := hd_keep (dc := 68) (s := 194) (h_av_ok h hf) hB.2.1.2 hD
/-- a CELL's settings alone have changed -/
theorem hd_cell1 {M M' : EM} {q : Nat} (hD : hd_D M 0 (r_G M)) (k0 : r_G M (28 * (q : Int)) = 0) (hg : ∀ x : Int, 0 ≤ x → (x < 28 * (q : Int) + 15 ∨ 28 * (q : Int) + 28 ≤ x) → r_G M' x = r_G M x) (hc : ∀ id k, id < 192 → M' id k = M id k) (hq40 : q < 40) (h40 : r_G M 1198 ≤ 40) : hd_D M' 0 (r_G M') := by
  intro t ht
  rw [hg 1198 (by decide) (by omega)] at ht
  refine hd_q_cg (hD t ht) ⟨hg _ (by omega) (by omega), hg _ (by omega) (by omega), fun d d0 d1 d2 _ => hg _ (by omega) ?_⟩ (fun m m0 m1 => ⟨hg _ (by omega) (by omega), fun _ => hg _ (by omega) (by omega)⟩) ⟨hc _ _ (by decide), hc _ _ (by decide), fun k _ => ⟨hc _ _ (by decide), hc _ _ (by decide), hc _ _ (by decide)⟩, fun i _ => ⟨hc _ _ (by decide), hc _ _ (by decide)⟩, fun k _ => hc _ _ (by omega)⟩
  by_cases e : t = q
  · subst e
    have := d2 k0
    omega
  · omega
section HDK
variable {M1 M2 : EM} {r2 : Int}
theorem hd_setD {p w v : Int} (J1 : r_J M1) (hD : hd_D M1 0 (r_G M1)) (k2 : E_C 196 [192, p, w, v] M1 = some (r2, M2)) : hd_D M2 0 (r_G M2) := by
  have hW1 := (r_J_E J1).2.1
  by_cases cg : 0 ≤ p ∧ p < r_G M1 1198
  · have ip := r_ip1 hW1 cg
    by_cases hL : h_Sq w v
    · have h40 := r_40 hW1 cg
      obtain ⟨q, hq⟩ : ∃ q : Nat, p = q := ⟨p.toNat, by omega⟩
      subst hq
      have kk : E_C 170 [192, (q : Int)] M1 = some (r_G M1 (28 * (q : Int)), M1) := r_kind h40
      by_cases k0 : r_G M1 (28 * (q : Int)) = 0
      · rw [k0] at kk
        obtain ⟨f1, f2⟩ := Prod.mk.inj (Option.some.inj (k2.symm.trans (h_196c h40 ip kk hL)))
        obtain ⟨⟨s1, s2⟩, -⟩ := hL
        rw [f2]
        refine hd_cell1 (q := q) hD k0 (fun x x0 hx => ?_) (fun id k h => c_up_n (by omega)) (by omega) hW1.2.1
        show e_up M1 193 _ v 193 x.toNat = _
        rw [c_up_n (by omega)]
        rfl
      · obtain ⟨f1, f2⟩ := Prod.mk.inj (Option.some.inj (k2.symm.trans (h_196b ip kk k0 hL)))
        rw [f2]
        exact hD
    · obtain ⟨f1, f2⟩ := Prod.mk.inj (Option.some.inj (k2.symm.trans (h_196a ip (Or.inr hL))))
      rw [f2]
      exact hD
  · obtain ⟨f1, f2⟩ := Prod.mk.inj (Option.some.inj (k2.symm.trans (h_196a (r_ip0 hW1 cg) (Or.inl rfl))))
    rw [f2]
    exact hD
theorem hd_deadD {p v : Int} (J1 : r_J M1) (hD : hd_D M1 0 (r_G M1)) (hz : ∀ q : Nat, (q : Int) < r_G M1 1198 → r_G M1 (28 * (q : Int)) = 0 → r_G M1 (28 * (q : Int) + 19) = 0 ∨ r_G M1 (28 * (q : Int) + 19) = 1) (hv : v = 0 ∨ v = 1) (k2 : E_C 197 [192, p, v] M1 = some (r2, M2)) : hd_D M2 0 (r_G M2) := by
  have hW1 := (r_J_E J1).2.1
  by_cases cg : 0 ≤ p ∧ p < r_G M1 1198
  · have ip := r_ip1 hW1 cg
    have h40 := r_40 hW1 cg
    obtain ⟨q, hq⟩ : ∃ q : Nat, p = q := ⟨p.toNat, by omega⟩
    subst hq
    have kk : E_C 170 [192, (q : Int)] M1 = some (r_G M1 (28 * (q : Int)), M1) := r_kind h40
    by_cases k0 : r_G M1 (28 * (q : Int)) = 0
    · rw [k0] at kk
      obtain ⟨f1, f2⟩ := Prod.mk.inj (Option.some.inj (k2.symm.trans (h_197c h40 ip kk rfl (hz q cg.2 k0) hv)))
      rw [f2]
      refine hd_cell1 (q := q) hD k0 (fun x x0 hx => ?_) (fun id k h => c_up_n (by omega)) (by omega) hW1.2.1
      show e_up M1 193 _ v 193 x.toNat = _
      rw [c_up_n (by omega)]
      rfl
    · obtain ⟨f1, f2⟩ := Prod.mk.inj (Option.some.inj (k2.symm.trans (h_197b ip kk k0)))
      rw [f2]
      exact hD
  · obtain ⟨f1, f2⟩ := Prod.mk.inj (Option.some.inj (k2.symm.trans (h_197a (r_ip0 hW1 cg))))
    rw [f2]
    exact hD
theorem hd_liesD {p f t : Int} (J1 : r_J M1) (hD : hd_D M1 0 (r_G M1)) (hf : f ≤ 2147483647) (ht : t ≤ 2147483647) (k2 : E_C 219 [192, p, f, t] M1 = some (r2, M2)) : hd_D M2 0 (r_G M2) := by
  have hW1 := (r_J_E J1).2.1
  by_cases cg : 0 ≤ p ∧ p < r_G M1 1198
  · have ip := r_ip1 hW1 cg
    by_cases hL : h_Lq f t
    · have h40 := r_40 hW1 cg
      obtain ⟨q, hq⟩ : ∃ q : Nat, p = q := ⟨p.toNat, by omega⟩
      subst hq
      have kk : E_C 170 [192, (q : Int)] M1 = some (r_G M1 (28 * (q : Int)), M1) := r_kind h40
      by_cases k0 : r_G M1 (28 * (q : Int)) = 0
      · rw [k0] at kk
        obtain ⟨f1, f2⟩ := Prod.mk.inj (Option.some.inj (k2.symm.trans (h_219c h40 ip kk hf ht hL)))
        rw [f2]
        refine hd_cell1 (q := q) hD k0 (fun x x0 hx => ?_) (fun id k h => ?_) (by omega) hW1.2.1
        · show r_lay5 M1 (q : Int) _ _ _ _ 193 x.toNat = _
          unfold r_lay5
          rw [c_up_n (by omega), c_up_n (by omega), c_up_n (by omega), c_up_n (by omega), c_up_n (by omega)]
          rfl
        · unfold r_lay5
          rw [c_up_n (by omega), c_up_n (by omega), c_up_n (by omega), c_up_n (by omega), c_up_n (by omega)]
      · obtain ⟨f1, f2⟩ := Prod.mk.inj (Option.some.inj (k2.symm.trans (h_219b ip kk k0 hf ht hL)))
        rw [f2]
        exact hD
    · obtain ⟨f1, f2⟩ := Prod.mk.inj (Option.some.inj (k2.symm.trans (h_219a ip hf ht (Or.inr hL))))
      rw [f2]
      exact hD
  · obtain ⟨f1, f2⟩ := Prod.mk.inj (Option.some.inj (k2.symm.trans (h_219a (r_ip0 hW1 cg) hf ht (Or.inl rfl))))
    rw [f2]
    exact hD
end HDK
theorem hd_cov : (∃ w ∈ p_D48, w.1 = 12 ∧ w.2.1 = 0 ∧ 39 ≤ w.2.2) ∧ (∃ w ∈ p_D48, w.1 = 14 ∧ w.2.1 = 0 ∧ 39 ≤ w.2.2) ∧ (∃ w ∈ p_D48, w.1 = 15 ∧ w.2.1 = 0 ∧ 319 ≤ w.2.2) ∧ (∃ w ∈ p_D48, w.1 = 16 ∧ w.2.1 = 0 ∧ 319 ≤ w.2.2) ∧ (∃ w ∈ p_D48, w.1 = 17 ∧ w.2.1 = 0 ∧ 319 ≤ w.2.2) ∧ (∃ w ∈ p_D48, w.1 = 19 ∧ w.2.1 = 0 ∧ 239 ≤ w.2.2) ∧ (∃ w ∈ p_D48, w.1 = 20 ∧ w.2.1 = 0 ∧ 239 ≤ w.2.2) ∧ ∀ (q : Fin 40) (k : Fin 5), ∃ w ∈ p_D48, w.1 = 37 + q.val ∧ w.2.1 ≤ k.val ∧ k.val ≤ w.2.2 := by decide +kernel
theorem hd_cpD {M M' N : EM} {so to : Nat} {g g' : Int → Int} (c : p_C so to p_D48 M N) (hD : hd_D M so g) (h40 : g 1198 ≤ 40) (eg : ∀ i : Int, 0 ≤ i → i < 1120 ∨ i = 1198 → g' i = g i) (near : ∀ id j, id < 192 → id ≠ 8 → M' id j = N id j) (hto : to ≤ 68) : hd_D M' to g' := by
  obtain ⟨q1, q2, q3, q4, q5, q6, q7, q8⟩ := hd_cov
  refine hd_D_tr hD h40 eg (fun j hj => ⟨(near _ _ (by omega) (by omega)).trans (h_cpx c q1 (by omega)), (near _ _ (by omega) (by omega)).trans (h_cpx c q2 (by omega))⟩) (fun j hj => ⟨(near _ _ (by omega) (by omega)).trans (h_cpx c q3 (by omega)), (near _ _ (by omega) (by omega)).trans (h_cpx c q4 (by omega)), (near _ _ (by omega) (by omega)).trans (h_cpx c q5 (by omega))⟩) (fun j hj => ⟨(near _ _ (by omega) (by omega)).trans (h_cpx c q6 (by omega)), (near _ _ (by omega) (by omega)).trans (h_cpx c q7 (by omega))⟩) (fun q hq k hk => ?_)
  have e := h_cp1 c (q8 ⟨q, hq⟩ ⟨k, hk⟩)
  dsimp only at e
  rw [show 37 + q + to = 37 + to + q by omega, show 37 + q + so = 37 + so + q by omega] at e
  exact (near _ _ (by omega) (by omega)).trans e
theorem hd_image {r1 r2 : Int} {M M1 M2 : EM} (h40 : r_G M 1198 ≤ 40) (hD : hd_D M 0 (r_G M)) (k1 : E_C 136 [8] M = some (r1, M1)) (k2 : E_C 255 [192] M1 = some (r2, M2)) : hd_D M2 0 (r_G M2) ∧ hd_D M2 68 (r_Gi M2) := by
  obtain ⟨N, c1, c2⟩ := p_image M
  obtain ⟨e1, e2⟩ := Prod.mk.inj (Option.some.inj (k1.symm.trans c1))
  subst e2
  obtain ⟨e3, e4⟩ := Prod.mk.inj (Option.some.inj (k2.symm.trans (r_image _)))
  have far : ∀ id j, id < 78 ∨ 145 < id → N id j = M id j := fun id j h => c2.2.1 _ _ (fun w hw e => by have := c2.2.2 w hw; omega)
  have z : ∀ id j, id ≠ 8 → id ≠ 192 → id ≠ 194 → M2 id j = N id j := fun id j a b c => by
    rw [e4, c_up_n (fun e => b e.1), r_cp_n c, c_up_n (fun e => a e.1)]
  have zi : ∀ j, j < 1330 → M2 194 j = M 193 j := fun j hj => by
    rw [e4, c_up_n (fun e => by omega), r_cp_t hj, c_up_n (fun e => by omega)]
    exact far _ _ (by omega)
  have eG : r_G M2 = r_G M := funext fun i => (z _ _ (by decide) (by decide) (by decide)).trans (far _ _ (by omega))
  have nr : ∀ id j, 9 ≤ id → id < 78 → M2 id j = M id j := fun id j a b => (z _ _ (by omega) (by omega) (by omega)).trans (far _ _ (by omega))
  refine ⟨?_, hd_cpD (to := 68) c2 hD h40 (fun i i0 i1 => zi i.toNat (by omega)) (fun id j a b => z _ _ b (by omega) (by omega)) (by decide)⟩
  rw [eG]
  exact hd_D_tr hD h40 (fun _ _ _ => rfl) (fun j _ => ⟨nr _ _ (by decide) (by decide), nr _ _ (by decide) (by decide)⟩) (fun j _ => ⟨nr _ _ (by decide) (by decide), nr _ _ (by decide) (by decide), nr _ _ (by decide) (by decide)⟩) (fun j _ => ⟨nr _ _ (by decide) (by decide), nr _ _ (by decide) (by decide)⟩) (fun q hq k _ => nr _ _ (by omega) (by omega))
theorem hd_restore {r1 r2 : Int} {M M1 M2 : EM} (hfl : M 8 2 = M 192 9) (hB : r_G M 1198 ≤ 40) (hI : r_Gi M 1198 ≤ 40) (hD : hd_D M 0 (r_G M)) (hDI : hd_D M 68 (r_Gi M)) (k1 : E_C 137 [8] M = some (r1, M1)) (k2 : E_C 256 [192] M1 = some (r2, M2)) : hd_D M2 0 (r_G M2) ∧ hd_D M2 68 (r_Gi M2) := by
  by_cases z : M 8 2 = 0
  · obtain ⟨e1, e2⟩ := Prod.mk.inj (Option.some.inj (k1.symm.trans (p_restore0 z)))
    subst e2
    rw [r_restore, if_pos (hfl ▸ z)] at k2
    obtain ⟨e3, e4⟩ := Prod.mk.inj (Option.some.inj k2)
    rw [← e4]
    exact ⟨hD, hDI⟩
  · obtain ⟨N, c1, c2⟩ := p_restore z
    obtain ⟨e1, e2⟩ := Prod.mk.inj (Option.some.inj (k1.symm.trans c1))
    subst e2
    have far : ∀ id j, id < 10 ∨ 76 < id → M1 id j = M id j := fun id j h => c2.2.1 _ _ (fun w hw e => by have := c2.2.2 w hw; omega)
    have z2 : ¬ M1 192 9 = 0 := by rw [far _ _ (by omega), ← hfl]; exact z
    rw [r_restore, if_neg z2] at k2
    obtain ⟨e3, e4⟩ := Prod.mk.inj (Option.some.inj k2)
    have w1 : ∀ id j, id ≠ 193 → M2 id j = M1 id j := fun id j h => by rw [← e4]; exact r_cp_n h
    have w2 : ∀ j, j < 1330 → M2 193 j = M 194 j := fun j hj => by rw [← e4, r_cp_t hj]; exact far _ _ (by omega)
    have eg : ∀ i : Int, 0 ≤ i → i < 1330 → r_G M2 i = r_Gi M i := fun i i0 i1 => w2 i.toNat (by omega)
    have ei : r_Gi M2 = r_Gi M := funext fun i => (w1 _ _ (by decide)).trans (far _ _ (by omega))
    have nr : ∀ id j, 77 ≤ id → id < 190 → M2 id j = M id j := fun id j a b => (w1 _ _ (by omega)).trans (far _ _ (by omega))
    refine ⟨hd_cpD (to := 0) c2 hDI hI (fun i i0 i1 => eg i i0 (by omega)) (fun id j a _ => w1 _ _ (by omega)) (by decide), ?_⟩
    rw [ei]
    exact hd_D_tr hDI hI (fun _ _ _ => rfl) (fun j _ => ⟨nr _ _ (by decide) (by decide), nr _ _ (by decide) (by decide)⟩) (fun j _ => ⟨nr _ _ (by decide) (by decide), nr _ _ (by decide) (by decide), nr _ _ (by decide) (by decide)⟩) (fun j _ => ⟨nr _ _ (by decide) (by decide), nr _ _ (by decide) (by decide)⟩) (fun q hq k _ => nr _ _ (by omega) (by omega))
end
section
/-! the class spreads a PART out: exactly -/
theorem bx_G3 (M : EM) : e_gf 3 [170] M = some 9 := p_g 3 170 9 M (by decide +kernel)
theorem bx_G8 (M : EM) : e_gf 8 [170] M = some 171 := p_g 8 170 171 M (by decide +kernel)
theorem bx_G9 (M : EM) : e_gf 9 [170] M = some 172 := p_g 9 170 172 M (by decide +kernel)
theorem bx_Ga (M : EM) : e_gf 10 [170] M = some 173 := p_g 10 170 173 M (by decide +kernel)
theorem bx_Gb (M : EM) : e_gf 11 [170] M = some 174 := p_g 11 170 174 M (by decide +kernel)
theorem bx_Gc (M : EM) : e_gf 12 [170] M = some 175 := p_g 12 170 175 M (by decide +kernel)
theorem bx_Gd (M : EM) : e_gf 13 [170] M = some 176 := p_g 13 170 176 M (by decide +kernel)
theorem bx_Ge (M : EM) : e_gf 14 [170] M = some 177 := p_g 14 170 177 M (by decide +kernel)
theorem bx_Gf (M : EM) : e_gf 15 [170] M = some 178 := p_g 15 170 178 M (by decide +kernel)
theorem bx_Gg (M : EM) : e_gf 16 [170] M = some 179 := p_g 16 170 179 M (by decide +kernel)
theorem bx_Gh (M : EM) : e_gf 17 [170] M = some 180 := p_g 17 170 180 M (by decide +kernel)
theorem bx_Gi (M : EM) : e_gf 18 [170] M = some 181 := p_g 18 170 181 M (by decide +kernel)
theorem bx_F0 (M : EM) : e_gf 0 [170] M = some (M 170 0) := c_gf (by decide +kernel) (by decide +kernel)
theorem bx_F1 (M : EM) : e_gf 1 [170] M = some (M 170 1) := c_gf (by decide +kernel) (by decide +kernel)
theorem bx_F2 (M : EM) : e_gf 2 [170] M = some (M 170 2) := c_gf (by decide +kernel) (by decide +kernel)
theorem bx_F4 (M : EM) : e_gf 4 [170] M = some (M 170 4) := c_gf (by decide +kernel) (by decide +kernel)
theorem bx_F5 (M : EM) : e_gf 5 [170] M = some (M 170 5) := c_gf (by decide +kernel) (by decide +kernel)
theorem bx_F6 (M : EM) : e_gf 6 [170] M = some (M 170 6) := c_gf (by decide +kernel) (by decide +kernel)
theorem bx_F7 (M : EM) : e_gf 7 [170] M = some (M 170 7) := c_gf (by decide +kernel) (by decide +kernel)
theorem bx_P0 (v : Int) (M : EM) : e_pf 0 [170, v] M = some (e_up M 170 0 v) := c_pf (by decide +kernel) (by decide +kernel)
theorem bx_P1 (v : Int) (M : EM) : e_pf 1 [170, v] M = some (e_up M 170 1 v) := c_pf (by decide +kernel) (by decide +kernel)
theorem bx_P2 (v : Int) (M : EM) : e_pf 2 [170, v] M = some (e_up M 170 2 v) := c_pf (by decide +kernel) (by decide +kernel)
theorem bx_P4 (v : Int) (M : EM) : e_pf 4 [170, v] M = some (e_up M 170 4 v) := c_pf (by decide +kernel) (by decide +kernel)
theorem bx_P5 (v : Int) (M : EM) : e_pf 5 [170, v] M = some (e_up M 170 5 v) := c_pf (by decide +kernel) (by decide +kernel)
theorem bx_P6 (v : Int) (M : EM) : e_pf 6 [170, v] M = some (e_up M 170 6 v) := c_pf (by decide +kernel) (by decide +kernel)
theorem bx_P7 (v : Int) (M : EM) : e_pf 7 [170, v] M = some (e_up M 170 7 v) := c_pf (by decide +kernel) (by decide +kernel)
theorem bx_r {u : Nat} {as : List Int} {M : EM} (h : as.getD 0 0 = 170) (hc : q_rc (e_vm u) = some 0) : e_rok u as = true := by
  unfold e_rok
  rw [hc]
  show decide (e_isO 0 (as.getD 0 0)) = true
  rw [h]
  exact decide_eq_true (by decide +kernel)
/-- a row filled -/
def bx_fl (M : EM) (a n : Nat) (v : Int) (i : Nat) : EM := fun b j => if b = a ∧ i ≤ j ∧ j < n then v else M b j
theorem bx_fl_step {M : EM} {a n i : Nat} {v : Int} (h : i < n) : bx_fl (e_up M a i v) a n v (i + 1) = bx_fl M a n v i := by
  funext b j
  unfold bx_fl
  by_cases c : b = a ∧ j = i
  · obtain ⟨rfl, rfl⟩ := c
    rw [if_neg (by omega), if_pos ⟨rfl, Nat.le_refl _, h⟩, c_up_s]
  · by_cases c2 : b = a ∧ i + 1 ≤ j ∧ j < n
    · rw [if_pos c2, if_pos (by omega)]
    · rw [if_neg c2, if_neg (by omega), c_up_n c]
theorem bx_fill_loop {a n : Nat} {a0 n0 v : Int} (ha : a0 = a) (hn : n0 = n) (h8 : 8 ≤ a) (hN : a < e_N) (hs : e_sh a = (100, n)) (hn9 : n ≤ 100000) : ∀ (m i : Nat) (i0 : Int) (M : EM), i0 = i → i + m = n → E_V 270 5 [a0, v, i0, n0] M = some (0, bx_fl M a n v i) := by
  intro m
  induction m with
  | zero =>
    intro i i0 M hi hm
    have q : ¬ (i0 < n0) := by omega
    have e : bx_fl M a n v i = M := by
      funext b j
      exact if_neg (fun hc => by omega)
    rw [e, E_V_eq]
    show e_tv E_C (E_V 270) e_t270_5 [a0, v, i0, n0] M = _
    unfold e_t270_5
    simp [zq_a, zq_b, zq_c, zq_d, zq_e, zq_f, zq_g, zq_h, zq_i, zq_j, zq_k, zq_l, zq_m, zq_n, zq_o, zq_p, zq_q, zq_r, zq_s, zq_t, zq_u, zq_v, zq_w, zq_x, zq_y, zq_z, zq_A, zq_B, zq_C, zq_D, zq_E, zq_F, zq_G, zq_H, zq_I, zq_J, zq_K, zq_L, ↓zq_M, ↓zq_N, ↓zq_O, ↓zq_P, ↓zq_Q, ↓zq_R, zq_S, zq_T, zq_U, zq_V, zq_W, zq_X, zq_Y, zq_Z, zq_0, zq_1, zq_2, zq_3, zq_4, zq_5, ↓zq_6, ↓zq_7, ↓zq_8, ↓zq_9, ↓zq_aa, zq_ab, zq_ac, zq_ad, zq_ae, zq_af, zq_ag, ↓zq_ah, ↓zq_ai, ↓zq_aj, zq_ak, ↓zq_al, ↓zq_am, e_b1, e_b2, x_o1, x_o2, q]
  | succ m ih =>
    intro i i0 M hi hm
    have k := ih (i + 1) (i0 + 1) (e_up M a i v) (by omega) (by omega)
    rw [bx_fl_step (by omega)] at k
    have hst : e_st 100 [a0, i0, v] M = some (e_up M a i v) := by
      have hin : (8 : Int) ≤ a0 ∧ e_in2 M 100 a0 i0 := ⟨by omega, by omega, by omega, by rw [ha, Int.toNat_natCast, hs], by omega, by
        have z : e_sz M a = n := (if_neg (by omega)).trans (by rw [hs])
        rw [ha, Int.toNat_natCast, z]
        omega⟩
      exact (if_pos hin).trans (by rw [ha, hi, Int.toNat_natCast, Int.toNat_natCast])
    have w : e_w (i0 + 1) = i0 + 1 := a_w_id (by omega) (by omega)
    have q : i0 < n0 := by omega
    have q_n : ¬ (n0 ≤ i0) := by omega
    rw [E_V_eq]
    show e_tv E_C (E_V 270) e_t270_5 [a0, v, i0, n0] M = _
    unfold e_t270_5
    simp [zq_a, zq_b, zq_c, zq_d, zq_e, zq_f, zq_g, zq_h, zq_i, zq_j, zq_k, zq_l, zq_m, zq_n, zq_o, zq_p, zq_q, zq_r, zq_s, zq_t, zq_u, zq_v, zq_w, zq_x, zq_y, zq_z, zq_A, zq_B, zq_C, zq_D, zq_E, zq_F, zq_G, zq_H, zq_I, zq_J, zq_K, zq_L, ↓zq_M, ↓zq_N, ↓zq_O, ↓zq_P, ↓zq_Q, ↓zq_R, zq_S, zq_T, zq_U, zq_V, zq_W, zq_X, zq_Y, zq_Z, zq_0, zq_1, zq_2, zq_3, zq_4, zq_5, ↓zq_6, ↓zq_7, ↓zq_8, ↓zq_9, ↓zq_aa, zq_ab, zq_ac, zq_ad, zq_ae, zq_af, zq_ag, ↓zq_ah, ↓zq_ai, ↓zq_aj, zq_ak, ↓zq_al, ↓zq_am, e_b1, e_b2, x_o1, x_o2, q, q_n, hst, w, k]
theorem bx_fill {a n : Nat} {v : Int} (h8 : 8 ≤ a) (hN : a < e_N) (hs : e_sh a = (100, n)) (hn9 : n ≤ 100000) (M : EM) : E_C 270 [(a : Int), v] M = some (0, bx_fl M a n v 0) := by
  have k := bx_fill_loop (a := a) (n := n) (v := v) rfl rfl h8 hN hs hn9 n 0 0 M rfl (by omega)
  have l : e_op 63 [(a : Int)] M = some (n : Int) := p_len (a := (a : Int)) (n := n) ⟨by omega, by omega, by simp [hs], by simp [hs]⟩ M
  obtain ⟨a0, ha0⟩ : ∃ a0 : Int, (a : Int) = a0 := ⟨_, rfl⟩
  obtain ⟨n0, hn0⟩ : ∃ n0 : Int, (n : Int) = n0 := ⟨_, rfl⟩
  rw [ha0, hn0] at k
  rw [ha0, hn0] at l
  rw [ha0]
  rw [r_ent (show e_rok 270 [a0, v] = true from rfl)]
  show e_tv E_C (E_V 270) e_t270_0 [a0, v, 0, 0] M = _
  unfold e_t270_0
  simp [zq_a, zq_b, zq_c, zq_d, zq_e, zq_f, zq_g, zq_h, zq_i, zq_j, zq_k, zq_l, zq_m, zq_n, zq_o, zq_p, zq_q, zq_r, zq_s, zq_t, zq_u, zq_v, zq_w, zq_x, zq_y, zq_z, zq_A, zq_B, zq_C, zq_D, zq_E, zq_F, zq_G, zq_H, zq_I, zq_J, zq_K, zq_L, ↓zq_M, ↓zq_N, ↓zq_O, ↓zq_P, ↓zq_Q, ↓zq_R, zq_S, zq_T, zq_U, zq_V, zq_W, zq_X, zq_Y, zq_Z, zq_0, zq_1, zq_2, zq_3, zq_4, zq_5, ↓zq_6, ↓zq_7, ↓zq_8, ↓zq_9, ↓zq_aa, zq_ab, zq_ac, zq_ad, zq_ae, zq_af, zq_ag, ↓zq_ah, ↓zq_ai, ↓zq_aj, zq_ak, ↓zq_al, ↓zq_am, e_b1, e_b2, x_o1, x_o2, l, k]
/-- nothing is spread out -/
def bx_cl (M : EM) : EM := bx_fl (e_up (e_up (e_up M 170 0 0) 170 4 0) 170 5 0) 172 40 0 0
theorem bx_clear (M : EM) : E_C 3 [170] M = some (0, bx_cl M) := by
  have f := fun M => bx_fill (a := 172) (n := 40) (v := 0) (by decide) (by decide) (by decide +kernel) (by decide) M
  have f' : ∀ M, E_C 270 [172, 0] M = some (0, bx_fl M 172 40 0 0) := f
  rw [r_ent (show e_rok 3 [170] = true from bx_r (M := M) rfl (by decide +kernel))]
  show e_tv E_C (E_V 3) e_t3_0 [170] M = _
  unfold e_t3_0 bx_cl
  simp [zq_a, zq_b, zq_c, zq_d, zq_e, zq_f, zq_g, zq_h, zq_i, zq_j, zq_k, zq_l, zq_m, zq_n, zq_o, zq_p, zq_q, zq_r, zq_s, zq_t, zq_u, zq_v, zq_w, zq_x, zq_y, zq_z, zq_A, zq_B, zq_C, zq_D, zq_E, zq_F, zq_G, zq_H, zq_I, zq_J, zq_K, zq_L, ↓zq_M, ↓zq_N, ↓zq_O, ↓zq_P, ↓zq_Q, ↓zq_R, zq_S, zq_T, zq_U, zq_V, zq_W, zq_X, zq_Y, zq_Z, zq_0, zq_1, zq_2, zq_3, zq_4, zq_5, ↓zq_6, ↓zq_7, ↓zq_8, ↓zq_9, ↓zq_aa, zq_ab, zq_ac, zq_ad, zq_ae, zq_af, zq_ag, ↓zq_ah, ↓zq_ai, ↓zq_aj, zq_ak, ↓zq_al, ↓zq_am, e_b1, e_b2, x_o1, x_o2, bx_P0, bx_P4, bx_P5, bx_G9, f']
/-- CELL q stands at j, in GROUP y -/
def bx_cell (M0 M : EM) (j q : Nat) (y : Int) : Prop := M 174 j = q ∧ M 173 j = y ∧ M 176 j = M0 22 q ∧ ∀ a, a < 4 → M 175 (4 * j + a) = M0 21 (4 * q + a)
def bx_AC (M M' : EM) (j q : Nat) (y : Int) : Prop := bx_cell M M' j q y ∧ M' 170 0 = (j : Int) + 1 ∧ ∀ id k, ¬ (id = 174 ∧ k = j) → ¬ (id = 173 ∧ k = j) → ¬ (id = 176 ∧ k = j) → ¬ (id = 175 ∧ 4 * j ≤ k ∧ k < 4 * j + 4) → ¬ (id = 170 ∧ k = 0) → M' id k = M id k
theorem bx_5s {j q : Nat} {q0 y : Int} {M : EM} (hj : M 170 0 = j) (hj40 : j < 40) (hq : q0 = q) (hq40 : q < 40) {a : Nat} {a0 : Int} (ha : a0 = a) (ha4 : a < 4) : E_V 5 51 [170, q0, y, a0] M = E_V 5 51 [170, q0, y, a0 + 1] (e_up M 175 (4 * j + a) (M 21 (4 * q + a))) := by
  have w1 : e_w ((j : Int) * 4) = (j : Int) * 4 := a_w_id (by omega) (by omega)
  have w2 : e_w ((j : Int) * 4 + a0) = (j : Int) * 4 + a0 := a_w_id (by omega) (by omega)
  have w3 : e_w (q0 * 4) = q0 * 4 := a_w_id (by omega) (by omega)
  have w4 : e_w (q0 * 4 + a0) = q0 * 4 + a0 := a_w_id (by omega) (by omega)
  have w5 : e_w (a0 + 1) = a0 + 1 := a_w_id (by omega) (by omega)
  have t1 := w_atN (a := 21) (i := q0 * 4 + a0) (n := 160) (by decide +kernel) (j := 4 * q + a) (by omega) (by omega) M
  have l1 := fun v => w_layN (a := 175) (i := (j : Int) * 4 + a0) (n := 160) (by decide +kernel) (j := 4 * j + a) (by omega) (by omega) v M
  have t1' : E_C 146 [21, q0 * 4 + a0] M = some (M 21 (4 * q + a), M) := t1
  have l1' : ∀ v, E_C 147 [175, (j : Int) * 4 + a0, v] M = some (0, e_up M 175 (4 * j + a) v) := l1
  have q4 : a0 < 4 := by omega
  rw [E_V_eq]
  show e_tv E_C (E_V 5) e_t5_51 [170, q0, y, a0] M = _
  unfold e_t5_51
  simp [zq_a, zq_b, zq_c, zq_d, zq_e, zq_f, zq_g, zq_h, zq_i, zq_j, zq_k, zq_l, zq_m, zq_n, zq_o, zq_p, zq_q, zq_r, zq_s, zq_t, zq_u, zq_v, zq_w, zq_x, zq_y, zq_z, zq_A, zq_B, zq_C, zq_D, zq_E, zq_F, zq_G, zq_H, zq_I, zq_J, zq_K, zq_L, ↓zq_M, ↓zq_N, ↓zq_O, ↓zq_P, ↓zq_Q, ↓zq_R, zq_S, zq_T, zq_U, zq_V, zq_W, zq_X, zq_Y, zq_Z, zq_0, zq_1, zq_2, zq_3, zq_4, zq_5, ↓zq_6, ↓zq_7, ↓zq_8, ↓zq_9, ↓zq_aa, zq_ab, zq_ac, zq_ad, zq_ae, zq_af, zq_ag, ↓zq_ah, ↓zq_ai, ↓zq_aj, zq_ak, ↓zq_al, ↓zq_am, e_b1, e_b2, x_o1, x_o2, bx_F0, bx_G3, bx_Gc, w_H1, w_C2, hj, q4, w1, w2, w3, w4, w5, t1', l1']
theorem bx_5e {q0 y : Int} {j : Int} {M : EM} (hj : M 170 0 = j) (hj40 : 0 ≤ j ∧ j < 40) : E_V 5 51 [170, q0, y, 4] M = some (0, e_up M 170 0 (j + 1)) := by
  have w5 : e_w (j + 1) = j + 1 := a_w_id (by omega) (by omega)
  rw [E_V_eq]
  show e_tv E_C (E_V 5) e_t5_51 [170, q0, y, 4] M = _
  unfold e_t5_51
  simp [zq_a, zq_b, zq_c, zq_d, zq_e, zq_f, zq_g, zq_h, zq_i, zq_j, zq_k, zq_l, zq_m, zq_n, zq_o, zq_p, zq_q, zq_r, zq_s, zq_t, zq_u, zq_v, zq_w, zq_x, zq_y, zq_z, zq_A, zq_B, zq_C, zq_D, zq_E, zq_F, zq_G, zq_H, zq_I, zq_J, zq_K, zq_L, ↓zq_M, ↓zq_N, ↓zq_O, ↓zq_P, ↓zq_Q, ↓zq_R, zq_S, zq_T, zq_U, zq_V, zq_W, zq_X, zq_Y, zq_Z, zq_0, zq_1, zq_2, zq_3, zq_4, zq_5, ↓zq_6, ↓zq_7, ↓zq_8, ↓zq_9, ↓zq_aa, zq_ab, zq_ac, zq_ad, zq_ae, zq_af, zq_ag, ↓zq_ah, ↓zq_ai, ↓zq_aj, zq_ak, ↓zq_al, ↓zq_am, e_b1, e_b2, x_o1, x_o2, bx_F0, bx_P0, hj, w5]
theorem bx_5 {j q : Nat} {q0 y : Int} {M : EM} (hj : M 170 0 = j) (hj40 : j < 40) (hq : q0 = q) (hq40 : q < 40) : ∃ M', E_C 5 [170, q0, y] M = some (0, M') ∧ bx_AC M M' j q y := by
  obtain ⟨N, hN⟩ : ∃ N, e_up (e_up (e_up M 174 j q0) 173 j y) 176 j (M 22 q) = N := ⟨_, rfl⟩
  have e0 : ∀ id k, ¬ (id = 174 ∧ k = j) → ¬ (id = 173 ∧ k = j) → ¬ (id = 176 ∧ k = j) → N id k = M id k := fun id k h1 h2 h3 => by
    rw [← hN, c_up_n h3, c_up_n h2, c_up_n h1]
  have nj : N 170 0 = j := (e0 _ _ (by omega) (by omega) (by omega)).trans hj
  obtain ⟨N1, hN1⟩ : ∃ N1, e_up N 175 (4 * j + 0) (N 21 (4 * q + 0)) = N1 := ⟨_, rfl⟩
  have e1 : ∀ id k, ¬ (id = 175 ∧ k = 4 * j + 0) → N1 id k = N id k := fun id k h => by rw [← hN1, c_up_n h]
  obtain ⟨N2, hN2⟩ : ∃ N2, e_up N1 175 (4 * j + 1) (N1 21 (4 * q + 1)) = N2 := ⟨_, rfl⟩
  have e2 : ∀ id k, ¬ (id = 175 ∧ k = 4 * j + 1) → N2 id k = N1 id k := fun id k h => by rw [← hN2, c_up_n h]
  obtain ⟨N3, hN3⟩ : ∃ N3, e_up N2 175 (4 * j + 2) (N2 21 (4 * q + 2)) = N3 := ⟨_, rfl⟩
  have e3 : ∀ id k, ¬ (id = 175 ∧ k = 4 * j + 2) → N3 id k = N2 id k := fun id k h => by rw [← hN3, c_up_n h]
  obtain ⟨N4, hN4⟩ : ∃ N4, e_up N3 175 (4 * j + 3) (N3 21 (4 * q + 3)) = N4 := ⟨_, rfl⟩
  have e4 : ∀ id k, ¬ (id = 175 ∧ k = 4 * j + 3) → N4 id k = N3 id k := fun id k h => by rw [← hN4, c_up_n h]
  have j1 : N1 170 0 = j := (e1 _ _ (by omega)).trans nj
  have j2 : N2 170 0 = j := (e2 _ _ (by omega)).trans j1
  have j3 : N3 170 0 = j := (e3 _ _ (by omega)).trans j2
  have j4 : N4 170 0 = j := (e4 _ _ (by omega)).trans j3
  have s1 := bx_5s (y := y) nj hj40 hq hq40 (a := 0) (a0 := 0) rfl (by decide)
  have s2 := bx_5s (y := y) j1 hj40 hq hq40 (a := 1) (a0 := 1) rfl (by decide)
  have s3 := bx_5s (y := y) j2 hj40 hq hq40 (a := 2) (a0 := 2) rfl (by decide)
  have s4 := bx_5s (y := y) j3 hj40 hq hq40 (a := 3) (a0 := 3) rfl (by decide)
  rw [hN1] at s1
  rw [hN2] at s2
  rw [hN3] at s3
  rw [hN4] at s4
  have s5 := bx_5e (q0 := q0) (y := y) j4 ⟨by omega, by omega⟩
  have sg : E_V 5 51 [170, q0, y, 0] N = some (0, e_up N4 170 0 ((j : Int) + 1)) := s1.trans (s2.trans (s3.trans (s4.trans s5)))
  refine ⟨e_up N4 170 0 ((j : Int) + 1), ?_, ⟨?_, ?_, ?_, fun a ha => ?_⟩, c_up_s, fun id k h1 h2 h3 h4 h5 => ?_⟩
  · have l1 := fun v M => w_layN (a := 174) (i := (j : Int)) (n := 40) (by decide +kernel) (j := j) rfl hj40 v M
    have l2 := fun v M => w_layN (a := 173) (i := (j : Int)) (n := 40) (by decide +kernel) (j := j) rfl hj40 v M
    have l3 := fun v M => w_layN (a := 176) (i := (j : Int)) (n := 40) (by decide +kernel) (j := j) rfl hj40 v M
    have t3 := fun M => w_atN (a := 22) (i := q0) (n := 40) (by decide +kernel) (j := q) hq hq40 M
    have l1' : ∀ v M, E_C 147 [174, (j : Int), v] M = some (0, e_up M 174 j v) := l1
    have l2' : ∀ v M, E_C 147 [173, (j : Int), v] M = some (0, e_up M 173 j v) := l2
    have l3' : ∀ v M, E_C 147 [176, (j : Int), v] M = some (0, e_up M 176 j v) := l3
    have t3' : ∀ M, E_C 146 [22, q0] M = some (M 22 q, M) := t3
    obtain ⟨jj, hjj⟩ : ∃ jj : Int, (j : Int) = jj := ⟨_, rfl⟩
    rw [hjj] at hj
    rw [hjj] at l1' l2' l3'
    have h0 : ∀ (q0 y : Int), (e_up (e_up M 174 j q0) 173 j y) 22 q = M 22 q := fun q0 y => by rw [c_up_n (by omega), c_up_n (by omega)]
    have h1 : ∀ q0, e_up M 174 j q0 170 0 = jj := fun q0 => by rw [c_up_n (by omega)]; exact hj
    have h2 : ∀ q0 y, e_up (e_up M 174 j q0) 173 j y 170 0 = jj := fun q0 y => by rw [c_up_n (by omega), c_up_n (by omega)]; exact hj
    rw [← hN] at sg
    rw [r_ent (show e_rok 5 [170, q0, y] = true from bx_r (M := M) rfl (by decide +kernel))]
    show e_tv E_C (E_V 5) e_t5_0 [170, q0, y, 0] M = _
    unfold e_t5_0
    simp [zq_a, zq_b, zq_c, zq_d, zq_e, zq_f, zq_g, zq_h, zq_i, zq_j, zq_k, zq_l, zq_m, zq_n, zq_o, zq_p, zq_q, zq_r, zq_s, zq_t, zq_u, zq_v, zq_w, zq_x, zq_y, zq_z, zq_A, zq_B, zq_C, zq_D, zq_E, zq_F, zq_G, zq_H, zq_I, zq_J, zq_K, zq_L, ↓zq_M, ↓zq_N, ↓zq_O, ↓zq_P, ↓zq_Q, ↓zq_R, zq_S, zq_T, zq_U, zq_V, zq_W, zq_X, zq_Y, zq_Z, zq_0, zq_1, zq_2, zq_3, zq_4, zq_5, ↓zq_6, ↓zq_7, ↓zq_8, ↓zq_9, ↓zq_aa, zq_ab, zq_ac, zq_ad, zq_ae, zq_af, zq_ag, ↓zq_ah, ↓zq_ai, ↓zq_aj, zq_ak, ↓zq_al, ↓zq_am, e_b1, e_b2, x_o1, x_o2, bx_F0, bx_G3, bx_Ga, bx_Gb, bx_Gd, w_H1, w_C3, hj, h0, h1, h2, l1', l2', l3', t3', sg]
  · rw [c_up_n (by omega), e4 _ _ (by omega), e3 _ _ (by omega), e2 _ _ (by omega), e1 _ _ (by omega), ← hN, c_up_n (by omega), c_up_n (by omega), c_up_s, hq]
  · rw [c_up_n (by omega), e4 _ _ (by omega), e3 _ _ (by omega), e2 _ _ (by omega), e1 _ _ (by omega), ← hN, c_up_n (by omega), c_up_s]
  · rw [c_up_n (by omega), e4 _ _ (by omega), e3 _ _ (by omega), e2 _ _ (by omega), e1 _ _ (by omega), ← hN, c_up_s]
  · have f : ∀ k, N 21 k = M 21 k := fun k => e0 _ _ (by omega) (by omega) (by omega)
    have f1 : ∀ k, N1 21 k = M 21 k := fun k => (e1 _ _ (by omega)).trans (f k)
    have f2 : ∀ k, N2 21 k = M 21 k := fun k => (e2 _ _ (by omega)).trans (f1 k)
    have f3 : ∀ k, N3 21 k = M 21 k := fun k => (e3 _ _ (by omega)).trans (f2 k)
    rw [c_up_n (by omega)]
    have h4 : a = 0 ∨ a = 1 ∨ a = 2 ∨ a = 3 := by omega
    rcases h4 with rfl | rfl | rfl | rfl
    · rw [e4 _ _ (by omega), e3 _ _ (by omega), e2 _ _ (by omega), ← hN1, c_up_s, f]
    · rw [e4 _ _ (by omega), e3 _ _ (by omega), ← hN2, c_up_s, f1]
    · rw [e4 _ _ (by omega), ← hN3, c_up_s, f2]
    · rw [← hN4, c_up_s, f3]
  · rw [c_up_n h5, e4 _ _ (by omega), e3 _ _ (by omega), e2 _ _ (by omega), e1 _ _ (by omega), e0 _ _ h1 h2 h3]
end
