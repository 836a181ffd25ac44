section EOPS
variable {ro : MRo} {d mid pc : Nat} {L : ML} {st : List MV} {w : MWd} {i : Instr}
theorem e_sh_all : ((List.range e_N).all fun a => decide (a < 8) || (if (e_sh a).1 < 100 then decide ((e_sh a).2 = q_nf (e_sh a).1) else decide ((e_sh a).2 ≤ 60000) && (decide ((e_sh a).1 = 100) || decide ((e_sh a).1 = 101) || q_ra ((e_sh a).1 - 102)))) = true := by decide +kernel
theorem e_sh_ok {a : Nat} (h8 : 8 ≤ a) (hn : a < e_N) : if (e_sh a).1 < 100 then (e_sh a).2 = q_nf (e_sh a).1 else (e_sh a).2 ≤ 60000 ∧ ((e_sh a).1 = 100 ∨ (e_sh a).1 = 101 ∨ q_ra ((e_sh a).1 - 102) = true) := by
  have h := List.all_eq_true.mp e_sh_all a (List.mem_range.mpr hn)
  rw [Bool.or_eq_true] at h
  rcases h with h | h
  · exact absurd (of_decide_eq_true h) (by omega)
  · split at h
    · rename_i hc; rw [if_pos hc]; exact of_decide_eq_true h
    · rename_i hc; rw [if_neg hc]
      simp only [Bool.and_eq_true, Bool.or_eq_true, decide_eq_true_eq] at h
      rcases h with ⟨h1, (h2 | h2) | h2⟩
      · exact ⟨h1, Or.inl h2⟩
      · exact ⟨h1, Or.inr (Or.inl h2)⟩
      · exact ⟨h1, Or.inr (Or.inr h2)⟩
theorem e_sh_lo : ∀ a, a < 8 → (e_sh a).1 ≤ 100 := by decide +kernel
theorem e_v2 {x : Int} {v : MV} (h : e_v 2 x v) (h0 : 0 ≤ x) : v = .inr (.inr (some x.toNat)) := by
  rcases h with ⟨rfl, -⟩ | ⟨a, rfl, rfl⟩
  · omega
  · simp
/-- a field is read -/
theorem e_re_get {M : EM} {idx key : Nat} {x z : Int} {v : MV} (hi : e_in mid pc = some (.getfield idx)) (hq : q_f mid idx = some (key / 64, key % 64)) (hW : e_wr ro M w) (hv : e_v 2 x v) (he : e_gf key [x] M = some z) :
    ∃ q, e_v (e_fty key) z q ∧ e_re ro d mid pc L (v :: st) w (pc + 3) L (q :: st) w := by
  obtain ⟨w1, w2, w3, -⟩ := hW
  obtain ⟨f1, f2⟩ := e_q_f hq
  simp only [e_gf] at he
  split at he
  · rename_i hc
    obtain ⟨c1, c2, c3⟩ := hc
    cases he
    have h8 : 8 ≤ x.toNat := by omega
    have hs := e_sh_ok h8 c2
    rw [if_pos (by omega)] at hs
    have hty : e_ty x.toNat (key % 64) = e_fty key := by
      unfold e_ty
      rw [if_pos (by omega), c3]
      rfl
    have h3 := w3 x.toNat (key % 64) h8 c2 (by rw [hs, c3]; exact f2)
    rw [hty] at h3
    refine ⟨mmm w x.toNat (key % 64), h3, ?_⟩
    have hv2 := e_v2 hv (by omega)
    subst hv2
    refine e_re_h (r := (mmm w x.toNat (key % 64) :: st, w)) hi rfl ?_
    simp only [m_heap, hq]
    rw [if_pos ⟨h8, by rw [w1]; exact c2, by rw [w2 _ h8 c2, ← c3, ← hs]⟩]
  · cases he
theorem e_clamp {y : Int32} (h : 0 ≤ y.toInt) : ¬ y < 0 ∧ y.toNatClampNeg = y.toInt.toNat := ⟨fun q => by rw [Int32.lt_iff_toInt_lt] at q; have : (0 : Int32).toInt = 0 := rfl; omega, rfl⟩
/-- an int of an array is read -/
theorem e_re_iald {M : EM} {t u : Nat} {x y z : Int} {v v2 : MV} (hi : e_in mid pc = some .iaload) (hW : e_wr ro M w) (ht : t = 2) (hu : e_kt u = 0) (hv : e_v t x v) (hv2 : e_v u y v2) (he : e_op 60 [x, y] M = some z) :
    ∃ q, e_v 0 z q ∧ e_re ro d mid pc L (v2 :: v :: st) w (pc + 1) L (q :: st) w := by
  subst ht
  obtain ⟨w1, w2, w3, -, -, -, w7⟩ := hW
  obtain ⟨b, rfl, rfl⟩ := e_v_int hu hv2
  simp only [e_op, if_neg (show ¬ (60 = 63) by decide), if_pos] at he
  split at he
  · rename_i hc
    obtain ⟨c1, c2, c3, c4, c5⟩ := hc
    cases he
    have hv3 := e_v2 hv c1
    subst hv3
    obtain ⟨g1, g2⟩ := e_clamp c4
    by_cases h8 : x.toNat < 8
    · obtain ⟨n, f, k1, k2, k3, k4⟩ := w7 _ h8 c3
      rw [k2] at c5
      refine ⟨.inl (f b.toNatClampNeg), ⟨_, rfl, by rw [g2]; exact k4 _ c5⟩, ?_⟩
      refine e_re_h (r := (.inl (f b.toNatClampNeg) :: st, w)) hi rfl ?_
      simp only [m_heap]
      rw [if_pos h8, k1]
      dsimp only
      rw [if_pos ⟨g1, by rw [g2]; exact c5⟩]
    · have h8' : 8 ≤ x.toNat := by omega
      have hsz : e_sz M x.toNat = (e_sh x.toNat).2 := if_neg (by omega)
      rw [hsz] at c5
      have h3 := w3 x.toNat b.toInt.toNat h8' c2 c5
      have hty : e_ty x.toNat b.toInt.toNat = 0 := by
        unfold e_ty
        rw [if_neg (by omega), if_pos c3]
      rw [hty, if_neg (by decide)] at h3
      obtain ⟨q, hq, hq2⟩ := h3
      refine ⟨.inl q, ⟨_, rfl, hq2⟩, ?_⟩
      refine e_re_h (r := (.inl q :: st, w)) hi rfl ?_
      simp only [m_heap]
      rw [if_neg h8, if_pos ⟨by rw [w1]; exact c2, by rw [w2 _ h8' c2]; exact c3, g1, by rw [w2 _ h8' c2, g2]; exact c5⟩, g2, hq]
      rfl
  · cases he
theorem e_re_lald {M : EM} {t u : Nat} {x y z : Int} {v v2 : MV} (hi : e_in mid pc = some .laload) (hW : e_wr ro M w) (ht : t = 2) (hu : e_kt u = 0) (hv : e_v t x v) (hv2 : e_v u y v2) (he : e_op 61 [x, y] M = some z) :
    ∃ q, e_v 1 z q ∧ e_re ro d mid pc L (v2 :: v :: st) w (pc + 1) L (q :: st) w := by
  subst ht
  obtain ⟨w1, w2, w3, -, -, -, w7⟩ := hW
  obtain ⟨b, rfl, rfl⟩ := e_v_int hu hv2
  simp only [e_op, if_neg (show ¬ (61 = 63) by decide), if_neg (show ¬ (61 = 60) by decide), if_pos] at he
  split at he
  · rename_i hc
    obtain ⟨c1, c2, c3, c4, c5⟩ := hc
    cases he
    have hv3 := e_v2 hv c1
    subst hv3
    obtain ⟨g1, g2⟩ := e_clamp c4
    have h8' : 8 ≤ x.toNat := by
      refine Nat.le_of_not_lt fun h8 => ?_
      have := e_sh_lo _ h8
      omega
    have hsz : e_sz M x.toNat = (e_sh x.toNat).2 := if_neg (by omega)
    rw [hsz] at c5
    have h3 := w3 x.toNat b.toInt.toNat h8' c2 c5
    have hty : e_ty x.toNat b.toInt.toNat = 1 := by
      unfold e_ty
      rw [if_neg (by omega), if_neg (by omega), if_pos c3]
    rw [hty, if_neg (by decide)] at h3
    obtain ⟨q, hq, hq2⟩ := h3
    refine ⟨.inr (.inl q), ⟨_, rfl, hq2⟩, ?_⟩
    refine e_re_h (r := (.inr (.inl q) :: st, w)) hi rfl ?_
    simp only [m_heap]
    rw [if_pos ⟨h8', by rw [w1]; exact c2, by rw [w2 _ h8' c2]; exact c3, g1, by rw [w2 _ h8' c2, g2]; exact c5⟩, g2, hq]
    rfl
  · cases he
theorem e_re_aald {M : EM} {t u : Nat} {x y z : Int} {v v2 : MV} (hi : e_in mid pc = some .aaload) (hW : e_wr ro M w) (ht : t = 2) (hu : e_kt u = 0) (hv : e_v t x v) (hv2 : e_v u y v2) (he : e_op 62 [x, y] M = some z) :
    ∃ q, e_v 2 z q ∧ e_re ro d mid pc L (v2 :: v :: st) w (pc + 1) L (q :: st) w := by
  subst ht
  obtain ⟨w1, w2, w3, -, -, -, w7⟩ := hW
  obtain ⟨b, rfl, rfl⟩ := e_v_int hu hv2
  simp only [e_op, if_neg (show ¬ (62 = 63) by decide), if_neg (show ¬ (62 = 60) by decide), if_neg (show ¬ (62 = 61) by decide), if_pos] at he
  split at he
  · rename_i hc
    obtain ⟨c1, c2, c3, c4, c5⟩ := hc
    cases he
    have hv3 := e_v2 hv c1
    subst hv3
    obtain ⟨g1, g2⟩ := e_clamp c4
    have h8' : 8 ≤ x.toNat := by
      refine Nat.le_of_not_lt fun h8 => ?_
      have := e_sh_lo _ h8
      omega
    have hsz : e_sz M x.toNat = (e_sh x.toNat).2 := if_neg (by omega)
    rw [hsz] at c5
    have h3 := w3 x.toNat b.toInt.toNat h8' c2 c5
    have hs := e_sh_ok h8' c2
    rw [if_neg (by omega)] at hs
    have hra : q_ra ((e_sh x.toNat).1 - 102) = true := by
      rcases hs.2 with h | h | h
      · omega
      · omega
      · exact h
    have hty : e_ty x.toNat b.toInt.toNat = 2 := by
      unfold e_ty
      rw [if_neg (by omega), if_neg (by omega), if_neg (by omega)]
    rw [hty, if_pos rfl] at h3
    refine ⟨mmm w x.toNat b.toInt.toNat, h3, ?_⟩
    refine e_re_h (r := (mmm w x.toNat b.toInt.toNat :: st, w)) hi rfl ?_
    simp only [m_heap]
    rw [if_pos ⟨h8', by rw [w1]; exact c2, by rw [w2 _ h8' c2]; exact c3, by rw [w2 _ h8' c2]; exact hra, g1, by rw [w2 _ h8' c2, g2]; exact c5⟩, g2]
    rcases h3 with ⟨-, h4⟩ | ⟨a, -, h4⟩ <;> rw [h4] <;> rfl
  · cases he
end EOPS
