section EOPS
variable {ro : MRo} {d mid pc : Nat} {L : ML} {st : List MV} {w : MWd} {i : Instr}
theorem e_re_i2 {c : Nat × Nat × Nat} {t u : Nat} {x y z : Int} {v v2 : MV} (hi : e_in mid pc = some i) (h : e_i2 i = some c) (ht : e_kt t = c.2.1) (hu : e_kt u = c.2.1) (hv : e_v t x v) (hv2 : e_v u y v2) (he : e_b2 c.1 x y = some z) :
    ∃ q, e_v c.2.2 z q ∧ e_re ro d mid pc L (v2 :: v :: st) w (pc + 1) L (q :: st) w := by
  cases i
  case iadd =>
    cases h
    obtain ⟨a, rfl, rfl⟩ := e_v_int ht hv
    obtain ⟨b, rfl, rfl⟩ := e_v_int hu hv2
    cases he
    exact ⟨.inl (a + b), ⟨_, rfl, by rw [Int32.toInt_add]; exact e_wb _⟩, e_re_p hi rfl⟩
  case isub =>
    cases h
    obtain ⟨a, rfl, rfl⟩ := e_v_int ht hv
    obtain ⟨b, rfl, rfl⟩ := e_v_int hu hv2
    cases he
    exact ⟨.inl (a - b), ⟨_, rfl, by rw [Int32.toInt_sub]; exact e_wb _⟩, e_re_p hi rfl⟩
  case imul =>
    cases h
    obtain ⟨a, rfl, rfl⟩ := e_v_int ht hv
    obtain ⟨b, rfl, rfl⟩ := e_v_int hu hv2
    cases he
    exact ⟨.inl (a * b), ⟨_, rfl, by rw [Int32.toInt_mul]; exact e_wb _⟩, e_re_p hi rfl⟩
  case idiv =>
    cases h
    obtain ⟨a, rfl, rfl⟩ := e_v_int ht hv
    obtain ⟨b, rfl, rfl⟩ := e_v_int hu hv2
    simp only [e_b2] at he
    split at he
    · cases he
    · rename_i h0
      cases he
      exact ⟨.inl (a / b), ⟨_, rfl, by rw [Int32.toInt_div]; exact e_wb _⟩, e_re_p hi (by simp only [m_pure, m_ii, if_neg (fun q => h0 (e_zero.mp q))])⟩
  case irem =>
    cases h
    obtain ⟨a, rfl, rfl⟩ := e_v_int ht hv
    obtain ⟨b, rfl, rfl⟩ := e_v_int hu hv2
    simp only [e_b2] at he
    split at he
    · cases he
    · rename_i h0
      cases he
      exact ⟨.inl (a - a / b * b), ⟨_, rfl, e_rem a b⟩, e_re_p hi (by simp only [m_pure, m_ii, if_neg (fun q => h0 (e_zero.mp q))])⟩
  case iand =>
    cases h
    obtain ⟨a, rfl, rfl⟩ := e_v_int ht hv
    obtain ⟨b, rfl, rfl⟩ := e_v_int hu hv2
    cases he
    exact ⟨.inl (a &&& b), ⟨_, rfl, by unfold e_bit; rw [e_of, e_of]⟩, e_re_p hi rfl⟩
  case ior =>
    cases h
    obtain ⟨a, rfl, rfl⟩ := e_v_int ht hv
    obtain ⟨b, rfl, rfl⟩ := e_v_int hu hv2
    cases he
    exact ⟨.inl (a ||| b), ⟨_, rfl, by unfold e_bit; rw [e_of, e_of]⟩, e_re_p hi rfl⟩
  case ixor =>
    cases h
    obtain ⟨a, rfl, rfl⟩ := e_v_int ht hv
    obtain ⟨b, rfl, rfl⟩ := e_v_int hu hv2
    cases he
    exact ⟨.inl (a ^^^ b), ⟨_, rfl, by unfold e_bit; rw [e_of, e_of]⟩, e_re_p hi rfl⟩
  case ishl =>
    cases h
    obtain ⟨a, rfl, rfl⟩ := e_v_int ht hv
    obtain ⟨b, rfl, rfl⟩ := e_v_int hu hv2
    cases he
    exact ⟨.inl (a <<< (b &&& 31)), ⟨_, rfl, by unfold e_bit; rw [e_of, e_of]⟩, e_re_p hi rfl⟩
  case ishr =>
    cases h
    obtain ⟨a, rfl, rfl⟩ := e_v_int ht hv
    obtain ⟨b, rfl, rfl⟩ := e_v_int hu hv2
    cases he
    exact ⟨.inl (a >>> (b &&& 31)), ⟨_, rfl, by unfold e_bit; rw [e_of, e_of]⟩, e_re_p hi rfl⟩
  case iushr =>
    cases h
    obtain ⟨a, rfl, rfl⟩ := e_v_int ht hv
    obtain ⟨b, rfl, rfl⟩ := e_v_int hu hv2
    cases he
    exact ⟨.inl (a.toUInt32 >>> (b.toUInt32 &&& Int32.toUInt32 31)).toInt32, ⟨_, rfl, by unfold e_bit; rw [e_of, e_of]⟩, e_re_p hi rfl⟩
  case ladd =>
    cases h
    obtain ⟨a, rfl, rfl⟩ := (by have := e_v_kt hv; rw [ht] at this; exact this : e_v 1 x v)
    obtain ⟨b, rfl, rfl⟩ := (by have := e_v_kt hv2; rw [hu] at this; exact this : e_v 1 y v2)
    cases he
    exact ⟨.inr (.inl (a + b)), ⟨_, rfl, by rw [Int64.toInt_add]; exact e_Wb _⟩, e_re_p hi rfl⟩
  case lsub =>
    cases h
    obtain ⟨a, rfl, rfl⟩ := (by have := e_v_kt hv; rw [ht] at this; exact this : e_v 1 x v)
    obtain ⟨b, rfl, rfl⟩ := (by have := e_v_kt hv2; rw [hu] at this; exact this : e_v 1 y v2)
    cases he
    exact ⟨.inr (.inl (a - b)), ⟨_, rfl, by rw [Int64.toInt_sub]; exact e_Wb _⟩, e_re_p hi rfl⟩
  case lmul =>
    cases h
    obtain ⟨a, rfl, rfl⟩ := (by have := e_v_kt hv; rw [ht] at this; exact this : e_v 1 x v)
    obtain ⟨b, rfl, rfl⟩ := (by have := e_v_kt hv2; rw [hu] at this; exact this : e_v 1 y v2)
    cases he
    exact ⟨.inr (.inl (a * b)), ⟨_, rfl, by rw [Int64.toInt_mul]; exact e_Wb _⟩, e_re_p hi rfl⟩
  case ldiv =>
    cases h
    obtain ⟨a, rfl, rfl⟩ := (by have := e_v_kt hv; rw [ht] at this; exact this : e_v 1 x v)
    obtain ⟨b, rfl, rfl⟩ := (by have := e_v_kt hv2; rw [hu] at this; exact this : e_v 1 y v2)
    simp only [e_b2] at he
    split at he
    · cases he
    · rename_i h0
      cases he
      exact ⟨.inr (.inl (a / b)), ⟨_, rfl, by rw [Int64.toInt_div]; exact e_Wb _⟩, e_re_p hi (by simp only [m_pure, m_ll, if_neg (fun q => h0 (e_zeroL.mp q))])⟩
  all_goals cases h
theorem e_re_i1 {c : Nat × Nat × Nat} {t : Nat} {x z : Int} {v : MV} (hi : e_in mid pc = some i) (h : e_i1 i = some c) (ht : e_kt t = c.2.1) (hv : e_v t x v) (he : e_b1 c.1 x = some z) :
    ∃ q, e_v c.2.2 z q ∧ e_re ro d mid pc L (v :: st) w (pc + 1) L (q :: st) w := by
  cases i
  case ineg =>
    cases h
    obtain ⟨a, rfl, rfl⟩ := e_v_int ht hv
    cases he
    exact ⟨.inl (-a), ⟨_, rfl, by rw [Int32.toInt_neg]; exact e_wb _⟩, e_re_p hi rfl⟩
  case i2l =>
    cases h
    obtain ⟨a, rfl, rfl⟩ := e_v_int ht hv
    cases he
    exact ⟨.inr (.inl a.toInt64), ⟨_, rfl, Int32.toInt_toInt64 a⟩, e_re_p hi rfl⟩
  case l2i =>
    cases h
    obtain ⟨a, rfl, rfl⟩ := (by have := e_v_kt hv; rw [ht] at this; exact this : e_v 1 x v)
    cases he
    exact ⟨.inl a.toInt32, ⟨_, rfl, by rw [Int64.toInt_toInt32]; exact e_wb _⟩, e_re_p hi rfl⟩
  case i2b =>
    cases h
    obtain ⟨a, rfl, rfl⟩ := e_v_int ht hv
    cases he
    refine ⟨.inl a.toInt8.toInt32, ⟨_, rfl, ?_⟩, e_re_p hi rfl⟩
    rw [Int8.toInt_toInt32, Int32.toInt_toInt8]
    show Int.bmod _ 256 = _
    unfold Int.bmod
    dsimp only
    split <;> omega
  case i2s =>
    cases h
    obtain ⟨a, rfl, rfl⟩ := e_v_int ht hv
    cases he
    refine ⟨.inl a.toInt16.toInt32, ⟨_, rfl, ?_⟩, e_re_p hi rfl⟩
    rw [Int16.toInt_toInt32, Int32.toInt_toInt16]
    show Int.bmod _ 65536 = _
    unfold Int.bmod
    dsimp only
    split <;> omega
  all_goals cases h
/-! tables' facts -/
theorem e_q_ft : (q_ft.all fun l => l.all fun r => decide (r.2.1 < 13) && decide (r.2.2.1 < q_nf r.2.1)) = true := by decide +kernel
theorem e_q_f {idx ci k : Nat} (h : q_f mid idx = some (ci, k)) : ci < 13 ∧ k < q_nf ci := by
  unfold q_f q_ff at h
  split at h
  · rename_i v hv
    cases h
    have hm := q_find_mem hv
    rcases q_getD (L := q_ft) (i := q_oc mid) with e | e
    · rw [e] at hm; cases hm
    · have h2 := List.all_eq_true.mp (List.all_eq_true.mp e_q_ft _ e) _ hm
      simp only [Bool.and_eq_true, decide_eq_true_eq] at h2
      exact h2
  · cases h
theorem e_sh_all : ((List.range e_N).all fun a => decide (a < 8) || (if (e_sh a).1 < 100 then decide ((e_sh a).2 = q_nf (e_sh a).1) else decide ((e_sh a).2 ≤ 60000) && (decide ((e_sh a).1 = 100) || decide ((e_sh a).1 = 101) || q_ra ((e_sh a).1 - 102)))) = true := by decide +kernel
theorem e_sh_ok {a : Nat} (h8 : 8 ≤ a) (hn : a < e_N) : if (e_sh a).1 < 100 then (e_sh a).2 = q_nf (e_sh a).1 else (e_sh a).2 ≤ 60000 ∧ ((e_sh a).1 = 100 ∨ (e_sh a).1 = 101 ∨ q_ra ((e_sh a).1 - 102) = true) := by
  have h := List.all_eq_true.mp e_sh_all a (List.mem_range.mpr hn)
  rw [Bool.or_eq_true] at h
  rcases h with h | h
  · exact absurd (of_decide_eq_true h) (by omega)
  · split at h
    · rename_i hc; rw [if_pos hc]; exact of_decide_eq_true h
    · rename_i hc; rw [if_neg hc]
      simp only [Bool.and_eq_true, Bool.or_eq_true, decide_eq_true_eq] at h
      rcases h with ⟨h1, (h2 | h2) | h2⟩
      · exact ⟨h1, Or.inl h2⟩
      · exact ⟨h1, Or.inr (Or.inl h2)⟩
      · exact ⟨h1, Or.inr (Or.inr h2)⟩
theorem e_sh_lo : ∀ a, a < 8 → (e_sh a).1 ≤ 100 := by decide +kernel
theorem e_v2 {x : Int} {v : MV} (h : e_v 2 x v) (h0 : 0 ≤ x) : v = .inr (.inr (some x.toNat)) := by
  rcases h with ⟨rfl, -⟩ | ⟨a, rfl, rfl⟩
  · omega
  · simp
/-- a field is read -/
theorem e_re_get {M : EM} {idx key : Nat} {x z : Int} {v : MV} (hi : e_in mid pc = some (.getfield idx)) (hq : q_f mid idx = some (key / 64, key % 64)) (hW : e_wr ro M w) (hv : e_v 2 x v) (he : e_gf key [x] M = some z) :
    ∃ q, e_v (e_fty key) z q ∧ e_re ro d mid pc L (v :: st) w (pc + 3) L (q :: st) w := by
  obtain ⟨w1, w2, w3, -⟩ := hW
  obtain ⟨f1, f2⟩ := e_q_f hq
  simp only [e_gf] at he
  split at he
  · rename_i hc
    obtain ⟨c1, c2, c3⟩ := hc
    cases he
    have h8 : 8 ≤ x.toNat := by omega
    have hs := e_sh_ok h8 c2
    rw [if_pos (by omega)] at hs
    have hty : e_ty x.toNat (key % 64) = e_fty key := by
      unfold e_ty
      rw [if_pos (by omega), c3]
      rfl
    have h3 := w3 x.toNat (key % 64) h8 c2 (by rw [hs, c3]; exact f2)
    rw [hty] at h3
    refine ⟨mmm w x.toNat (key % 64), h3, ?_⟩
    have hv2 := e_v2 hv (by omega)
    subst hv2
    refine e_re_h (r := (mmm w x.toNat (key % 64) :: st, w)) hi rfl ?_
    simp only [m_heap, hq]
    rw [if_pos ⟨h8, by rw [w1]; exact c2, by rw [w2 _ h8 c2, ← c3, ← hs]⟩]
  · cases he
theorem e_clamp {y : Int32} (h : 0 ≤ y.toInt) : ¬ y < 0 ∧ y.toNatClampNeg = y.toInt.toNat := ⟨fun q => by rw [Int32.lt_iff_toInt_lt] at q; have : (0 : Int32).toInt = 0 := rfl; omega, rfl⟩
/-- an int of an array is read -/
theorem e_re_iald {M : EM} {t u : Nat} {x y z : Int} {v v2 : MV} (hi : e_in mid pc = some .iaload) (hW : e_wr ro M w) (ht : t = 2) (hu : e_kt u = 0) (hv : e_v t x v) (hv2 : e_v u y v2) (he : e_op 60 [x, y] M = some z) :
    ∃ q, e_v 0 z q ∧ e_re ro d mid pc L (v2 :: v :: st) w (pc + 1) L (q :: st) w := by
  subst ht
  obtain ⟨w1, w2, w3, -, -, -, w7⟩ := hW
  obtain ⟨b, rfl, rfl⟩ := e_v_int hu hv2
  simp only [e_op, if_neg (show ¬ (60 = 63) by decide), if_pos] at he
  split at he
  · rename_i hc
    obtain ⟨c1, c2, c3, c4, c5⟩ := hc
    cases he
    have hv3 := e_v2 hv c1
    subst hv3
    obtain ⟨g1, g2⟩ := e_clamp c4
    by_cases h8 : x.toNat < 8
    · obtain ⟨n, f, k1, k2, k3, k4⟩ := w7 _ h8 c3
      rw [k2] at c5
      refine ⟨.inl (f b.toNatClampNeg), ⟨_, rfl, by rw [g2]; exact k4 _ c5⟩, ?_⟩
      refine e_re_h (r := (.inl (f b.toNatClampNeg) :: st, w)) hi rfl ?_
      simp only [m_heap]
      rw [if_pos h8, k1]
      dsimp only
      rw [if_pos ⟨g1, by rw [g2]; exact c5⟩]
    · have h8' : 8 ≤ x.toNat := by omega
      have hsz : e_sz M x.toNat = (e_sh x.toNat).2 := if_neg (by omega)
      rw [hsz] at c5
      have h3 := w3 x.toNat b.toInt.toNat h8' c2 c5
      have hty : e_ty x.toNat b.toInt.toNat = 0 := by
        unfold e_ty
        rw [if_neg (by omega), if_pos c3]
      rw [hty, if_neg (by decide)] at h3
      obtain ⟨q, hq, hq2⟩ := h3
      refine ⟨.inl q, ⟨_, rfl, hq2⟩, ?_⟩
      refine e_re_h (r := (.inl q :: st, w)) hi rfl ?_
      simp only [m_heap]
      rw [if_neg h8, if_pos ⟨by rw [w1]; exact c2, by rw [w2 _ h8' c2]; exact c3, g1, by rw [w2 _ h8' c2, g2]; exact c5⟩, g2, hq]
      rfl
  · cases he
theorem e_re_lald {M : EM} {t u : Nat} {x y z : Int} {v v2 : MV} (hi : e_in mid pc = some .laload) (hW : e_wr ro M w) (ht : t = 2) (hu : e_kt u = 0) (hv : e_v t x v) (hv2 : e_v u y v2) (he : e_op 61 [x, y] M = some z) :
    ∃ q, e_v 1 z q ∧ e_re ro d mid pc L (v2 :: v :: st) w (pc + 1) L (q :: st) w := by
  subst ht
  obtain ⟨w1, w2, w3, -, -, -, w7⟩ := hW
  obtain ⟨b, rfl, rfl⟩ := e_v_int hu hv2
  simp only [e_op, if_neg (show ¬ (61 = 63) by decide), if_neg (show ¬ (61 = 60) by decide), if_pos] at he
  split at he
  · rename_i hc
    obtain ⟨c1, c2, c3, c4, c5⟩ := hc
    cases he
    have hv3 := e_v2 hv c1
    subst hv3
    obtain ⟨g1, g2⟩ := e_clamp c4
    have h8' : 8 ≤ x.toNat := by
      refine Nat.le_of_not_lt fun h8 => ?_
      have := e_sh_lo _ h8
      omega
    have hsz : e_sz M x.toNat = (e_sh x.toNat).2 := if_neg (by omega)
    rw [hsz] at c5
    have h3 := w3 x.toNat b.toInt.toNat h8' c2 c5
    have hty : e_ty x.toNat b.toInt.toNat = 1 := by
      unfold e_ty
      rw [if_neg (by omega), if_neg (by omega), if_pos c3]
    rw [hty, if_neg (by decide)] at h3
    obtain ⟨q, hq, hq2⟩ := h3
    refine ⟨.inr (.inl q), ⟨_, rfl, hq2⟩, ?_⟩
    refine e_re_h (r := (.inr (.inl q) :: st, w)) hi rfl ?_
    simp only [m_heap]
    rw [if_pos ⟨h8', by rw [w1]; exact c2, by rw [w2 _ h8' c2]; exact c3, g1, by rw [w2 _ h8' c2, g2]; exact c5⟩, g2, hq]
    rfl
  · cases he
theorem e_re_aald {M : EM} {t u : Nat} {x y z : Int} {v v2 : MV} (hi : e_in mid pc = some .aaload) (hW : e_wr ro M w) (ht : t = 2) (hu : e_kt u = 0) (hv : e_v t x v) (hv2 : e_v u y v2) (he : e_op 62 [x, y] M = some z) :
    ∃ q, e_v 2 z q ∧ e_re ro d mid pc L (v2 :: v :: st) w (pc + 1) L (q :: st) w := by
  subst ht
  obtain ⟨w1, w2, w3, -, -, -, w7⟩ := hW
  obtain ⟨b, rfl, rfl⟩ := e_v_int hu hv2
  simp only [e_op, if_neg (show ¬ (62 = 63) by decide), if_neg (show ¬ (62 = 60) by decide), if_neg (show ¬ (62 = 61) by decide), if_pos] at he
  split at he
  · rename_i hc
    obtain ⟨c1, c2, c3, c4, c5⟩ := hc
    cases he
    have hv3 := e_v2 hv c1
    subst hv3
    obtain ⟨g1, g2⟩ := e_clamp c4
    have h8' : 8 ≤ x.toNat := by
      refine Nat.le_of_not_lt fun h8 => ?_
      have := e_sh_lo _ h8
      omega
    have hsz : e_sz M x.toNat = (e_sh x.toNat).2 := if_neg (by omega)
    rw [hsz] at c5
    have h3 := w3 x.toNat b.toInt.toNat h8' c2 c5
    have hs := e_sh_ok h8' c2
    rw [if_neg (by omega)] at hs
    have hra : q_ra ((e_sh x.toNat).1 - 102) = true := by
      rcases hs.2 with h | h | h
      · omega
      · omega
      · exact h
    have hty : e_ty x.toNat b.toInt.toNat = 2 := by
      unfold e_ty
      rw [if_neg (by omega), if_neg (by omega), if_neg (by omega)]
    rw [hty, if_pos rfl] at h3
    refine ⟨mmm w x.toNat b.toInt.toNat, h3, ?_⟩
    refine e_re_h (r := (mmm w x.toNat b.toInt.toNat :: st, w)) hi rfl ?_
    simp only [m_heap]
    rw [if_pos ⟨h8', by rw [w1]; exact c2, by rw [w2 _ h8' c2]; exact c3, by rw [w2 _ h8' c2]; exact hra, g1, by rw [w2 _ h8' c2, g2]; exact c5⟩, g2]
    rcases h3 with ⟨-, h4⟩ | ⟨a, -, h4⟩ <;> rw [h4] <;> rfl
  · cases he
theorem e_re_alen {M : EM} {x z : Int} {v : MV} (hi : e_in mid pc = some .arraylength) (hW : e_wr ro M w) (hv : e_v 2 x v) (he : e_op 63 [x] M = some z) :
    ∃ q, e_v 0 z q ∧ e_re ro d mid pc L (v :: st) w (pc + 1) L (q :: st) w := by
  obtain ⟨w1, w2, w3, -, -, -, w7⟩ := hW
  simp only [e_op, if_pos] at he
  split at he
  · rename_i hc
    obtain ⟨c1, c2, c3⟩ := hc
    cases he
    have hv3 := e_v2 hv c1
    subst hv3
    by_cases h8 : x.toNat < 8
    · have := e_sh_lo _ h8
      obtain ⟨n, f, k1, k2, k3, k4⟩ := w7 _ h8 (by omega)
      refine ⟨.inl (Int32.ofNat n), ⟨_, rfl, by rw [k2]; exact Int32.toInt_ofNat_of_lt k3⟩, ?_⟩
      refine e_re_h (r := (.inl (Int32.ofNat n) :: st, w)) hi rfl ?_
      simp only [m_heap]
      rw [if_pos h8, k1]
    · have h8' : 8 ≤ x.toNat := by omega
      have hs := e_sh_ok h8' c2
      rw [if_neg (by omega)] at hs
      have hsz : e_sz M x.toNat = (e_sh x.toNat).2 := if_neg (by omega)
      have hk : (e_sh x.toNat).1 ≤ 101 ∨ q_ra ((e_sh x.toNat).1 - 102) = true := by
        rcases hs.2 with h | h | h
        · exact Or.inl (by omega)
        · exact Or.inl (by omega)
        · exact Or.inr h
      refine ⟨.inl (Int32.ofNat (e_sh x.toNat).2), ⟨_, rfl, by rw [hsz]; exact Int32.toInt_ofNat_of_lt (by omega)⟩, ?_⟩
      refine e_re_h (r := (.inl (Int32.ofNat (e_sh x.toNat).2) :: st, w)) hi rfl ?_
      simp only [m_heap]
      rw [if_neg h8, if_pos ⟨by rw [w1]; exact c2, by rw [w2 _ h8' c2]; exact c3, by rw [w2 _ h8' c2]; exact hk⟩, w2 _ h8' c2]
  · cases he
end EOPS
