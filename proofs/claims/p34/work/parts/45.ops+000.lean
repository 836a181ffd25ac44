section EOPS
variable {ro : MRo} {d mid pc : Nat} {L : ML} {st : List MV} {w : MWd} {i : Instr}
theorem e_re_i2 {c : Nat × Nat × Nat} {t u : Nat} {x y z : Int} {v v2 : MV} (hi : e_in mid pc = some i) (h : e_i2 i = some c) (ht : e_kt t = c.2.1) (hu : e_kt u = c.2.1) (hv : e_v t x v) (hv2 : e_v u y v2) (he : e_b2 c.1 x y = some z) :
    ∃ q, e_v c.2.2 z q ∧ e_re ro d mid pc L (v2 :: v :: st) w (pc + 1) L (q :: st) w := by
  cases i
  case iadd =>
    cases h
    obtain ⟨a, rfl, rfl⟩ := e_v_int ht hv
    obtain ⟨b, rfl, rfl⟩ := e_v_int hu hv2
    cases he
    exact ⟨.inl (a + b), ⟨_, rfl, by rw [Int32.toInt_add]; exact e_wb _⟩, e_re_p hi rfl⟩
  case isub =>
    cases h
    obtain ⟨a, rfl, rfl⟩ := e_v_int ht hv
    obtain ⟨b, rfl, rfl⟩ := e_v_int hu hv2
    cases he
    exact ⟨.inl (a - b), ⟨_, rfl, by rw [Int32.toInt_sub]; exact e_wb _⟩, e_re_p hi rfl⟩
  case imul =>
    cases h
    obtain ⟨a, rfl, rfl⟩ := e_v_int ht hv
    obtain ⟨b, rfl, rfl⟩ := e_v_int hu hv2
    cases he
    exact ⟨.inl (a * b), ⟨_, rfl, by rw [Int32.toInt_mul]; exact e_wb _⟩, e_re_p hi rfl⟩
  case idiv =>
    cases h
    obtain ⟨a, rfl, rfl⟩ := e_v_int ht hv
    obtain ⟨b, rfl, rfl⟩ := e_v_int hu hv2
    simp only [e_b2] at he
    split at he
    · cases he
    · rename_i h0
      cases he
      exact ⟨.inl (a / b), ⟨_, rfl, by rw [Int32.toInt_div]; exact e_wb _⟩, e_re_p hi (by simp only [m_pure, m_ii, if_neg (fun q => h0 (e_zero.mp q))])⟩
  case irem =>
    cases h
    obtain ⟨a, rfl, rfl⟩ := e_v_int ht hv
    obtain ⟨b, rfl, rfl⟩ := e_v_int hu hv2
    simp only [e_b2] at he
    split at he
    · cases he
    · rename_i h0
      cases he
      exact ⟨.inl (a - a / b * b), ⟨_, rfl, e_rem a b⟩, e_re_p hi (by simp only [m_pure, m_ii, if_neg (fun q => h0 (e_zero.mp q))])⟩
  case iand =>
    cases h
    obtain ⟨a, rfl, rfl⟩ := e_v_int ht hv
    obtain ⟨b, rfl, rfl⟩ := e_v_int hu hv2
    cases he
    exact ⟨.inl (a &&& b), ⟨_, rfl, by unfold e_bit; rw [e_of, e_of]⟩, e_re_p hi rfl⟩
  case ior =>
    cases h
    obtain ⟨a, rfl, rfl⟩ := e_v_int ht hv
    obtain ⟨b, rfl, rfl⟩ := e_v_int hu hv2
    cases he
    exact ⟨.inl (a ||| b), ⟨_, rfl, by unfold e_bit; rw [e_of, e_of]⟩, e_re_p hi rfl⟩
  case ixor =>
    cases h
    obtain ⟨a, rfl, rfl⟩ := e_v_int ht hv
    obtain ⟨b, rfl, rfl⟩ := e_v_int hu hv2
    cases he
    exact ⟨.inl (a ^^^ b), ⟨_, rfl, by unfold e_bit; rw [e_of, e_of]⟩, e_re_p hi rfl⟩
  case ishl =>
    cases h
    obtain ⟨a, rfl, rfl⟩ := e_v_int ht hv
    obtain ⟨b, rfl, rfl⟩ := e_v_int hu hv2
    cases he
    exact ⟨.inl (a <<< (b &&& 31)), ⟨_, rfl, by unfold e_bit; rw [e_of, e_of]⟩, e_re_p hi rfl⟩
  case ishr =>
    cases h
    obtain ⟨a, rfl, rfl⟩ := e_v_int ht hv
    obtain ⟨b, rfl, rfl⟩ := e_v_int hu hv2
    cases he
    exact ⟨.inl (a >>> (b &&& 31)), ⟨_, rfl, by unfold e_bit; rw [e_of, e_of]⟩, e_re_p hi rfl⟩
  case iushr =>
    cases h
    obtain ⟨a, rfl, rfl⟩ := e_v_int ht hv
    obtain ⟨b, rfl, rfl⟩ := e_v_int hu hv2
    cases he
    exact ⟨.inl (a.toUInt32 >>> (b.toUInt32 &&& Int32.toUInt32 31)).toInt32, ⟨_, rfl, by unfold e_bit; rw [e_of, e_of]⟩, e_re_p hi rfl⟩
  case ladd =>
    cases h
    obtain ⟨a, rfl, rfl⟩ := (by have := e_v_kt hv; rw [ht] at this; exact this : e_v 1 x v)
    obtain ⟨b, rfl, rfl⟩ := (by have := e_v_kt hv2; rw [hu] at this; exact this : e_v 1 y v2)
    cases he
    exact ⟨.inr (.inl (a + b)), ⟨_, rfl, by rw [Int64.toInt_add]; exact e_Wb _⟩, e_re_p hi rfl⟩
  case lsub =>
    cases h
    obtain ⟨a, rfl, rfl⟩ := (by have := e_v_kt hv; rw [ht] at this; exact this : e_v 1 x v)
    obtain ⟨b, rfl, rfl⟩ := (by have := e_v_kt hv2; rw [hu] at this; exact this : e_v 1 y v2)
    cases he
    exact ⟨.inr (.inl (a - b)), ⟨_, rfl, by rw [Int64.toInt_sub]; exact e_Wb _⟩, e_re_p hi rfl⟩
  case lmul =>
    cases h
    obtain ⟨a, rfl, rfl⟩ := (by have := e_v_kt hv; rw [ht] at this; exact this : e_v 1 x v)
    obtain ⟨b, rfl, rfl⟩ := (by have := e_v_kt hv2; rw [hu] at this; exact this : e_v 1 y v2)
    cases he
    exact ⟨.inr (.inl (a * b)), ⟨_, rfl, by rw [Int64.toInt_mul]; exact e_Wb _⟩, e_re_p hi rfl⟩
  case ldiv =>
    cases h
    obtain ⟨a, rfl, rfl⟩ := (by have := e_v_kt hv; rw [ht] at this; exact this : e_v 1 x v)
    obtain ⟨b, rfl, rfl⟩ := (by have := e_v_kt hv2; rw [hu] at this; exact this : e_v 1 y v2)
    simp only [e_b2] at he
    split at he
    · cases he
    · rename_i h0
      cases he
      exact ⟨.inr (.inl (a / b)), ⟨_, rfl, by rw [Int64.toInt_div]; exact e_Wb _⟩, e_re_p hi (by simp only [m_pure, m_ll, if_neg (fun q => h0 (e_zeroL.mp q))])⟩
  all_goals cases h
theorem e_re_i1 {c : Nat × Nat × Nat} {t : Nat} {x z : Int} {v : MV} (hi : e_in mid pc = some i) (h : e_i1 i = some c) (ht : e_kt t = c.2.1) (hv : e_v t x v) (he : e_b1 c.1 x = some z) :
    ∃ q, e_v c.2.2 z q ∧ e_re ro d mid pc L (v :: st) w (pc + 1) L (q :: st) w := by
  cases i
  case ineg =>
    cases h
    obtain ⟨a, rfl, rfl⟩ := e_v_int ht hv
    cases he
    exact ⟨.inl (-a), ⟨_, rfl, by rw [Int32.toInt_neg]; exact e_wb _⟩, e_re_p hi rfl⟩
  case i2l =>
    cases h
    obtain ⟨a, rfl, rfl⟩ := e_v_int ht hv
    cases he
    exact ⟨.inr (.inl a.toInt64), ⟨_, rfl, Int32.toInt_toInt64 a⟩, e_re_p hi rfl⟩
  case l2i =>
    cases h
    obtain ⟨a, rfl, rfl⟩ := (by have := e_v_kt hv; rw [ht] at this; exact this : e_v 1 x v)
    cases he
    exact ⟨.inl a.toInt32, ⟨_, rfl, by rw [Int64.toInt_toInt32]; exact e_wb _⟩, e_re_p hi rfl⟩
  case i2b =>
    cases h
    obtain ⟨a, rfl, rfl⟩ := e_v_int ht hv
    cases he
    refine ⟨.inl a.toInt8.toInt32, ⟨_, rfl, ?_⟩, e_re_p hi rfl⟩
    rw [Int8.toInt_toInt32, Int32.toInt_toInt8]
    show Int.bmod _ 256 = _
    unfold Int.bmod
    dsimp only
    split <;> omega
  case i2s =>
    cases h
    obtain ⟨a, rfl, rfl⟩ := e_v_int ht hv
    cases he
    refine ⟨.inl a.toInt16.toInt32, ⟨_, rfl, ?_⟩, e_re_p hi rfl⟩
    rw [Int16.toInt_toInt32, Int32.toInt_toInt16]
    show Int.bmod _ 65536 = _
    unfold Int.bmod
    dsimp only
    split <;> omega
  all_goals cases h
/-! tables' facts -/
theorem e_q_ft : (q_ft.all fun l => l.all fun r => decide (r.2.1 < 13) && decide (r.2.2.1 < q_nf r.2.1)) = true := by decide +kernel
theorem e_q_f {idx ci k : Nat} (h : q_f mid idx = some (ci, k)) : ci < 13 ∧ k < q_nf ci := by
  unfold q_f q_ff at h
  split at h
  · rename_i v hv
    cases h
    have hm := q_find_mem hv
    rcases q_getD (L := q_ft) (i := q_oc mid) with e | e
    · rw [e] at hm; cases hm
    · have h2 := List.all_eq_true.mp (List.all_eq_true.mp e_q_ft _ e) _ hm
      simp only [Bool.and_eq_true, decide_eq_true_eq] at h2
      exact h2
  · cases h
end EOPS
