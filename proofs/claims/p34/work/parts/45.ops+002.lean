section EOPS
variable {ro : MRo} {d mid pc : Nat} {L : ML} {st : List MV} {w : MWd} {i : Instr}
theorem e_re_alen {M : EM} {x z : Int} {v : MV} (hi : e_in mid pc = some .arraylength) (hW : e_wr ro M w) (hv : e_v 2 x v) (he : e_op 63 [x] M = some z) :
    ∃ q, e_v 0 z q ∧ e_re ro d mid pc L (v :: st) w (pc + 1) L (q :: st) w := by
  obtain ⟨w1, w2, w3, -, -, -, w7⟩ := hW
  simp only [e_op, if_pos] at he
  split at he
  · rename_i hc
    obtain ⟨c1, c2, c3⟩ := hc
    cases he
    have hv3 := e_v2 hv c1
    subst hv3
    by_cases h8 : x.toNat < 8
    · have := e_sh_lo _ h8
      obtain ⟨n, f, k1, k2, k3, k4⟩ := w7 _ h8 (by omega)
      refine ⟨.inl (Int32.ofNat n), ⟨_, rfl, by rw [k2]; exact Int32.toInt_ofNat_of_lt k3⟩, ?_⟩
      refine e_re_h (r := (.inl (Int32.ofNat n) :: st, w)) hi rfl ?_
      simp only [m_heap]
      rw [if_pos h8, k1]
    · have h8' : 8 ≤ x.toNat := by omega
      have hs := e_sh_ok h8' c2
      rw [if_neg (by omega)] at hs
      have hsz : e_sz M x.toNat = (e_sh x.toNat).2 := if_neg (by omega)
      have hk : (e_sh x.toNat).1 ≤ 101 ∨ q_ra ((e_sh x.toNat).1 - 102) = true := by
        rcases hs.2 with h | h | h
        · exact Or.inl (by omega)
        · exact Or.inl (by omega)
        · exact Or.inr h
      refine ⟨.inl (Int32.ofNat (e_sh x.toNat).2), ⟨_, rfl, by rw [hsz]; exact Int32.toInt_ofNat_of_lt (by omega)⟩, ?_⟩
      refine e_re_h (r := (.inl (Int32.ofNat (e_sh x.toNat).2) :: st, w)) hi rfl ?_
      simp only [m_heap]
      rw [if_neg h8, if_pos ⟨by rw [w1]; exact c2, by rw [w2 _ h8' c2]; exact c3, by rw [w2 _ h8' c2]; exact hk⟩, w2 _ h8' c2]
  · cases he
end EOPS
