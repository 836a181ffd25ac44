section MCALL
variable {l : Launch} {base : Nat} {roa : Nat → Nat} {ro : MRo} {tA : Nat → ClassId} {D : va_G} {tys : List (ClassId × FieldType)} {XF : State → Heap → Prop}
theorem m_Pc_blind (hX : m_X3 base XF) {w : MWd} {As : List MV} : FrameBlind (m_Pc base roa ro tA D tys XF w As) := by
  intro a U g mk q
  obtain ⟨q0, q1, q2, q3⟩ := q
  exact ⟨q0, q1, m_G_same base roa ro tA D tys XF hX (s := U) (U := U.calling g mk a) rfl q2, q3⟩
end MCALL
