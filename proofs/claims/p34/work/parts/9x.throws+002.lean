theorem x_Throw (l : Launch) (hfl : l.stackTraces = false) (base : Nat) (roa : Nat → Nat) : m_Throw l base (x_XF base roa) := by
  intro mid pc E hth p e R s m args below meth c H locs mc ms ls Qc XC hx hb hown hts hXF
  exact x_ThrowG l hfl base mid pc E hth p e R s m args below meth c H locs mc ms ls Qc XC hx hb hown hts hXF.1
theorem x_Catch (l : Launch) (base : Nat) (roa : Nat → Nat) : m_Catch l (x_XF base roa) := by
  intro mid pc E hh hq p e R s m args below meth c H locs cells slots Z ls rest q ce L ad hx hb hown hts hXF
  exact x_CatchG l base mid pc E hh hq p e R s m args below meth c H locs cells slots Z ls rest q ce L ad hx hb hown hts hXF.1

