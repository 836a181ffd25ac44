def e_re (ro : MRo) (d mid pc : Nat) (L : ML) (st : List MV) (w : MWd) (pc' : Nat) (L' : ML) (st' : List MV) (w' : MWd) : Prop :=
  ∀ k o, m_run ro k d mid pc' L' st' w' = some o → ∃ k', m_run ro k' d mid pc L st w = some o
