section ECHK
variable {ro : MRo} {d mid hv : Nat} {K : Nat → List Int → EM → EO} {G : List (Nat × Nat)} {L : List Int} {ML1 : ML}
/-- a call -/
theorem e_re_call (HK : e_KOK ro K) (hvd : hv ≤ d) {u p h : Nat} {ts : List Nat} {xs : List Int} {vs st : List MV} {M : EM} {w : MWd} {r : Int × EM} (hcc : e_cc mid hv u ts p h = true) (hvs : e_vs ts xs vs) (hst : m_cats st = h) (hW : e_wr ro M w) (hK : K u xs M = some r) :
    ∃ o w', e_wr ro r.2 w' ∧ e_ok o (e_thr u) (e_rt (e_vm u)) r.1 ∧ ∀ n o2, m_aft ro n d mid p ML1 st w' o = some o2 → ∃ n', m_run ro n' d mid p ML1 (vs.reverse ++ st) w = some o2 := by
  unfold e_cc at hcc
  simp only [Bool.and_eq_true, decide_eq_true_eq] at hcc
  obtain ⟨⟨⟨⟨⟨c1, c2⟩, c3⟩, c4⟩, c5⟩, c6⟩ := hcc
  obtain ⟨k1, k2⟩ := HK u xs M r hK
  have hvs2 := e_fit_vs c2 hvs
  obtain ⟨d', rfl⟩ : ∃ d', d = d' + 1 := ⟨d - 1, by omega⟩
  obtain ⟨k, o, w', g1, g2, g3⟩ := k2 d' vs w (by omega) hvs2 c3 c5 hW
  refine ⟨o, w', g2, g3, ?_⟩
  have hcat := e_vs_cat hvs2
  have hlen := e_vs_len hvs2
  subst hst
  intro n o2 hn
  have key : ∀ (i : Instr) (hi : e_in mid p = some i) (hz : m_call mid i (vs.reverse ++ st) w = some (e_vm u, vs, st))
      (hk : (∃ idx kd, i = .invokestatic idx ∧ q_m mid idx = some (e_vm u, kd) ∧ (kd = 1 ∨ kd = 3 ∨ kd = 7)) ∨ (∃ idx, i = .invokevirtual idx) ∨ (∃ idx kd, i = .invokespecial idx ∧ q_m mid idx = some (e_vm u, kd) ∧ (kd = 2 ∨ kd = 6))), ∃ n', m_run ro n' (d' + 1) mid p ML1 (vs.reverse ++ st) w = some o2 := by
    intro i hi hz hk
    obtain ⟨h1, h2⟩ := e_in_ok hi
    refine ⟨max k n + 1, ?_⟩
    rw [m_run_call (z := (e_vm u, vs, st)) h1 h2 hz hk (m_run_le g1 (Nat.le_max_left _ _))]
    revert hn
    rcases o with v | E
    · exact fun hn => m_run_le hn (Nat.le_max_right _ _)
    · intro hn
      simp only [m_aft] at hn ⊢
      split at hn
      · cases hn
      · exact m_run_le hn (Nat.le_max_right _ _)
  split at c6
  · rename_i idx hi
    split at c6
    · rename_i cm kd hq
      simp only [Bool.and_eq_true, Bool.or_eq_true, decide_eq_true_eq] at c6
      obtain ⟨⟨rfl, c7⟩, c8⟩ := c6
      have hkd : kd = 1 ∨ kd = 3 ∨ kd = 7 := by rcases c7 with (h | h) | h <;> omega
      obtain ⟨t1, t2, t3⟩ := e_take (st := st) (show q_np (e_vm u) = vs.length by rw [← c8]; exact hlen.1)
      refine key _ hi ?_ (Or.inl ⟨idx, kd, rfl, hq, hkd⟩)
      simp only [m_call, hq]
      rw [t1, t2, if_pos ⟨hkd, t3, c4, by rw [hcat]; exact c3⟩]
    · cases c6
  · rename_i idx hi
    split at c6
    · rename_i cm kd hq
      simp only [Bool.and_eq_true, decide_eq_true_eq] at c6
      obtain ⟨⟨⟨⟨rfl, rfl⟩, c7⟩, c8⟩, c9⟩ := c6
      unfold e_rok at k1
      cases hrc : q_rc (e_vm u) with
      | none => rw [hrc] at c9; cases c9
      | some ci =>
        rw [hrc] at k1
        obtain ⟨r1, r2, r3⟩ := of_decide_eq_true k1
        match hP : e_pt u, xs, vs, hvs2 with
        | [], _, _, _ => rw [hP] at c7; simp at c7
        | t :: P, x :: xs', v :: vs', hvs3 =>
          rw [hP] at c8 c7 hlen
          simp at c8 c7 r1 r2 r3 hlen
          subst c8
          have hv := e_v2 hvs3.1 (by omega)
          subst hv
          obtain ⟨t1, t2, t3⟩ := e_take (vs := vs') (st := .inr (.inr (some x.toNat)) :: st) (show q_np (e_vm u) = vs'.length by omega)
          obtain ⟨w1, w2, -⟩ := hW
          have h8 : 8 ≤ x.toNat := by omega
          refine key _ hi ?_ (Or.inr (Or.inl ⟨idx, rfl⟩))
          have happ : ((.inr (.inr (some x.toNat)) : MV) :: vs').reverse ++ st = vs'.reverse ++ .inr (.inr (some x.toNat)) :: st := by simp
          rw [happ]
          simp only [m_call, hq]
          rw [t2]
          dsimp only
          have hlo : (e_sh x.toNat).1 < 100 := by
            have := e_rc_lt hrc
            omega
          rw [t1, if_pos ⟨trivial, t3, c4, by rw [hcat]; exact c3, h8, by rw [w1]; exact r2, by rw [w2 _ h8 r2]; exact hlo, by rw [hrc, w2 _ h8 r2, r3]⟩]
    · cases c6
  · cases c6
end ECHK
