set_option maxHeartbeats 4000000 in
/-- the law's end -/
theorem x_end {p : Program} {e : Env} {s : State} {m : MethodId} {below : List Frame} {meth : Method} {c : Code} (l : Launch) (hflags : l.flags = flags0) {b L : Nat} {xs : Nat → Int32} (C0 : lw_At p s m meth c b L xs)
    {k : Nat} {w' : MWd} (h : m_run (x_ro L xs) k 60 274 0 [(0, .inr (.inr (some 0)))] [] (8, 0, 0, fun _ => (0, 0), fun _ _ => .inl 0) = some (.inl (some (.inl 1)), w')) (hc : mcx w' ≤ 601024) (hs : msl w' ≤ 7293034) :
    W p l e room_1 s m #[Value.ref b] below meth c s.heap [] 0 0 (lw_Z below #[Value.ref b] s) (entryFrame m ([Value.ref b] : List Value).toArray 8) := by
  obtain ⟨D, tA, tys, t1, t2, t3, t4, hG⟩ := x_entry C0
  obtain ⟨hx, hb, hr, hml, hown, hts, hX, hbl, hlocks, hgv⟩ := C0
  have hfl : l.stackTraces = false := by unfold Launch.stackTraces; rw [hflags]; decide +kernel
  have hok := m_sound (l := l) (roa := x_roa b t1 t2 t3 t4) (tA := tA) (D := D) (tys := tys) (x_X3 s.heap.size _) (x_Throw l hfl s.heap.size _) (x_Catch l s.heap.size _) (x_Stat l s.heap.size _) _ _ _ _ _ _ _ _ _ h
  rw [lg_entry_eq]
  have hl := m_ent_has (base := s.heap.size) (roa := x_roa b t1 t2 t3 t4) (cm := 274) (As := [.inr (.inr (some 0))]) (by decide +kernel)
  refine hok p e room_1 s m #[Value.ref b] below meth c s.heap [] 0 0 (mcx w') (msl w') _ _ hx hb hml hown (fun w hw => hts w (List.mem_filter.mp hw).1) (fun hi => absurd hi (by decide +kernel)) hG hl ?_ va_S.rf (Nat.le_refl _) (Nat.le_refl _) (fun _ => Nat.le_refl _) (by decide) (by decide) (Nat.le_trans hc (by decide)) (Nat.le_trans hs (by decide)) (Nat.zero_add _) (Nat.zero_add _) ?_ ?_ ?_
  · intro k q hk
    simp [m_ws] at hk
  · intro v hv i len pc ls H locs st hret hd hn hP hS
    cases hv
    refine va_forget (fun q hq => hS.2.2 q hq) ?_
    refine W.widen hc hs ?_
    unfold m_ret at hret
    split at hret
    · split at hret <;> cases hret
    · split at hret
      · cases hret
        have hd3 : decode code pc = .ok (.ireturn, 1) := by have e : 1 = len := hn.resolve_right (by decide); subst e; exact hd
        exact lw_ret hx hb hr hlocks hd3
      · split at hret
        · cases hret
          have hd3 : decode code pc = .ok (.ireturn, 1) := by have e : 1 = len := hn.resolve_right (by decide); subst e; exact hd
          exact lw_ret hx hb hr hlocks hd3
        · cases hret
      · cases hret
    · split at hret <;> cases hret
    · split at hret <;> cases hret
    · cases hret
  · intro E hE
    cases hE
  · intro pc E hh hq
    exact absurd hq (by rw [q_htt_no (by decide +kernel)]; exact fun h => by cases h)

