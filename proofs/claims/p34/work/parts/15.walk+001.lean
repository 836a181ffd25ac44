section MWALK
variable (l : Launch) (base : Nat) (roa : Nat → Nat) (ro : MRo) (tA : Nat → ClassId) (D : va_G) (tys : List (ClassId × FieldType)) (XF : State → Heap → Prop)
variable {l base roa ro tA D tys XF}
theorem m_ent_has {cm : Nat} {As : List MV} (h : m_cats As ≤ q_nl cm) : lv_has ((lg_sl (As.map (m_val (m_ad base roa))) ++ List.replicate (q_nl cm - (lg_sl (As.map (m_val (m_ad base roa)))).length) Slot.unset).toArray) (q_nl cm) (ml_val (m_ad base roa) (m_ent 0 As)) := by
  have h1 := lv_entry (As.map (m_val (m_ad base roa))) (n := q_nl cm) (by rw [m_sl_len]; exact h)
  rw [m_ent_val] at h1
  exact h1
/-- a callee that returns -/
theorem m_met {cm d : Nat} {As : List MV} {v : Option MV} {w w1 : MWd} (hc : q_good cm) (hcats : m_cats As ≤ q_nl cm) (h8 : 8 ≤ mnx w) (hnc : mnx w ≤ mcx w + 8) (hnoh : ∀ pc E, q_h cm pc E = none)
    (h : m_Ok l base roa ro tA D tys XF d cm 0 (m_ent 0 As) [] w (.inl v) w1) :
    Met l (q_y cm) (m_wd cm) (m_rm d w w1) (m_Pc base roa ro tA D tys XF w As) (m_Qc base roa tA D v w1) (mcx w1 - mcx w) (msl w1 - msl w) (fun q => base ≤ q) := by
  refine Met.ofW (cc := q_b cm) (maxL := q_nl cm) (ret := q_rt cm) hc.2.2.1 rfl ?_
  intro p e s m args below meth c s₁ B hml hv
  obtain ⟨rfl, hP, hG, hfr⟩ := hv
  have hx := B.exec
  have hb := B.bytes
  have hr := B.returns
  have hts := atoms_spec (ws := m_wd cm) B.pre
  have hown : s.vm.findClass (q_y cm).cls = some m.cls := findClass_of_methodNamed B.named
  have hlocks := B.notSynchronized
  have hname : meth.name = (q_y cm).name := (name_of_methodNamed B.named B.method).1
  rw [lg_entry_eq]
  refine h p e _ s m _ below meth c s.heap [] 0 0 (mcx w1 - mcx w) (msl w1 - msl w) _ _ hx hb hml hown (fun w' hw' => hts w' (List.mem_cons_of_mem _ hw')) (fun hi => hname.trans hi) hG (m_ent_has hcats) hP va_S.rf h8 hnc (fun hf => by rw [Nat.add_zero]; exact hfr hf) (Nat.le_refl _) (Nat.le_refl _) (Nat.le_refl _) (Nat.le_refl _) (Nat.zero_add _) (Nat.zero_add _) ?_ ?_ ?_
  · intro v' hv' i len pc ls H locs st hret hd hn hP1 hS1
    cases hv'
    exact m_ret_W hx hb hr hlocks hret hd hn (fun t ht hW => ⟨rfl, by rw [ht]; exact hP1, hS1.F ht⟩) (fun q hq => hS1.2.2 q hq)
  · intro E hE
    cases hE
  · intro pc E hh hq
    rw [hnoh pc E] at hq
    cases hq
end MWALK
