section
section MWALK
variable (l : Launch) (base : Nat) (roa : Nat → Nat) (ro : MRo) (tA : Nat → ClassId) (D : va_G) (tys : List (ClassId × FieldType)) (XF : State → Heap → Prop)
/-- what holds of the machine at every frame -/
def m_G (U : State) (H : Heap) : Prop :=
  va_K D vwCl tys U ∧ m_tys tA tys ∧ (∀ a n f, a < 8 → ro a = some (n, f) → va_T .int (roa a) n (fun j => Value.int (f j)) (fun q => base ≤ q) U H ∧ roa a < H.size ∧ ¬ base ≤ roa a) ∧ (∀ q ∈ q_N, va_Nw (.methodLinkNest q.1 q.2.1 q.2.2.1 q.2.2.2) U) ∧
  (∀ (ci : Nat) (C : String) (T : u_T) (N : Nat), q_ra ci = true → vwCl[ci]? = some (C, T, N) → va_AO C U) ∧ XF U H ∧ base ≤ H.size
def m_X3 : Prop := (∀ (u U : State) (H : Heap), u.WarmedH U.vm → XF u H → XF U H) ∧ (∀ (u U : State) (H : Heap), u.vm = U.vm → XF u H → XF U H) ∧ (∀ (U : State) (H H1 : Heap), (∀ a, a < base → H1[a]? = H[a]?) → H.size ≤ H1.size → XF U H → XF U H1)
theorem m_G_warm (hX : m_X3 base XF) {s U : State} {H : Heap} (hW : s.WarmedH U.vm) (h : m_G base roa ro tA D tys XF s H) : m_G base roa ro tA D tys XF U H := by
  obtain ⟨h1, h2, h3, h4, h5, h6, h7⟩ := h
  exact ⟨va_K.moved hW.alike h1, h2, fun a n f ha hf => by obtain ⟨g1, g2, g3⟩ := h3 a n f ha hf; exact ⟨g1.moved hW.alike, g2, g3⟩, fun q hq => va_Nw.warmM hW (h4 q hq), fun ci C T N ha hc => (h5 ci C T N ha hc).moved hW.alike, hX.1 s U H hW h6, h7⟩
theorem m_G_same (hX : m_X3 base XF) {s U : State} {H : Heap} (hv : s.vm = U.vm) (h : m_G base roa ro tA D tys XF s H) : m_G base roa ro tA D tys XF U H := by
  obtain ⟨h1, h2, h3, h4, h5, h6, h7⟩ := h
  have hA : s.vm.Alike U.vm := by rw [hv]; exact Vm.Alike.refl _
  exact ⟨va_K.moved hA h1, h2, fun a n f ha hf => by obtain ⟨g1, g2, g3⟩ := h3 a n f ha hf; exact ⟨g1.moved hA, g2, g3⟩, fun q hq => va_Nw.same rfl hv (h4 q hq), fun ci C T N ha hc => (h5 ci C T N ha hc).moved hA, hX.2.1 s U H hv h6, h7⟩
theorem m_G_kept (hX : m_X3 base XF) {U : State} {H H1 : Heap} (ho : ∀ a, a < base → H1[a]? = H[a]?) (hs : H.size ≤ H1.size) (h : m_G base roa ro tA D tys XF U H) : m_G base roa ro tA D tys XF U H1 := by
  obtain ⟨h1, h2, h3, h4, h5, h6, h7⟩ := h
  exact ⟨h1, h2, fun a n f ha hf => by obtain ⟨g1, g2, g3⟩ := h3 a n f ha hf; exact ⟨g1.kept (fun q _ hn => ho q (Nat.lt_of_not_le hn)), Nat.lt_of_lt_of_le g2 hs, g3⟩, h4, h5, hX.2.2 U H H1 ho hs h6, Nat.le_trans h7 hs⟩
def m_Pc (w : MWd) (As : List MV) : Array Value → State → Prop := va_Pc (As.map (m_val (m_ad base roa))) (fun U => va_P D vwCl (m_ws base roa tA w) U.heap ∧ m_G base roa ro tA D tys XF U U.heap ∧ (mcx w + 8 = mnx w → U.heap.size ≤ base + mcx w))
def m_Qc (v : Option MV) (w1 : MWd) : Array Value → State → Outcome → State → Prop := fun _ st o t => o = .returned (v.map (m_val (m_ad base roa))) ∧ va_P D vwCl (m_ws base roa tA w1) t.heap ∧ va_F (fun q => base ≤ q) st t
def m_XC (E0 : String) (w1 : MWd) : String → State → State → Prop := fun E st t => E = E0 ∧ va_P D vwCl (m_ws base roa tA w1) t.heap ∧ va_F (fun q => base ≤ q) st t
def m_rm (d : Nat) (w w1 : MWd) : Room := { frames := d, cells := mcx w1 - mcx w, slots := msl w1 - msl w, locals := 64 * d }
def m_wd (cm : Nat) : List Cond := Cond.code (q_y cm) (q_b cm) (q_nl cm) (q_rt cm) :: q_W
/-- the Java machine, at this frame, comes where the small one comes -/
def m_Ok (d mid pc : Nat) (L : ML) (st : List MV) (w : MWd) (o : MOut) (w' : MWd) : Prop :=
  ∀ (p : Program) (e : Env) (R : Room) (s : State) (m : MethodId) (args : Array Value) (below : List Frame) (meth : Method) (c : Code) (H : Heap) (locs : List Loc) (cells slots kc ks : Nat) (Z : State → Prop) (ls : Array Slot),
    p.tables.exec = Jvm.exec → c.code = q_b mid → c.maxLocals = q_nl mid → s.vm.findClass (q_y mid).cls = some m.cls → (∀ w ∈ q_W, w.before args s = true) → ((q_y mid).name = "<init>" → meth.name = "<init>") →
    m_G base roa ro tA D tys XF s s.heap → lv_has ls (q_nl mid) (ml_val (m_ad base roa) L) → va_P D vwCl (m_ws base roa tA w) H → va_S (fun q => base ≤ q) s.heap H locs → 8 ≤ mnx w → mnx w ≤ mcx w + 8 → (mcx w + 8 = mnx w → s.heap.size + cells ≤ base + mcx w) →
    d ≤ R.frames → 64 * d ≤ R.locals → kc ≤ R.cells → ks ≤ R.slots → cells + (mcx w' - mcx w) = kc → slots + (msl w' - msl w) = ks →
    (∀ v, o = .inl v → ∀ (i : Instr) (len pc : Nat) (ls : Array Slot) (H : Heap) (locs : List Loc) (st : List MV), m_ret mid i st = some v → decode (q_b mid) pc = .ok (i, len) → (m_len i = len ∨ m_len i = 0) → va_P D vwCl (m_ws base roa tA w') H → va_S (fun q => base ≤ q) s.heap H locs → W p l e R s m args below meth c H locs kc ks Z (F0 m pc ls (st.map (m_val (m_ad base roa))))) →
    (∀ E, o = .inr E → ∀ (pc : Nat) (ls : Array Slot) (H : Heap) (locs : List Loc) (w2 : MWd), q_th mid pc = some E → w' = m_thr w2 → ls.size = c.maxLocals → 10 ≤ R.frames → 640 ≤ R.locals → 1 ≤ kc → 6 ≤ ks → va_P D vwCl (m_ws base roa tA w2) H → va_S (fun q => base ≤ q) s.heap H locs → W p l e R s m args below meth c H locs (kc - 1) (ks - 6) Z (F0 m pc ls [])) →
    (∀ (pc : Nat) (E : String) (hh : Nat × Nat), q_h mid pc E = some hh → ∀ (H : Heap) (locs : List Loc) (cells slots : Nat) (L : ML) (ls : Array Slot) (rest : List Value) (q : Addr) (ce : Cell), lv_has ls (q_nl mid) (ml_val (m_ad base roa) L) → H[q]? = some ce → ce.vm = .none → s.vm.findClass E = some ce.cls →
      (∀ ls' : Array Slot, lv_has ls' (q_nl mid) (ml_val (m_ad base roa) (m_drop L hh.2)) → W p l e R s m args below meth c H locs cells slots Z (F0 m hh.1 ls' [])) → vx_W p l e R s m args below meth c H locs cells slots Z (F0 m pc ls rest) q) →
    W p l e R s m args below meth c H locs cells slots Z (F0 m pc ls (st.map (m_val (m_ad base roa))))
variable {l base roa ro tA D tys XF}
theorem m_ent_has {cm : Nat} {As : List MV} (h : m_cats As ≤ q_nl cm) : lv_has ((lg_sl (As.map (m_val (m_ad base roa))) ++ List.replicate (q_nl cm - (lg_sl (As.map (m_val (m_ad base roa)))).length) Slot.unset).toArray) (q_nl cm) (ml_val (m_ad base roa) (m_ent 0 As)) := by
  have h1 := lv_entry (As.map (m_val (m_ad base roa))) (n := q_nl cm) (by rw [m_sl_len]; exact h)
  rw [m_ent_val] at h1
  exact h1
/-- a callee that returns -/
theorem m_met {cm d : Nat} {As : List MV} {v : Option MV} {w w1 : MWd} (hc : q_good cm) (hcats : m_cats As ≤ q_nl cm) (h8 : 8 ≤ mnx w) (hnc : mnx w ≤ mcx w + 8) (hnoh : ∀ pc E, q_h cm pc E = none)
    (h : m_Ok l base roa ro tA D tys XF d cm 0 (m_ent 0 As) [] w (.inl v) w1) :
    Met l (q_y cm) (m_wd cm) (m_rm d w w1) (m_Pc base roa ro tA D tys XF w As) (m_Qc base roa tA D v w1) (mcx w1 - mcx w) (msl w1 - msl w) (fun q => base ≤ q) := by
  refine Met.ofW (cc := q_b cm) (maxL := q_nl cm) (ret := q_rt cm) hc.2.2.1 rfl ?_
  intro p e s m args below meth c s₁ B hml hv
  obtain ⟨rfl, hP, hG, hfr⟩ := hv
  have hx := B.exec
  have hb := B.bytes
  have hr := B.returns
  have hts := atoms_spec (ws := m_wd cm) B.pre
  have hown : s.vm.findClass (q_y cm).cls = some m.cls := findClass_of_methodNamed B.named
  have hlocks := B.notSynchronized
  have hname : meth.name = (q_y cm).name := (name_of_methodNamed B.named B.method).1
  rw [lg_entry_eq]
  refine h p e _ s m _ below meth c s.heap [] 0 0 (mcx w1 - mcx w) (msl w1 - msl w) _ _ hx hb hml hown (fun w' hw' => hts w' (List.mem_cons_of_mem _ hw')) (fun hi => hname.trans hi) hG (m_ent_has hcats) hP va_S.rf h8 hnc (fun hf => by rw [Nat.add_zero]; exact hfr hf) (Nat.le_refl _) (Nat.le_refl _) (Nat.le_refl _) (Nat.le_refl _) (Nat.zero_add _) (Nat.zero_add _) ?_ ?_ ?_
  · intro v' hv' i len pc ls H locs st hret hd hn hP1 hS1
    cases hv'
    exact m_ret_W hx hb hr hlocks hret hd hn (fun t ht hW => ⟨rfl, by rw [ht]; exact hP1, hS1.F ht⟩) (fun q hq => hS1.2.2 q hq)
  · intro E hE
    cases hE
  · intro pc E hh hq
    rw [hnoh pc E] at hq
    cases hq
end MWALK
end
section
section MCALL
variable {l : Launch} {base : Nat} {roa : Nat → Nat} {ro : MRo} {tA : Nat → ClassId} {D : va_G} {tys : List (ClassId × FieldType)} {XF : State → Heap → Prop}
/-- a throw of its own leaves the frame -/
def m_Throw (l : Launch) (base : Nat) (XF : State → Heap → Prop) : Prop :=
  ∀ (mid pc : Nat) (E : String), q_th mid pc = some E → ∀ (p : Program) (e : Env) (R : Room) (s : State) (m : MethodId) (args : Array Value) (below : List Frame) (meth : Method) (c : Code) (H : Heap) (locs : List Loc) (mc ms : Nat) (ls : Array Slot) (Qc : Array Value → State → Outcome → State → Prop) (XC : String → State → State → Prop),
    p.tables.exec = Jvm.exec → c.code = q_b mid → s.vm.findClass (q_y mid).cls = some m.cls → (∀ w ∈ q_W, w.before args s = true) → XF s s.heap → base ≤ s.heap.size → (∀ x ∈ c.exceptionTable.toList, False) → meth.locks = false →
    10 ≤ R.frames → 640 ≤ R.locals → mc ≤ R.cells → ms ≤ R.slots → 1 ≤ mc → 6 ≤ ms → ls.size = c.maxLocals → va_S (fun q => base ≤ q) s.heap H locs →
    (∀ t : State, s.vm.Alike t.vm → H.size ≤ t.heap.size → (∀ q : Nat, q < H.size → t.heap[q]? = H[q]?) → XC E s t) →
    W p l e R s m args below meth c H locs (mc - 1) (ms - 6) (vx_MQ below Qc XC args s mc ms (fun q => base ≤ q)) (F0 m pc ls [])
/-- the static tables: a getstatic gives the table's place -/
def m_Stat (l : Launch) (base : Nat) (roa : Nat → Nat) (XF : State → Heap → Prop) : Prop :=
  ∀ (mid pc idx a : Nat), q_s mid idx = some a → ∀ (p : Program) (e : Env) (R : Room) (s : State) (m : MethodId) (args : Array Value) (below : List Frame) (meth : Method) (c : Code) (H : Heap) (locs : List Loc) (cells slots : Nat) (Z : State → Prop) (ls : Array Slot) (rest : List Value),
    p.tables.exec = Jvm.exec → c.code = q_b mid → s.vm.findClass (q_y mid).cls = some m.cls → (∀ w ∈ q_W, w.before args s = true) → XF s s.heap → va_S (fun q => base ≤ q) s.heap H locs → decode (q_b mid) pc = .ok (.getstatic idx, 3) →
    W p l e R s m args below meth c H locs cells slots Z (F0 m (pc + 3) ls (.ref (roa a) :: rest)) → W p l e R s m args below meth c H locs cells slots Z (F0 m pc ls rest)
/-- a throw of a callee's is caught by this method's table -/
def m_Catch (l : Launch) (XF : State → Heap → Prop) : Prop :=
  ∀ (mid pc : Nat) (E : String) (hh : Nat × Nat), q_h mid pc E = some hh → ∀ (p : Program) (e : Env) (R : Room) (s : State) (m : MethodId) (args : Array Value) (below : List Frame) (meth : Method) (c : Code) (H : Heap) (locs : List Loc) (cells slots : Nat) (Z : State → Prop) (ls : Array Slot) (rest : List Value) (q : Addr) (ce : Cell) (L : ML) (ad : Nat → Nat),
    p.tables.exec = Jvm.exec → c.code = q_b mid → s.vm.findClass (q_y mid).cls = some m.cls → (∀ w ∈ q_W, w.before args s = true) → XF s s.heap → c.exceptionTable.toList = tableOf (q_hh mid) →
    lv_has ls (q_nl mid) (ml_val ad L) → H[q]? = some ce → ce.vm = .none → s.vm.findClass E = some ce.cls →
    (∀ ls' : Array Slot, lv_has ls' (q_nl mid) (ml_val ad (m_drop L hh.2)) → W p l e R s m args below meth c H locs cells slots Z (F0 m hh.1 ls' [])) →
    vx_W p l e R s m args below meth c H locs cells slots Z (F0 m pc ls rest) q
def m_wd7 (cm : Nat) : List Cond := Cond.codeWith (q_y cm) (q_b cm) (q_nl cm) (q_rt cm) (q_hh cm) :: q_W
/-- a callee that throws -/
theorem m_metx (hT : m_Throw l base XF) {cm d : Nat} {As : List MV} {E : String} {w w1 : MWd} (hc : q_good cm) (hcats : m_cats As ≤ q_nl cm) (h8 : 8 ≤ mnx w) (hnc : mnx w ≤ mcx w + 8) (hnoh : ∀ pc E, q_h cm pc E = none) (hg : m_gr w w1)
    (h : m_Ok l base roa ro tA D tys XF d cm 0 (m_ent 0 As) [] w (.inr E) w1) (Qc : Array Value → State → Outcome → State → Prop) :
    vx_Met l (q_y cm) (m_wd cm) (m_rm d w w1) (m_Pc base roa ro tA D tys XF w As) Qc (m_XC base roa tA D E w1) (mcx w1 - mcx w) (msl w1 - msl w) (fun q => base ≤ q) := by
  refine vx_ofW (cc := q_b cm) (maxL := q_nl cm) (ret := q_rt cm) hc.2.2.1 rfl ?_
  intro p e s m args below meth c s₁ B hml hnt hv
  obtain ⟨rfl, hP, hG, hfr⟩ := hv
  have hx := B.exec
  have hb := B.bytes
  have hts := atoms_spec (ws := m_wd cm) B.pre
  have hts2 : ∀ w ∈ q_W, w.before _ s = true := fun w' hw' => hts w' (List.mem_cons_of_mem _ hw')
  have hown : s.vm.findClass (q_y cm).cls = some m.cls := findClass_of_methodNamed B.named
  have hlocks := B.notSynchronized
  have hname : meth.name = (q_y cm).name := (name_of_methodNamed B.named B.method).1
  rw [lg_entry_eq]
  refine h p e _ s m _ below meth c s.heap [] 0 0 (mcx w1 - mcx w) (msl w1 - msl w) _ _ hx hb hml hown hts2 (fun hi => hname.trans hi) hG (m_ent_has hcats) hP va_S.rf h8 hnc (fun hf => by rw [Nat.add_zero]; exact hfr hf) (Nat.le_refl _) (Nat.le_refl _) (Nat.le_refl _) (Nat.le_refl _) (Nat.zero_add _) (Nat.zero_add _) ?_ ?_ ?_
  · intro v' hv'
    cases hv'
  · intro E' hE pc ls H locs w2 hth hw2 hsz hf10 hl640 hk1 hk6 hP1 hS1
    cases hE
    refine hT cm pc E hth p e _ s m _ below meth c H locs _ _ ls Qc _ hx hb hown hts2 hG.2.2.2.2.2.1 hG.2.2.2.2.2.2 hnt hlocks hf10 hl640 (Nat.le_refl _) (Nat.le_refl _) hk1 hk6 hsz hS1 (fun t hA hs hq => ⟨rfl, ?_, Nat.le_trans hS1.1 hs, fun q h1 h2 => (hq q (Nat.lt_of_lt_of_le h1 hS1.1)).trans (hS1.2.1 q h1 h2)⟩)
    rw [hw2]
    exact hP1.kept (fun k q hk => hq q.1 ((hP1 k q hk).lt))
  · intro pc E hh hq
    rw [hnoh pc E] at hq
    cases hq
/-- a callee with a table of its own -/
theorem m_met7 (hC : m_Catch l XF) {cm d : Nat} {As : List MV} {v : Option MV} {w w1 : MWd} (hc : q_good cm) (hcats : m_cats As ≤ q_nl cm) (h8 : 8 ≤ mnx w) (hnc : mnx w ≤ mcx w + 8)
    (h : m_Ok l base roa ro tA D tys XF d cm 0 (m_ent 0 As) [] w (.inl v) w1) :
    Met l (q_y cm) (m_wd7 cm) (m_rm d w w1) (m_Pc base roa ro tA D tys XF w As) (m_Qc base roa tA D v w1) (mcx w1 - mcx w) (msl w1 - msl w) (fun q => base ≤ q) := by
  have hM : vx_Met l (q_y cm) (m_wd7 cm) (m_rm d w w1) (m_Pc base roa ro tA D tys XF w As) (m_Qc base roa tA D v w1) (fun _ _ _ => False) (mcx w1 - mcx w) (msl w1 - msl w) (fun q => base ≤ q) := by
    refine vx_ofWH (cc := q_b cm) (maxL := q_nl cm) (ret := q_rt cm) (hh := q_hh cm) hc.2.2.1 rfl ?_
    intro p e s m args below meth c s₁ B hml hv
    obtain ⟨rfl, hP, hG, hfr⟩ := hv
    have hx := B.exec
    have hb := B.bytes
    have hr := B.returns
    have hts := atoms_spec (ws := m_wd7 cm) B.pre
    have hts2 : ∀ w ∈ q_W, w.before _ s = true := fun w' hw' => hts w' (List.mem_cons_of_mem _ hw')
    have hown : s.vm.findClass (q_y cm).cls = some m.cls := findClass_of_methodNamed B.named
    have hlocks := B.notSynchronized
    have hname : meth.name = (q_y cm).name := (name_of_methodNamed B.named B.method).1
    have htab := vx_table (x := q_y cm) B (hts _ List.mem_cons_self)
    rw [lg_entry_eq]
    refine h p e _ s m _ below meth c s.heap [] 0 0 (mcx w1 - mcx w) (msl w1 - msl w) _ _ hx hb hml hown hts2 (fun hi => hname.trans hi) hG (m_ent_has hcats) hP va_S.rf h8 hnc (fun hf => by rw [Nat.add_zero]; exact hfr hf) (Nat.le_refl _) (Nat.le_refl _) (Nat.le_refl _) (Nat.le_refl _) (Nat.zero_add _) (Nat.zero_add _) ?_ ?_ ?_
    · intro v' hv' i len pc ls H locs st hret hd hn hP1 hS1
      cases hv'
      exact vx_ret (m_ret_W hx hb hr hlocks hret hd hn (fun t ht hW => ⟨rfl, by rw [ht]; exact hP1, hS1.F ht⟩) (fun q hq => hS1.2.2 q hq))
    · intro E hE
      cases hE
    · intro pc E hh hq H locs cells slots L ls rest q ce hl hce hcv hcl kk
      exact hC cm pc E hh hq p e _ s m _ below meth c H locs cells slots _ ls rest q ce L _ hx hb hown hts2 hG.2.2.2.2.2.1 htab hl hce hcv hcl kk
  refine MetFree.mono hM (fun _ _ h => h) (fun _ _ _ _ _ h => h) (fun a st o t _ hq => ?_)
  rcases hq with hq | ⟨q, -, E, ce, L, hF, -⟩
  · exact hq
  · exact hF.elim
section
variable {p : Program} {e : Env} {R : Room} {s : State} {m : MethodId} {args : Array Value} {below : List Frame} {meth : Method} {c : Code} {H : Heap} {locs : List Loc} {cells slots : Nat} {Q : State → Prop} {pc : Nat} {ls : Array Slot} {mc ms : Nat}
theorem m_callr {v : Option MV} {w1 : MWd} {a : Array Value} {st0 rest : List Value} (hr : va_Run p l e R s m args below meth c H locs cells slots mc ms (F0 m pc ls st0) rest (m_Qc base roa tA D v w1 a) (fun q => base ≤ q)) (hS : va_S (fun q => base ≤ q) s.heap H locs)
    (kk : ∀ (H1 : Heap) (locs1 : List Loc), va_P D vwCl (m_ws base roa tA w1) H1 → va_S (fun q => base ≤ q) s.heap H1 locs1 → W p l e R s m args below meth c H1 locs1 (cells + mc) (slots + ms) Q (F0 m (pc + 3) ls ((v.map (m_val (m_ad base roa))).toList ++ rest))) : W p l e R s m args below meth c H locs cells slots Q (F0 m pc ls st0) := by
  intro T hT X
  obtain ⟨v', st₀, t, T', L, h0, X', hL, e1, e2, ⟨hv, hP1, hF⟩, st⟩ := hr T hT X
  cases hv
  obtain ⟨k1, k2, k3⟩ := vx_keep h0 e1 hS (fun q _ h => h) (fun q h => h) hL hF
  obtain ⟨t2, a1, b1⟩ := kk T'.heap (locs ++ L) (by rw [e1]; exact hP1) k3 T' rfl X'
  exact ⟨t2, st t2 a1, b1⟩
theorem m_callx {E : String} {w1 : MWd} {st0 rest : List Value} (hr : vx_Run p l e R s m args below meth c H locs cells slots mc ms (F0 m pc ls st0) rest (fun _ _ _ => False) (m_XC base roa tA D E w1) (fun q => base ≤ q)) (hS : va_S (fun q => base ≤ q) s.heap H locs)
    (kk : ∀ (H1 : Heap) (locs1 : List Loc) (q : Addr) (ce : Cell), va_P D vwCl (m_ws base roa tA w1) H1 → va_S (fun q => base ≤ q) s.heap H1 locs1 → H1[q]? = some ce → ce.vm = .none → s.vm.findClass E = some ce.cls → vx_W p l e R s m args below meth c H1 locs1 (cells + mc) (slots + ms) Q (F0 m pc ls rest) q) : W p l e R s m args below meth c H locs cells slots Q (F0 m pc ls st0) := by
  intro T hT X
  rcases hr T hT X with ⟨v, st₀, t, T', L, h0, X', hL, e1, e2, hq, st⟩ | ⟨q, st₀, t, T', L, E', ce, h0, X', hL, e1, e2, ⟨hE, hP1, hF⟩, hce, hcv, hcl, st⟩
  · exact hq.elim
  · subst hE
    obtain ⟨k1, k2, k3⟩ := vx_keep h0 e1 hS (fun q _ h => h) (fun q h => h) hL hF
    obtain ⟨t2, a1, b1⟩ := kk T'.heap (locs ++ L) q ce (by rw [e1]; exact hP1) k3 (by rw [e1]; exact hce) hcv hcl T' rfl X'
    exact ⟨t2, st.trans a1, b1⟩
end
theorem m_Pc_blind (hX : m_X3 base XF) {w : MWd} {As : List MV} : FrameBlind (m_Pc base roa ro tA D tys XF w As) := by
  intro a U g mk q
  obtain ⟨q0, q1, q2, q3⟩ := q
  exact ⟨q0, q1, m_G_same base roa ro tA D tys XF hX (s := U) (U := U.calling g mk a) rfl q2, q3⟩
end MCALL
end
section
theorem q_goodIn {ws : List Cond} (h : ∀ w ∈ ws, w ∈ q_W) : GoodIn q_W ws := fun w hw => ⟨h w hw, good_of_word (List.mem_filter.mp (h w hw)).2⟩
theorem m_len0 {i : Instr} (h : m_len i = 0) : ∃ a b c d, i = .tableswitch a b c d := by
  cases i
  case tableswitch a b c d => exact ⟨a, b, c, d, rfl⟩
  all_goals (exact absurd h (by simp [m_len]))
theorem m_heap_len {ro : MRo} {mid : Nat} {i : Instr} {st : List MV} {w : MWd} {r : List MV × MWd} {len : Nat} (h : m_heap ro mid i st w = some r) (hn : m_len i = len ∨ m_len i = 0) : len = m_len i := by
  rcases hn with hn | hn
  · exact hn.symm
  · obtain ⟨a, b, c, d, rfl⟩ := m_len0 hn
    cases h
theorem m_new_len {mid : Nat} {i : Instr} {st : List MV} {w : MWd} {r : List MV × MWd} {len : Nat} (h : m_new mid i st w = some r) (hn : m_len i = len ∨ m_len i = 0) : len = m_len i := by
  rcases hn with hn | hn
  · exact hn.symm
  · obtain ⟨a, b, c, d, rfl⟩ := m_len0 hn
    unfold m_new at h
    split at h <;> cases h
theorem m_heap_same {ro : MRo} {mid : Nat} {i : Instr} {st : List MV} {w : MWd} {r : List MV × MWd} (h : m_heap ro mid i st w = some r) : mnx r.2 = mnx w ∧ mcx r.2 = mcx w ∧ msl r.2 = msl w := by
  unfold m_heap at h
  repeat' split at h
  all_goals (first | (cases h; exact ⟨rfl, rfl, rfl⟩) | cases h)
theorem m_new_fresh {mid : Nat} {i : Instr} {st : List MV} {w : MWd} {r : List MV × MWd} (h : m_new mid i st w = some r) : mcx w + 8 = mnx w := by
  unfold m_new at h
  split at h
  · assumption
  · cases h
theorem m_take_split {n : Nat} {st : List MV} (h : n ≤ st.length) : ((st.take n).reverse).length = n ∧ st = ((st.take n).reverse).reverse ++ st.drop n := by
  refine ⟨by rw [List.length_reverse, List.length_take]; omega, by rw [List.reverse_reverse, List.take_append_drop]⟩
theorem m_call_ok {mid : Nat} {i : Instr} {st : List MV} {w : MWd} {z : Nat × List MV × List MV} (h : m_call mid i st w = some z) : ∃ (idx kd : Nat) (Bs : List MV), q_m mid idx = some (z.1, kd) ∧ Bs.length = q_np z.1 ∧ m_cats z.2.2 ≤ 8 ∧ m_cats z.2.1 ≤ q_nl z.1 ∧
    ((i = .invokestatic idx ∧ (kd = 1 ∨ kd = 3 ∨ kd = 7) ∧ z.2.1 = Bs ∧ st = Bs.reverse ++ z.2.2) ∨
     (i = .invokevirtual idx ∧ kd = 0 ∧ ∃ a, z.2.1 = .inr (.inr (some a)) :: Bs ∧ st = Bs.reverse ++ .inr (.inr (some a)) :: z.2.2 ∧ 8 ≤ a ∧ a < mnx w ∧ (msh w a).1 < 100 ∧ q_rc z.1 = some (msh w a).1) ∨
     (i = .invokespecial idx ∧ (kd = 2 ∨ kd = 6) ∧ ∃ a, z.2.1 = .inr (.inr (some a)) :: Bs ∧ st = Bs.reverse ++ .inr (.inr (some a)) :: z.2.2)) := by
  unfold m_call at h
  split at h
  · split at h
    · rename_i cm kd hq
      split at h
      · rename_i hc
        obtain ⟨h1, h2, h3, h4⟩ := hc
        cases h
        obtain ⟨e1, e2⟩ := m_take_split h2
        exact ⟨_, kd, _, hq, e1, h3, h4, Or.inl ⟨rfl, h1, rfl, e2⟩⟩
      · cases h
    · cases h
  · split at h
    · rename_i cm kd hq
      split at h
      · rename_i a r hdrop
        split at h
        · rename_i hc
          obtain ⟨h1, h2, h3, h4, h5, h6, h7, h8⟩ := hc
          cases h
          obtain ⟨e1, e2⟩ := m_take_split h2
          rw [hdrop] at e2
          exact ⟨_, kd, _, hq, e1, h3, h4, Or.inr (Or.inl ⟨rfl, h1, a, rfl, e2, h5, h6, h7, h8⟩)⟩
        · cases h
      · cases h
    · cases h
  · split at h
    · rename_i cm kd hq
      split at h
      · rename_i a r hdrop
        split at h
        · rename_i hc
          obtain ⟨h1, h2, h3, h4⟩ := hc
          cases h
          obtain ⟨e1, e2⟩ := m_take_split h2
          rw [hdrop] at e2
          exact ⟨_, kd, _, hq, e1, h3, h4, Or.inr (Or.inr ⟨rfl, h1, a, rfl, e2⟩)⟩
        · cases h
      · cases h
    · cases h
  · cases h
section MMAIN
variable {l : Launch} {base : Nat} {roa : Nat → Nat} {ro : MRo} {tA : Nat → ClassId} {D : va_G} {tys : List (ClassId × FieldType)} {XF : State → Heap → Prop}
variable {p : Program} {e : Env} {R : Room} {s : State} {m : MethodId} {args : Array Value} {below : List Frame} {meth : Method} {c : Code} {H : Heap} {locs : List Loc} {cells slots : Nat} {Q : State → Prop} {pc : Nat} {ls : Array Slot} {mc ms : Nat}
theorem m_pre (hX : m_X3 base XF) {w : MWd} {As : List MV} (hG : m_G base roa ro tA D tys XF s s.heap) (hP : va_P D vwCl (m_ws base roa tA w) H) (hS : va_S (fun q => base ≤ q) s.heap H locs) (hle : mcx w + 8 = mnx w → H.size ≤ base + mcx w) :
    FrameBlind (m_Pc base roa ro tA D tys XF w As) ∧ ∀ U : State, U.heap = H → s.WarmedH U.vm → m_Pc base roa ro tA D tys XF w As (As.map (m_val (m_ad base roa))).toArray U := by
  refine ⟨m_Pc_blind hX, fun U hU hW => ⟨rfl, ?_, ?_, ?_⟩⟩
  · rw [hU]; exact hP
  · rw [hU]
    have hb := hG.2.2.2.2.2.2
    exact m_G_warm base roa ro tA D tys XF hX hW (m_G_kept base roa ro tA D tys XF hX (fun a ha => hS.2.1 a (Nat.lt_of_lt_of_le ha hb) (Nat.not_le.mpr ha)) hS.1 hG)
  · rw [hU]; exact hle
theorem m_obj_W (hx : p.tables.exec = Jvm.exec) {mid : Nat} (hb : c.code = q_b mid) (hml : c.maxLocals = q_nl mid) (hsz : ls.size = q_nl mid) (hown : s.vm.findClass (q_y mid).cls = some m.cls) (hts : ∀ w ∈ q_W, w.before args s = true) {ad : Nat → Nat}
    {i : Instr} {len : Nat} {st st' : List MV} (h : m_obj mid i st = some st') (hd : decode (q_b mid) pc = .ok (i, len)) (hn : m_len i = len ∨ m_len i = 0) (hfr : 1 ≤ R.frames) (hlo : 64 ≤ R.locals) (hc : cells ≤ R.cells) (hs : slots ≤ R.slots)
    (k : W p l e R s m args below meth c H locs cells slots Q (F0 m (pc + 3) ls (st'.map (m_val ad)))) : W p l e R s m args below meth c H locs cells slots Q (F0 m pc ls (st.map (m_val ad))) := by
  have hd1 : m_len i ≠ 0 → decode (q_b mid) pc = .ok (i, m_len i) := fun h0 => by rw [hn.resolve_right h0]; exact hd
  unfold m_obj at h
  split at h
  · split at h
    · rename_i idx cm a r hq
      split at h
      · rename_i hcat
        cases h
        obtain ⟨g1, g2, g3⟩ := q_m5 hq
        refine W.objInit hx hb hown (hts _ g1) (hts _ g2) (hts _ g3) rfl (hsz.trans hml.symm) rfl (hd1 (by simp [m_len])) hfr ?_ k
        show 2 * 0 + ((st'.map (m_val ad)).map fun v => v.category).sum + 12 ≤ R.locals
        rw [m_cats_val]
        omega
      · cases h
    · cases h
  · split at h
    · rename_i idx cm y x r hq
      split at h
      · rename_i hcat
        cases h
        obtain ⟨g1, g2, g3, g4⟩ := q_m10 hq
        exact va_mmax hx hb (hml.trans hsz.symm) hown (hts _ g1) (hts _ g2) (hts _ g3) (hts _ g4) hfr (by rw [m_cats_val]; omega) hc hs (hd1 (by simp [m_len])) k
      · cases h
    · rename_i idx cm y x r hq
      split at h
      · rename_i hcat
        cases h
        obtain ⟨g1, g2, g3, g4⟩ := q_m11 hq
        exact va_mmin hx hb (hml.trans hsz.symm) hown (hts _ g1) (hts _ g2) (hts _ g3) (hts _ g4) hfr (by rw [m_cats_val]; omega) hc hs (hd1 (by simp [m_len])) k
      · cases h
    · rename_i idx cm x r hq
      split at h
      · rename_i hcat
        cases h
        obtain ⟨g1, g2, g3, g4⟩ := q_m12 hq
        exact va_mabs hx hb (hml.trans hsz.symm) hown (hts _ g1) (hts _ g2) (hts _ g3) (hts _ g4) hfr (by rw [m_cats_val]; omega) hc hs (hd1 (by simp [m_len])) k
      · cases h
    · cases h
  · cases h
set_option maxHeartbeats 4000000 in
/-- a call that returns -/
theorem m_callW (hX : m_X3 base XF) (hC : m_Catch l XF) {mid d : Nat} {i : Instr} {len : Nat} {st : List MV} {w w1 : MWd} {z : Nat × List MV × List MV} {v : Option MV}
    (hx : p.tables.exec = Jvm.exec) (hb : c.code = q_b mid) (hml : c.maxLocals = q_nl mid) (hown : s.vm.findClass (q_y mid).cls = some m.cls) (hts : ∀ w ∈ q_W, w.before args s = true)
    (hG : m_G base roa ro tA D tys XF s s.heap) (hP : va_P D vwCl (m_ws base roa tA w) H) (hS : va_S (fun q => base ≤ q) s.heap H locs) (h8 : 8 ≤ mnx w) (hnc : mnx w ≤ mcx w + 8) (hfr : mcx w + 8 = mnx w → s.heap.size + cells ≤ base + mcx w)
    (hdR : d + 1 ≤ R.frames) (hdL : 64 * (d + 1) ≤ R.locals) (hcR : cells + (mcx w1 - mcx w) ≤ R.cells) (hsR : slots + (msl w1 - msl w) ≤ R.slots) (hsz : ls.size = q_nl mid)
    (h : m_call mid i st w = some z) (hd : decode (q_b mid) pc = .ok (i, len)) (hn : m_len i = len ∨ m_len i = 0)
    (hok : m_Ok l base roa ro tA D tys XF d z.1 0 (m_ent 0 z.2.1) [] w (.inl v) w1)
    (kk : ∀ (H1 : Heap) (locs1 : List Loc), va_P D vwCl (m_ws base roa tA w1) H1 → va_S (fun q => base ≤ q) s.heap H1 locs1 → W p l e R s m args below meth c H1 locs1 (cells + (mcx w1 - mcx w)) (slots + (msl w1 - msl w)) Q (F0 m (pc + 3) ls ((v.toList ++ z.2.2).map (m_val (m_ad base roa))))) :
    W p l e R s m args below meth c H locs cells slots Q (F0 m pc ls (st.map (m_val (m_ad base roa)))) := by
  have hd1 : m_len i ≠ 0 → decode (q_b mid) pc = .ok (i, m_len i) := fun h0 => by rw [hn.resolve_right h0]; exact hd
  refine m_le fun hle0 => ?_
  have hle : mcx w + 8 = mnx w → H.size ≤ base + mcx w := fun hf => Nat.le_trans hle0 (hfr hf)
  obtain ⟨idx, kd, Bs, hq, hBl, hrest, hcats, hcase⟩ := m_call_ok h
  have hpre := m_pre hX (As := z.2.1) hG hP hS hle
  have hvt : ∀ v : Option MV, (v.map (m_val (m_ad base roa))).toList ++ z.2.2.map (m_val (m_ad base roa)) = (v.toList ++ z.2.2).map (m_val (m_ad base roa)) := fun v => by cases v <;> simp
  have hW8 : ((z.2.2.map (m_val (m_ad base roa))).map (fun v => v.category)).sum ≤ 8 := by rw [m_cats_val]; exact hrest
  have hS4 : CallFix p m c (q_b mid) (q_nl mid) s args q_W (q_y mid).cls := ⟨hx, hb, hml, hown, hts⟩
  have fin : ∀ {st0 : List Value}, va_Run p l e R s m args below meth c H locs cells slots (mcx w1 - mcx w) (msl w1 - msl w) (F0 m pc ls st0) (z.2.2.map (m_val (m_ad base roa))) (m_Qc base roa tA D v w1 (z.2.1.map (m_val (m_ad base roa))).toArray) (fun q => base ≤ q) → W p l e R s m args below meth c H locs cells slots Q (F0 m pc ls st0) :=
    fun hr => m_callr hr hS (fun H1 locs1 hP1 hS1 => by rw [hvt]; exact kk H1 locs1 hP1 hS1)
  rcases hcase with ⟨rfl, hkd, hz, rfl⟩ | ⟨rfl, rfl, a, hz, rfl, ha8, han, hak, hrc⟩ | ⟨rfl, hkd, a, hz, rfl⟩
  · have hd3 := hd1 (by simp [m_len])
    rw [List.map_append, List.map_reverse]
    rw [hz] at fin hpre hok hcats
    have hg5 := q_m_ok hq (by omega) (by omega)
    rcases hkd with rfl | rfl | rfl
    · have hcode := q_m_code hq (by omega) (by omega) (by omega)
      have hM := m_met hg5 hcats h8 hnc (q_nh hq (by omega) (by omega) (by omega)) hok
      obtain ⟨hl1, hl2⟩ := q_m1 hq
      exact fin (va_runS hS4 hM ⟨callB_of _ hts (q_goodIn (fun w hw => (List.mem_cons.mp hw).elim (fun e => e ▸ hcode) id)) rfl rfl rfl (hts _ hg5.1) (hts _ hl1) hg5.2.1 ⟨hdR, by have := hg5.2.2.2; show 8 + (q_nl z.1 + 11) + 64 * d ≤ _; omega⟩, hts _ hl2⟩ hpre rfl (by rw [List.length_map]; exact hBl) hsz rfl (lv_room (m := m) (pc := pc) (ls := ls) (rest := []) hW8) hd3 ⟨hcR, hsR⟩)
    · have hcode := q_m_code hq (by omega) (by omega) (by omega)
      have hM := m_met hg5 hcats h8 hnc (q_nh hq (by omega) (by omega) (by omega)) hok
      obtain ⟨⟨host, hl1⟩, hl2⟩ := q_m3 hq
      have hN := hG.2.2.2.1 _ hl1
      dsimp only at hN
      exact fin (va_runSN (host := host) hS4 hM ⟨va_cnB _ hts (q_goodIn (fun w hw => (List.mem_cons.mp hw).elim (fun e => e ▸ hcode) id)) rfl rfl rfl hN (hts _ hg5.1) hg5.2.1 ⟨hdR, by have := hg5.2.2.2; show 8 + (q_nl z.1 + 11) + 64 * d ≤ _; omega⟩, hts _ hl2, trivial⟩ hpre rfl (by rw [List.length_map]; exact hBl) hsz rfl (lv_room (m := m) (pc := pc) (ls := ls) (rest := []) hW8) hd3 ⟨hcR, hsR⟩)
    · obtain ⟨hl1, hl2, hcode⟩ := q_m7 hq
      have hM := m_met7 hC hg5 hcats h8 hnc hok
      exact fin (vx_runSW (hh := q_hh z.1) hS4 hM (vx_cwSW _ hts (q_goodIn (fun w hw => by
        unfold va_wsS at hw
        rcases List.mem_append.mp hw with hw | hw
        · simp only [List.mem_cons, List.not_mem_nil, or_false] at hw
          rcases hw with rfl | rfl | rfl
          · exact hl1
          · exact hl2
          · exact hg5.1
        · exact (List.mem_cons.mp hw).elim (fun e => e ▸ hcode) id)) rfl rfl rfl hg5.2.1 ⟨hdR, by have := hg5.2.2.2; show 8 + (q_nl z.1 + 11) + 64 * d ≤ _; omega⟩) hpre rfl (by rw [List.length_map]; exact hBl) hsz rfl (lv_room (m := m) (pc := pc) (ls := ls) (rest := []) hW8) hd3 ⟨hcR, hsR⟩)
  · have hd3 := hd1 (by simp [m_len])
    rw [List.map_append, List.map_reverse, List.map_cons]
    rw [hz] at fin hpre hok hcats
    have hg5 := q_m_ok hq (by omega) (by omega)
    have hcode := q_m_code hq (by omega) (by omega) (by omega)
    have hM := m_met hg5 hcats h8 hnc (q_nh hq (by omega) (by omega) (by omega)) hok
    obtain ⟨hl1, hl2, hl3, rc, T, N, hrc2, hcl⟩ := q_m0 hq
    cases hrc.symm.trans hrc2
    have he := m_ws_at (base := base) (roa := roa) (tA := tA) ha8 han
    rw [show msh w a = ((msh w a).1, (msh w a).2) from rfl, m_fld_cell hak] at he
    exact fin (va_runV hS4 hM ⟨callB_of _ hts (q_goodIn (fun w hw => (List.mem_cons.mp hw).elim (fun e => e ▸ hcode) id)) rfl rfl rfl (hts _ hg5.1) (hts _ hl1) hg5.2.1 ⟨hdR, by have := hg5.2.2.2; show 8 + (q_nl z.1 + 11) + 64 * d ≤ _; omega⟩, hts _ hl2, hts _ hl3⟩ ⟨hpre.1, va_recv hG.1 hP hcl he, hpre.2⟩ rfl (by rw [List.length_map]; exact hBl) hsz rfl (lv_room (m := m) (pc := pc) (ls := ls) (rest := []) hW8) hd3 ⟨hcR, hsR⟩)
  · have hd3 := hd1 (by simp [m_len])
    rw [List.map_append, List.map_reverse, List.map_cons]
    rw [hz] at fin hpre hok hcats
    have hg5 := q_m_ok hq (by omega) (by omega)
    have hcode := q_m_code hq (by omega) (by omega) (by omega)
    have hM := m_met hg5 hcats h8 hnc (q_nh hq (by omega) (by omega) (by omega)) hok
    rcases hkd with rfl | rfl
    · obtain ⟨⟨host, hl1⟩, hl2, hnm, hrt⟩ := q_m2 hq
      have hN := hG.2.2.2.1 _ hl1
      dsimp only at hN
      rw [hrt] at hcode
      have hw2 : m_wd z.1 = Cond.code (q_y z.1) (q_b z.1) (q_nl z.1) none :: q_W := by unfold m_wd; rw [hrt]
      exact fin (va_runIN (host := host) hS4 hM ⟨va_cnB _ hts (q_goodIn (fun w hw => by rw [hw2] at hw; exact (List.mem_cons.mp hw).elim (fun e => e ▸ hcode) id)) hw2 rfl rfl hN (hts _ hg5.1) hg5.2.1 ⟨hdR, by have := hg5.2.2.2; show 8 + (q_nl z.1 + 11) + 64 * d ≤ _; omega⟩, hnm, hts _ hl2⟩ hpre rfl (by rw [List.length_map]; exact hBl) hsz rfl (lv_room (m := m) (pc := pc) (ls := ls) (rest := []) hW8) hd3 ⟨hcR, hsR⟩)
    · obtain ⟨hl1, hl2, hnm, hrt⟩ := q_m6 hq
      rw [hrt] at hcode
      have hw2 : m_wd z.1 = Cond.code (q_y z.1) (q_b z.1) (q_nl z.1) none :: q_W := by unfold m_wd; rw [hrt]
      exact fin (va_runI hS4 hM ⟨callB_of _ hts (q_goodIn (fun w hw => by rw [hw2] at hw; exact (List.mem_cons.mp hw).elim (fun e => e ▸ hcode) id)) hw2 rfl rfl (hts _ hg5.1) (hts _ hl1) hg5.2.1 ⟨hdR, by have := hg5.2.2.2; show 8 + (q_nl z.1 + 11) + 64 * d ≤ _; omega⟩, hnm, hts _ hl2⟩ hpre rfl (by rw [List.length_map]; exact hBl) hsz rfl (lv_room (m := m) (pc := pc) (ls := ls) (rest := []) hW8) hd3 ⟨hcR, hsR⟩)
end MMAIN
end
section
section MSOUND
variable {l : Launch} {base : Nat} {roa : Nat → Nat} {ro : MRo} {tA : Nat → ClassId} {D : va_G} {tys : List (ClassId × FieldType)} {XF : State → Heap → Prop}
set_option maxHeartbeats 8000000 in
/-- THE JAVA MACHINE COMES WHERE THE SMALL MACHINE COMES -/
theorem m_sound (hX : m_X3 base XF) (hT : m_Throw l base XF) (hC : m_Catch l XF) (hSt : m_Stat l base roa XF) : ∀ (n d mid pc : Nat) (L : ML) (st : List MV) (w : MWd) (o : MOut) (w' : MWd), m_run ro n d mid pc L st w = some (o, w') → m_Ok l base roa ro tA D tys XF d mid pc L st w o w' := by
  intro n
  induction n with
  | zero => intro d mid pc L st w o w' h; cases h
  | succ n ih =>
    intro d mid pc L st w o w' h p e R s m args below meth c H locs cells slots kc ks Z ls hx hb hml hown hts hin hG hl hP hS h8 hnc hfr hdR hdL hkR hsR hk1 hk2 hZr hZt hCt
    have go : ∀ (d' pc' : Nat) (L' : ML) (st' : List MV) (w1 : MWd) (H1 : Heap) (locs1 : List Loc) (cells1 slots1 : Nat) (ls' : Array Slot), m_run ro n d' mid pc' L' st' w1 = some (o, w') → d' = d → lv_has ls' (q_nl mid) (ml_val (m_ad base roa) L') → va_P D vwCl (m_ws base roa tA w1) H1 → va_S (fun q => base ≤ q) s.heap H1 locs1 → m_gr w w1 → (mcx w1 + 8 = mnx w1 → mcx w + 8 = mnx w) →
        cells1 = cells + (mcx w1 - mcx w) → slots1 = slots + (msl w1 - msl w) → W p l e R s m args below meth c H1 locs1 cells1 slots1 Z (F0 m pc' ls' (st'.map (m_val (m_ad base roa)))) := by
      intro d' pc' L' st' w1 H1 locs1 cells1 slots1 ls' hr hdd hl' hP1 hS1 hg hff ec es
      subst hdd
      have hg2 := m_run_gr ro _ _ _ _ _ _ _ _ hr
      obtain ⟨a1, a2, a3, a4⟩ := hg
      obtain ⟨b1, b2, b3, b4⟩ := hg2
      dsimp only at b1 b2 b3 b4
      refine ih _ _ _ _ _ _ _ _ hr p e R s m args below meth c H1 locs1 cells1 slots1 kc ks Z ls' hx hb hml hown hts hin hG hl' hP1 hS1 (Nat.le_trans h8 a1) (by omega) (fun hf => ?_) hdR hdL hkR hsR (by omega) (by omega) hZr hZt hCt
      have := hfr (hff hf)
      omega
    have gr := m_gr_rf w
    have ec : cells = cells + (mcx w - mcx w) := by omega
    have es : slots = slots + (msl w - msl w) := by omega
    unfold m_run at h
    split at h
    · rename_i E hth
      split at h
      · rename_i hc
        obtain ⟨h10, hst⟩ := hc
        subst hst
        cases h
        have e1 : mcx (m_thr w) - mcx w = 1 := by show w.2.1 + 1 - w.2.1 = 1; omega
        have e2 : msl (m_thr w) - msl w = 6 := by show w.2.2.1 + 6 - w.2.2.1 = 6; omega
        rw [e1] at hk1
        rw [e2] at hk2
        have hz := hZt E rfl pc ls H locs w hth rfl (hl.1.trans hml.symm) (by omega) (by omega) (by omega) (by omega) hP hS
        rw [show kc - 1 = cells by omega, show ks - 6 = slots by omega] at hz
        exact hz
      · cases h
    split at h
    · cases h
    rename_i hth i hi
    obtain ⟨len, hd, hn⟩ := q_i_ok hi
    split at h
    · rename_i r h1
      exact m_pure_W hx hb h1 hd hn hl (fun ls' hl' => go d _ _ _ w H locs cells slots ls' h rfl hl' hP hS gr id ec es)
    split at h
    · rename_i h0 r h1
      have hl2 := m_heap_len h1 hn
      obtain ⟨f1, f2, f3⟩ := m_heap_same h1
      refine m_heap_W hx hb hown hts hin hG.1 hG.2.1 hG.2.2.1 h1 hd hn hP hS (fun H1 locs1 hP1 hS1 => ?_)
      rw [hl2]
      exact go d _ _ _ r.2 H1 locs1 cells slots ls h rfl hl hP1 hS1 (m_heap_gr h1) (fun hf => by omega) (by omega) (by omega)
    split at h
    · rename_i h00 h0 r h1
      have hl2 := m_new_len h1 hn
      have hg2 := m_run_gr ro _ _ _ _ _ _ _ _ h
      obtain ⟨b1, b2, b3, b4⟩ := hg2
      obtain ⟨a1, a2, a3, a4⟩ := m_new_gr h1
      dsimp only at b1 b2 b3 b4
      refine m_new_W hx hb hown hts hG.1 hG.2.1 hG.2.2.2.2.1 h1 hd hn hP hS h8 hG.2.2.2.2.2.2 hfr (by omega) (by omega) (fun H1 hP1 hS1 => ?_)
      rw [hl2]
      exact go d _ _ _ r.2 H1 locs _ _ ls h rfl hl hP1 hS1 (m_new_gr h1) (fun _ => m_new_fresh h1) rfl rfl
    split at h
    · rename_i v h1
      cases h
      have hz := hZr v rfl i len pc ls H locs st h1 hd hn hP hS
      rw [show kc = cells by omega, show ks = slots by omega] at hz
      exact hz
    split at h
    · rename_i st' h1
      split at h
      · cases h
      · rename_i hd0
        exact m_obj_W hx hb hml hl.1 hown hts h1 hd hn (by omega) (by omega) (by omega) (by omega) (go d _ _ _ w H locs cells slots ls h rfl hl hP hS gr id ec es)
    split at h
    · rename_i v h1
      unfold m_con at h1
      have hd1 : m_len i ≠ 0 → decode (q_b mid) pc = .ok (i, m_len i) := fun h0 => by rw [hn.resolve_right h0]; exact hd
      split at h1
      · split at h1
        · rename_i hq
          cases h1
          rcases q_k_ok hq with ⟨x, hx1, hx2⟩ | ⟨x, hx1, hx2⟩
          · cases hx1
            exact lv_ldc hx hb hown (hts _ hx2) (hd1 (by simp [m_len])) (go d _ _ _ w H locs cells slots ls h rfl hl hP hS gr id ec es)
          · cases hx1
        · cases h1
      · split at h1
        · rename_i hq
          cases h1
          rcases q_k_ok hq with ⟨x, hx1, hx2⟩ | ⟨x, hx1, hx2⟩
          · cases hx1
            exact lv_ldcw hx hb hown (hts _ hx2) (hd1 (by simp [m_len])) (go d _ _ _ w H locs cells slots ls h rfl hl hP hS gr id ec es)
          · cases hx1
        · cases h1
      · split at h1
        · rename_i hq
          cases h1
          rcases q_k_ok hq with ⟨x, hx1, hx2⟩ | ⟨x, hx1, hx2⟩
          · cases hx1
          · cases hx1
            exact lv_ldc2 hx hb hown (hts _ hx2) (hd1 (by simp [m_len])) (go d _ _ _ w H locs cells slots ls h rfl hl hP hS gr id ec es)
        · cases h1
      · split at h1
        · rename_i a hq
          cases h1
          have ha8 := q_s_lt hq
          refine hSt mid pc _ a hq p e R s m args below meth c H locs cells slots Z ls _ hx hb hown hts hG.2.2.2.2.2.1 hS (hd1 (by simp [m_len])) ?_
          have hgo := go d _ _ _ w H locs cells slots ls h rfl hl hP hS gr id ec es
          rw [List.map_cons, show m_val (m_ad base roa) (.inr (.inr (some a))) = .ref (roa a) by show Value.ref (m_ad base roa a) = _; rw [m_ad_lo ha8]] at hgo
          exact hgo
        · cases h1
      · cases h1
    split at h
    · rename_i r h1
      split at h
      · cases h
      · rename_i hd0
        obtain ⟨f1, f2, f3⟩ := m_cpy_same h1
        refine m_cpy_W hx hb (hml.trans hl.1.symm) hown hts hG.1 hG.2.1 h1 hd hn hP hS (by omega) (by omega) (fun H1 locs1 hP1 hS1 => ?_)
        exact go d _ _ _ r.2 H1 locs1 cells slots ls h rfl hl hP1 hS1 (m_cpy_gr h1) (fun hf => by omega) (by omega) (by omega)
    split at h
    · cases h
    rename_i z h1
    split at h
    · cases h
    rename_i d'
    split at h
    · cases h
    · rename_i v w1 h2
      have hg1 := m_run_gr ro _ _ _ _ _ _ _ _ h2
      have hg2 := m_run_gr ro _ _ _ _ _ _ _ _ h
      obtain ⟨a1, a2, a3, a4⟩ := hg1
      obtain ⟨b1, b2, b3, b4⟩ := hg2
      dsimp only at a1 a2 a3 a4 b1 b2 b3 b4
      exact m_callW hX hC hx hb hml hown hts hG hP hS h8 hnc hfr hdR hdL (by omega) (by omega) hl.1 h1 hd hn (ih _ _ _ _ _ _ _ _ h2)
        (fun H1 locs1 hP1 hS1 => go (d' + 1) _ _ _ w1 H1 locs1 _ _ ls h rfl hl hP1 hS1 ⟨a1, a2, a3, a4⟩ (fun hf => by omega) rfl rfl)
    · rename_i E w1 h2
      have hg1 := m_run_gr ro _ _ _ _ _ _ _ _ h2
      split at h
      · cases h
      · rename_i hh hq
        obtain ⟨idx, hi2⟩ := q_h_ok hq
        cases hi.symm.trans hi2
        have hg2 := m_run_gr ro _ _ _ _ _ _ _ _ h
        obtain ⟨a1, a2, a3, a4⟩ := hg1
        obtain ⟨b1, b2, b3, b4⟩ := hg2
        dsimp only at a1 a2 a3 a4 b1 b2 b3 b4
        have hd3 : decode (q_b mid) pc = .ok (.invokevirtual idx, 3) := by
          rcases hn with hn | hn
          · rw [← hn] at hd; exact hd
          · exact absurd hn (by simp [m_len])
        refine m_le fun hle0 => ?_
        have hle : mcx w + 8 = mnx w → H.size ≤ base + mcx w := fun hf => Nat.le_trans hle0 (hfr hf)
        obtain ⟨idx2, kd, Bs, hqm, hBl, hrest, hcats, hcase⟩ := m_call_ok h1
        rcases hcase with ⟨e1, -⟩ | ⟨e1, rfl, a, hz, rfl, ha8, han, hak, hrc⟩ | ⟨e1, -⟩
        · cases e1
        · cases e1
          have hpre := m_pre hX (As := z.2.1) hG hP hS hle
          have hW8 : ((z.2.2.map (m_val (m_ad base roa))).map (fun v => v.category)).sum ≤ 8 := by rw [m_cats_val]; exact hrest
          have hok := ih _ _ _ _ _ _ _ _ h2
          rw [List.map_append, List.map_reverse, List.map_cons]
          rw [hz] at hpre hok hcats
          have hg5 := q_m_ok hqm (by omega) (by omega)
          have hcode := q_m_code hqm (by omega) (by omega) (by omega)
          have hM := m_metx hT hg5 hcats h8 hnc (q_nh hqm (by omega) (by omega) (by omega)) ⟨a1, a2, a3, a4⟩ hok (fun _ _ _ _ => False)
          obtain ⟨hl1, hl2, hl3, rc, T, N, hrc2, hcl⟩ := q_m0 hqm
          cases hrc.symm.trans hrc2
          have he := m_ws_at (base := base) (roa := roa) (tA := tA) ha8 han
          rw [show msh w a = ((msh w a).1, (msh w a).2) from rfl, m_fld_cell hak] at he
          have hS4 : CallFix p m c (q_b mid) (q_nl mid) s args q_W (q_y mid).cls := ⟨hx, hb, hml, hown, hts⟩
          exact m_callx (vx_runV hS4 hM ⟨callB_of _ hts (q_goodIn (fun w hw => (List.mem_cons.mp hw).elim (fun e => e ▸ hcode) id)) rfl rfl rfl (hts _ hg5.1) (hts _ hl1) hg5.2.1 ⟨hdR, by have := hg5.2.2.2; show 8 + (q_nl z.1 + 11) + 64 * d' ≤ _; omega⟩, hts _ hl2, hts _ hl3⟩ ⟨hpre.1, va_recv hG.1 hP hcl he, hpre.2⟩ rfl (by rw [List.length_map]; exact hBl) hl.1 rfl (lv_room (m := m) (pc := pc) (ls := ls) (rest := []) hW8) hd3 ⟨by omega, by omega⟩) hS
            (fun H1 locs1 q ce hP1 hS1 hce hcv hcl2 => hCt pc E hh hq H1 locs1 _ _ L ls _ q ce hl hce hcv hcl2 (fun ls' hl' => go (d' + 1) _ _ [] w1 H1 locs1 _ _ ls' h rfl hl' hP1 hS1 ⟨a1, a2, a3, a4⟩ (fun hf => by omega) rfl rfl))
        · cases e1
end MSOUND
end
