section MCALL
variable {l : Launch} {base : Nat} {roa : Nat → Nat} {ro : MRo} {tA : Nat → ClassId} {D : va_G} {tys : List (ClassId × FieldType)} {XF : State → Heap → Prop}
/-- a throw of its own leaves the frame -/
def m_Throw (l : Launch) (base : Nat) (XF : State → Heap → Prop) : Prop :=
  ∀ (mid pc : Nat) (E : String), q_th mid pc = some E → ∀ (p : Program) (e : Env) (R : Room) (s : State) (m : MethodId) (args : Array Value) (below : List Frame) (meth : Method) (c : Code) (H : Heap) (locs : List Loc) (mc ms : Nat) (ls : Array Slot) (Qc : Array Value → State → Outcome → State → Prop) (XC : String → State → State → Prop),
    p.tables.exec = Jvm.exec → c.code = q_b mid → s.vm.findClass (q_y mid).cls = some m.cls → (∀ w ∈ q_W, w.before args s = true) → XF s s.heap → base ≤ s.heap.size → (∀ x ∈ c.exceptionTable.toList, False) → meth.locks = false →
    10 ≤ R.frames → 640 ≤ R.locals → mc ≤ R.cells → ms ≤ R.slots → 1 ≤ mc → 6 ≤ ms → ls.size = c.maxLocals → va_S (fun q => base ≤ q) s.heap H locs →
    (∀ t : State, s.vm.Alike t.vm → H.size ≤ t.heap.size → (∀ q : Nat, q < H.size → t.heap[q]? = H[q]?) → XC E s t) →
    W p l e R s m args below meth c H locs (mc - 1) (ms - 6) (vx_MQ below Qc XC args s mc ms (fun q => base ≤ q)) (F0 m pc ls [])
/-- the static tables: a getstatic gives the table's place -/
def m_Stat (l : Launch) (base : Nat) (roa : Nat → Nat) (XF : State → Heap → Prop) : Prop :=
  ∀ (mid pc idx a : Nat), q_s mid idx = some a → ∀ (p : Program) (e : Env) (R : Room) (s : State) (m : MethodId) (args : Array Value) (below : List Frame) (meth : Method) (c : Code) (H : Heap) (locs : List Loc) (cells slots : Nat) (Z : State → Prop) (ls : Array Slot) (rest : List Value),
    p.tables.exec = Jvm.exec → c.code = q_b mid → s.vm.findClass (q_y mid).cls = some m.cls → (∀ w ∈ q_W, w.before args s = true) → XF s s.heap → va_S (fun q => base ≤ q) s.heap H locs → decode (q_b mid) pc = .ok (.getstatic idx, 3) →
    W p l e R s m args below meth c H locs cells slots Z (F0 m (pc + 3) ls (.ref (roa a) :: rest)) → W p l e R s m args below meth c H locs cells slots Z (F0 m pc ls rest)
/-- a throw of a callee's is caught by this method's table -/
def m_Catch (l : Launch) (XF : State → Heap → Prop) : Prop :=
  ∀ (mid pc : Nat) (E : String) (hh : Nat × Nat), q_h mid pc E = some hh → ∀ (p : Program) (e : Env) (R : Room) (s : State) (m : MethodId) (args : Array Value) (below : List Frame) (meth : Method) (c : Code) (H : Heap) (locs : List Loc) (cells slots : Nat) (Z : State → Prop) (ls : Array Slot) (rest : List Value) (q : Addr) (ce : Cell) (L : ML) (ad : Nat → Nat),
    p.tables.exec = Jvm.exec → c.code = q_b mid → s.vm.findClass (q_y mid).cls = some m.cls → (∀ w ∈ q_W, w.before args s = true) → XF s s.heap → c.exceptionTable.toList = tableOf (q_hh mid) →
    lv_has ls (q_nl mid) (ml_val ad L) → H[q]? = some ce → ce.vm = .none → s.vm.findClass E = some ce.cls →
    (∀ ls' : Array Slot, lv_has ls' (q_nl mid) (ml_val ad (m_drop L hh.2)) → W p l e R s m args below meth c H locs cells slots Z (F0 m hh.1 ls' [])) →
    vx_W p l e R s m args below meth c H locs cells slots Z (F0 m pc ls rest) q
def m_wd7 (cm : Nat) : List Cond := Cond.codeWith (q_y cm) (q_b cm) (q_nl cm) (q_rt cm) (q_hh cm) :: q_W
/-- a callee that throws -/
theorem m_metx (hT : m_Throw l base XF) {cm d : Nat} {As : List MV} {E : String} {w w1 : MWd} (hc : q_good cm) (hcats : m_cats As ≤ q_nl cm) (h8 : 8 ≤ mnx w) (hnc : mnx w ≤ mcx w + 8) (hnoh : ∀ pc E, q_h cm pc E = none) (hg : m_gr w w1)
    (h : m_Ok l base roa ro tA D tys XF d cm 0 (m_ent 0 As) [] w (.inr E) w1) (Qc : Array Value → State → Outcome → State → Prop) :
    vx_Met l (q_y cm) (m_wd cm) (m_rm d w w1) (m_Pc base roa ro tA D tys XF w As) Qc (m_XC base roa tA D E w1) (mcx w1 - mcx w) (msl w1 - msl w) (fun q => base ≤ q) := by
  refine vx_ofW (cc := q_b cm) (maxL := q_nl cm) (ret := q_rt cm) hc.2.2.1 rfl ?_
  intro p e s m args below meth c s₁ B hml hnt hv
  obtain ⟨rfl, hP, hG, hfr⟩ := hv
  have hx := B.exec
  have hb := B.bytes
  have hts := atoms_spec (ws := m_wd cm) B.pre
  have hts2 : ∀ w ∈ q_W, w.before _ s = true := fun w' hw' => hts w' (List.mem_cons_of_mem _ hw')
  have hown : s.vm.findClass (q_y cm).cls = some m.cls := findClass_of_methodNamed B.named
  have hlocks := B.notSynchronized
  have hname : meth.name = (q_y cm).name := (name_of_methodNamed B.named B.method).1
  rw [lg_entry_eq]
  refine h p e _ s m _ below meth c s.heap [] 0 0 (mcx w1 - mcx w) (msl w1 - msl w) _ _ hx hb hml hown hts2 (fun hi => hname.trans hi) hG (m_ent_has hcats) hP va_S.rf h8 hnc (fun hf => by rw [Nat.add_zero]; exact hfr hf) (Nat.le_refl _) (Nat.le_refl _) (Nat.le_refl _) (Nat.le_refl _) (Nat.zero_add _) (Nat.zero_add _) ?_ ?_ ?_
  · intro v' hv'
    cases hv'
  · intro E' hE pc ls H locs w2 hth hw2 hsz hf10 hl640 hk1 hk6 hP1 hS1
    cases hE
    refine hT cm pc E hth p e _ s m _ below meth c H locs _ _ ls Qc _ hx hb hown hts2 hG.2.2.2.2.2.1 hG.2.2.2.2.2.2 hnt hlocks hf10 hl640 (Nat.le_refl _) (Nat.le_refl _) hk1 hk6 hsz hS1 (fun t hA hs hq => ⟨rfl, ?_, Nat.le_trans hS1.1 hs, fun q h1 h2 => (hq q (Nat.lt_of_lt_of_le h1 hS1.1)).trans (hS1.2.1 q h1 h2)⟩)
    rw [hw2]
    exact hP1.kept (fun k q hk => hq q.1 ((hP1 k q hk).lt))
  · intro pc E hh hq
    rw [hnoh pc E] at hq
    cases hq
/-- a callee with a table of its own -/
theorem m_met7 (hC : m_Catch l XF) {cm d : Nat} {As : List MV} {v : Option MV} {w w1 : MWd} (hc : q_good cm) (hcats : m_cats As ≤ q_nl cm) (h8 : 8 ≤ mnx w) (hnc : mnx w ≤ mcx w + 8)
    (h : m_Ok l base roa ro tA D tys XF d cm 0 (m_ent 0 As) [] w (.inl v) w1) :
    Met l (q_y cm) (m_wd7 cm) (m_rm d w w1) (m_Pc base roa ro tA D tys XF w As) (m_Qc base roa tA D v w1) (mcx w1 - mcx w) (msl w1 - msl w) (fun q => base ≤ q) := by
  have hM : vx_Met l (q_y cm) (m_wd7 cm) (m_rm d w w1) (m_Pc base roa ro tA D tys XF w As) (m_Qc base roa tA D v w1) (fun _ _ _ => False) (mcx w1 - mcx w) (msl w1 - msl w) (fun q => base ≤ q) := by
    refine vx_ofWH (cc := q_b cm) (maxL := q_nl cm) (ret := q_rt cm) (hh := q_hh cm) hc.2.2.1 rfl ?_
    intro p e s m args below meth c s₁ B hml hv
    obtain ⟨rfl, hP, hG, hfr⟩ := hv
    have hx := B.exec
    have hb := B.bytes
    have hr := B.returns
    have hts := atoms_spec (ws := m_wd7 cm) B.pre
    have hts2 : ∀ w ∈ q_W, w.before _ s = true := fun w' hw' => hts w' (List.mem_cons_of_mem _ hw')
    have hown : s.vm.findClass (q_y cm).cls = some m.cls := findClass_of_methodNamed B.named
    have hlocks := B.notSynchronized
    have hname : meth.name = (q_y cm).name := (name_of_methodNamed B.named B.method).1
    have htab := vx_table (x := q_y cm) B (hts _ List.mem_cons_self)
    rw [lg_entry_eq]
    refine h p e _ s m _ below meth c s.heap [] 0 0 (mcx w1 - mcx w) (msl w1 - msl w) _ _ hx hb hml hown hts2 (fun hi => hname.trans hi) hG (m_ent_has hcats) hP va_S.rf h8 hnc (fun hf => by rw [Nat.add_zero]; exact hfr hf) (Nat.le_refl _) (Nat.le_refl _) (Nat.le_refl _) (Nat.le_refl _) (Nat.zero_add _) (Nat.zero_add _) ?_ ?_ ?_
    · intro v' hv' i len pc ls H locs st hret hd hn hP1 hS1
      cases hv'
      exact vx_ret (m_ret_W hx hb hr hlocks hret hd hn (fun t ht hW => ⟨rfl, by rw [ht]; exact hP1, hS1.F ht⟩) (fun q hq => hS1.2.2 q hq))
    · intro E hE
      cases hE
    · intro pc E hh hq H locs cells slots L ls rest q ce hl hce hcv hcl kk
      exact hC cm pc E hh hq p e _ s m _ below meth c H locs cells slots _ ls rest q ce L _ hx hb hown hts2 hG.2.2.2.2.2.1 htab hl hce hcv hcl kk
  refine MetFree.mono hM (fun _ _ h => h) (fun _ _ _ _ _ h => h) (fun a st o t _ hq => ?_)
  rcases hq with hq | ⟨q, -, E, ce, L, hF, -⟩
  · exact hq
  · exact hF.elim
end MCALL
