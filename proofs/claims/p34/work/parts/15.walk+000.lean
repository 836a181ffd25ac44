section MWALK
variable (l : Launch) (base : Nat) (roa : Nat → Nat) (ro : MRo) (tA : Nat → ClassId) (D : va_G) (tys : List (ClassId × FieldType)) (XF : State → Heap → Prop)
/-- what holds of the machine at every frame -/
def m_G (U : State) (H : Heap) : Prop :=
  va_K D vwCl tys U ∧ m_tys tA tys ∧ (∀ a n f, a < 8 → ro a = some (n, f) → va_T .int (roa a) n (fun j => Value.int (f j)) (fun q => base ≤ q) U H ∧ roa a < H.size ∧ ¬ base ≤ roa a) ∧ (∀ q ∈ q_N, va_Nw (.methodLinkNest q.1 q.2.1 q.2.2.1 q.2.2.2) U) ∧
  (∀ (ci : Nat) (C : String) (T : u_T) (N : Nat), q_ra ci = true → vwCl[ci]? = some (C, T, N) → va_AO C U) ∧ XF U H ∧ base ≤ H.size
def m_X3 : Prop := (∀ (u U : State) (H : Heap), u.WarmedH U.vm → XF u H → XF U H) ∧ (∀ (u U : State) (H : Heap), u.vm = U.vm → XF u H → XF U H) ∧ (∀ (U : State) (H H1 : Heap), (∀ a, a < base → H1[a]? = H[a]?) → H.size ≤ H1.size → XF U H → XF U H1)
theorem m_G_warm (hX : m_X3 base XF) {s U : State} {H : Heap} (hW : s.WarmedH U.vm) (h : m_G base roa ro tA D tys XF s H) : m_G base roa ro tA D tys XF U H := by
  obtain ⟨h1, h2, h3, h4, h5, h6, h7⟩ := h
  exact ⟨va_K.moved hW.alike h1, h2, fun a n f ha hf => by obtain ⟨g1, g2, g3⟩ := h3 a n f ha hf; exact ⟨g1.moved hW.alike, g2, g3⟩, fun q hq => va_Nw.warmM hW (h4 q hq), fun ci C T N ha hc => (h5 ci C T N ha hc).moved hW.alike, hX.1 s U H hW h6, h7⟩
theorem m_G_same (hX : m_X3 base XF) {s U : State} {H : Heap} (hv : s.vm = U.vm) (h : m_G base roa ro tA D tys XF s H) : m_G base roa ro tA D tys XF U H := by
  obtain ⟨h1, h2, h3, h4, h5, h6, h7⟩ := h
  have hA : s.vm.Alike U.vm := by rw [hv]; exact Vm.Alike.refl _
  exact ⟨va_K.moved hA h1, h2, fun a n f ha hf => by obtain ⟨g1, g2, g3⟩ := h3 a n f ha hf; exact ⟨g1.moved hA, g2, g3⟩, fun q hq => va_Nw.same rfl hv (h4 q hq), fun ci C T N ha hc => (h5 ci C T N ha hc).moved hA, hX.2.1 s U H hv h6, h7⟩
theorem m_G_kept (hX : m_X3 base XF) {U : State} {H H1 : Heap} (ho : ∀ a, a < base → H1[a]? = H[a]?) (hs : H.size ≤ H1.size) (h : m_G base roa ro tA D tys XF U H) : m_G base roa ro tA D tys XF U H1 := by
  obtain ⟨h1, h2, h3, h4, h5, h6, h7⟩ := h
  exact ⟨h1, h2, fun a n f ha hf => by obtain ⟨g1, g2, g3⟩ := h3 a n f ha hf; exact ⟨g1.kept (fun q _ hn => ho q (Nat.lt_of_not_le hn)), Nat.lt_of_lt_of_le g2 hs, g3⟩, h4, h5, hX.2.2 U H H1 ho hs h6, Nat.le_trans h7 hs⟩
def m_Pc (w : MWd) (As : List MV) : Array Value → State → Prop := va_Pc (As.map (m_val (m_ad base roa))) (fun U => va_P D vwCl (m_ws base roa tA w) U.heap ∧ m_G base roa ro tA D tys XF U U.heap ∧ (mcx w + 8 = mnx w → U.heap.size ≤ base + mcx w))
def m_Qc (v : Option MV) (w1 : MWd) : Array Value → State → Outcome → State → Prop := fun _ st o t => o = .returned (v.map (m_val (m_ad base roa))) ∧ va_P D vwCl (m_ws base roa tA w1) t.heap ∧ va_F (fun q => base ≤ q) st t
def m_XC (E0 : String) (w1 : MWd) : String → State → State → Prop := fun E st t => E = E0 ∧ va_P D vwCl (m_ws base roa tA w1) t.heap ∧ va_F (fun q => base ≤ q) st t
def m_rm (d : Nat) (w w1 : MWd) : Room := { frames := d, cells := mcx w1 - mcx w, slots := msl w1 - msl w, locals := 64 * d }
def m_wd (cm : Nat) : List Cond := Cond.code (q_y cm) (q_b cm) (q_nl cm) (q_rt cm) :: q_W
/-- the Java machine, at this frame, comes where the small one comes -/
def m_Ok (d mid pc : Nat) (L : ML) (st : List MV) (w : MWd) (o : MOut) (w' : MWd) : Prop :=
  ∀ (p : Program) (e : Env) (R : Room) (s : State) (m : MethodId) (args : Array Value) (below : List Frame) (meth : Method) (c : Code) (H : Heap) (locs : List Loc) (cells slots kc ks : Nat) (Z : State → Prop) (ls : Array Slot),
    p.tables.exec = Jvm.exec → c.code = q_b mid → c.maxLocals = q_nl mid → s.vm.findClass (q_y mid).cls = some m.cls → (∀ w ∈ q_W, w.before args s = true) → ((q_y mid).name = "<init>" → meth.name = "<init>") →
    m_G base roa ro tA D tys XF s s.heap → lv_has ls (q_nl mid) (ml_val (m_ad base roa) L) → va_P D vwCl (m_ws base roa tA w) H → va_S (fun q => base ≤ q) s.heap H locs → 8 ≤ mnx w → mnx w ≤ mcx w + 8 → (mcx w + 8 = mnx w → s.heap.size + cells ≤ base + mcx w) →
    d ≤ R.frames → 64 * d ≤ R.locals → kc ≤ R.cells → ks ≤ R.slots → cells + (mcx w' - mcx w) = kc → slots + (msl w' - msl w) = ks →
    (∀ v, o = .inl v → ∀ (i : Instr) (len pc : Nat) (ls : Array Slot) (H : Heap) (locs : List Loc) (st : List MV), m_ret mid i st = some v → decode (q_b mid) pc = .ok (i, len) → (m_len i = len ∨ m_len i = 0) → va_P D vwCl (m_ws base roa tA w') H → va_S (fun q => base ≤ q) s.heap H locs → W p l e R s m args below meth c H locs kc ks Z (F0 m pc ls (st.map (m_val (m_ad base roa))))) →
    (∀ E, o = .inr E → ∀ (pc : Nat) (ls : Array Slot) (H : Heap) (locs : List Loc) (w2 : MWd), q_th mid pc = some E → w' = m_thr w2 → ls.size = c.maxLocals → 10 ≤ R.frames → 640 ≤ R.locals → 1 ≤ kc → 6 ≤ ks → va_P D vwCl (m_ws base roa tA w2) H → va_S (fun q => base ≤ q) s.heap H locs → W p l e R s m args below meth c H locs (kc - 1) (ks - 6) Z (F0 m pc ls [])) →
    (∀ (pc : Nat) (E : String) (hh : Nat × Nat), q_h mid pc E = some hh → ∀ (H : Heap) (locs : List Loc) (cells slots : Nat) (L : ML) (ls : Array Slot) (rest : List Value) (q : Addr) (ce : Cell), lv_has ls (q_nl mid) (ml_val (m_ad base roa) L) → H[q]? = some ce → ce.vm = .none → s.vm.findClass E = some ce.cls →
      (∀ ls' : Array Slot, lv_has ls' (q_nl mid) (ml_val (m_ad base roa) (m_drop L hh.2)) → W p l e R s m args below meth c H locs cells slots Z (F0 m hh.1 ls' [])) → vx_W p l e R s m args below meth c H locs cells slots Z (F0 m pc ls rest) q) →
    W p l e R s m args below meth c H locs cells slots Z (F0 m pc ls (st.map (m_val (m_ad base roa))))
end MWALK
