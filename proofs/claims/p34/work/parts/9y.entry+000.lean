/-! THE CLAIM OUT OF ONE WALK OF THE LAW'S BODY. Your part is whole_start (and what it stands on); all else here is the same for every law, but numbers. -/
def R_law : String := "SunHouseLaw"
def lw_P (b : Addr) (xs : List Int32) (args : Array Value) (s : State) : Prop := args = #[.ref b] ∧ s.IntsAt b xs ∧ xs.length ≤ 3072 ∧ (Jvm.Cond.and given_1 narrow_1).before args s = true
def lw_Q (_ : Array Value) (s : State) (o : Outcome) (t : State) : Prop := o = .returned (some (.int 1)) ∧ Framed s o t [] 601024 7293034
def lw_Z (below : List Frame) (a : Array Value) (s : State) : State → Prop := fun t => ∃ o, t.status = .running ∧ Ended t below o ∧ lw_Q a s o t
/-- the law's own end, with 1 on the stack, nothing written that was there before, its room as the claim has it -/
theorem lw_ret {p : Program} {l : Launch} {e : Env} {s : State} {m : MethodId} {below : List Frame} {meth : Method} {c : Code} {b : Nat} (hx : p.tables.exec = Jvm.exec) (hb : c.code = code) (hr : meth.sig.returnType = ret) (hlocks : meth.locks = false) {pc : Nat} {H : Heap} {ls : Array Slot} (hdg : decode code pc = .ok (.ireturn, 1)) : W p l e room_1 s m #[Value.ref b] below meth c H [] 601024 7293034 (lw_Z below #[Value.ref b] s) (F0 m pc ls [.int 1]) := by
  intro T hT X
  obtain ⟨fs, hret, hrun, hended, hW, hframe⟩ := X.leave (v := some (.int 1)) (hlocks := hlocks) (fun h => by rw [hr] at h; cases h)
  have hmeth' : T.vm.method? m = some meth := X.method'
  refine ⟨T.setFrames fs, ?_, .returned (some (.int 1)), hrun, hended, rfl, ⟨_, rfl⟩, hW, hframe⟩
  jvm_step X.here [X.here.top, hx, hb, hdg, hmeth', hr, ret, narrow_b1]
  (try refine ⟨rfl, ?_⟩); (try refine ⟨rfl, ?_⟩)
  first | (intro acts; rw [hret _ acts rfl rfl rfl]) | rw [hret _ _ rfl rfl rfl]
  exact Steps.refl _
/-- what holds at the law's entry: the machine, the code, the tables' words (any of lw_tbl by 'hts w (by decide +kernel)'), the script of L ints xs at the cell b, what the Statement gives of the start (any of its parts by flat_of_before) -/
def lw_At (p : Program) (s : State) (m : MethodId) (meth : Method) (c : Code) (b L : Nat) (xs : Nat → Int32) : Prop :=
  p.tables.exec = Jvm.exec ∧ c.code = code ∧ meth.sig.returnType = ret ∧ c.maxLocals = 8 ∧ s.vm.findClass R_law = some m.cls ∧ (∀ w ∈ lw_tbl, w.before #[Value.ref b] s = true) ∧ va_X b L xs s s.heap ∧ b < s.heap.size ∧ meth.locks = false ∧ (Jvm.Cond.and given_1 narrow_1).before #[Value.ref b] s = true
theorem x_inst : ((List.range 13).all fun k => match vwCl[k]? with
  | some q => q_w (Cond.instantiable q.1 q.2.2) (([422, 177, 514, 126, 132, 367, 214, 272, 322, 251, 494, 118, 1343] : List Nat).getD k 0)
  | none => true) = true := by decide +kernel
theorem x_nest : ((List.range q_N.length).all fun k => match q_N[k]? with
  | some q => decide (lw_tbl[([323, 368, 492, 495, 515, 691, 700, 1126, 645, 654, 1080, 1086, 133, 178, 215, 252, 273, 1121, 640, 663, 586, 597, 896, 874, 883, 984, 1139, 1014, 1024, 957, 963] : List Nat).getD k 0]? = some (Cond.methodLinkNest q.1 q.2.1 q.2.2.1 q.2.2.2))
  | none => true) = true := by decide +kernel
theorem x_nest_in {q : String × Nat × MethodName × String} (hq : q ∈ q_N) : Cond.methodLinkNest q.1 q.2.1 q.2.2.1 q.2.2.2 ∈ lw_tbl := by
  obtain ⟨k, hk⟩ := List.getElem?_of_mem hq
  have h := List.all_eq_true.mp x_nest k (List.mem_range.mpr (List.getElem?_eq_some_iff.mp hk).1)
  rw [hk] at h
  exact List.mem_of_getElem? (of_decide_eq_true h)
theorem x_ao8 : Cond.arrayOver (.object "SunHouse$Shelf") ∈ lw_tbl := List.mem_of_getElem? (i := 321) (by decide +kernel)
theorem x_ao7 : Cond.arrayOver (.object "SunHouse$Seeker") ∈ lw_tbl := List.mem_of_getElem? (i := 212) (by decide +kernel)
theorem x_lU : Cond.laysStatic Bundle.tN "UNASSIGNED_STACK" Bundle.steD ∈ lw_tbl := List.mem_of_getElem? (i := 1256) (by decide +kernel)
theorem x_lN : Cond.laysStatic Bundle.tN "SUPPRESSED_SENTINEL" Bundle.listD ∈ lw_tbl := List.mem_of_getElem? (i := 1258) (by decide +kernel)
theorem x_iT : Cond.initialized Bundle.tN ∈ lw_tbl := List.mem_of_getElem? (i := 109) (by decide +kernel)
theorem x_s1 : Cond.stringRef "SunHouse" 151 "no such part, or no such current" ∈ lw_tbl := List.mem_of_getElem? (i := 1269) (by decide +kernel)
theorem x_s2 : Cond.stringRef "SunHouse" 320 "no such part, or no such cause" ∈ lw_tbl := List.mem_of_getElem? (i := 1308) (by decide +kernel)
theorem x_s3 : Cond.stringRef "SunHouse" 380 "no such shelf" ∈ lw_tbl := List.mem_of_getElem? (i := 1325) (by decide +kernel)
theorem x_s4 : Cond.stringRef "SunHouse" 387 "no row, or no such place in it" ∈ lw_tbl := List.mem_of_getElem? (i := 1335) (by decide +kernel)
theorem x_cA : Cond.castable x_IAE x_IAE ∈ lw_tbl := List.mem_of_getElem? (i := 1231) (by decide +kernel)
theorem x_cS : Cond.castable x_ISE x_ISE ∈ lw_tbl := List.mem_of_getElem? (i := 1328) (by decide +kernel)
theorem x_wR : Cond.declares x_dR ∈ lw_tbl := List.mem_of_getElem? (i := 1233) (by decide +kernel)
theorem x_wE : Cond.declares x_dE ∈ lw_tbl := List.mem_of_getElem? (i := 1235) (by decide +kernel)
theorem x_wT : Cond.declares x_dT ∈ lw_tbl := List.mem_of_getElem? (i := 1237) (by decide +kernel)
theorem x_nU : (Cond.isRef (.static Bundle.tN "UNASSIGNED_STACK" Bundle.steD)) ∈ flatC (Jvm.Cond.and given_1 narrow_1) := by decide +kernel
theorem x_nN : (Cond.isRef (.static Bundle.tN "SUPPRESSED_SENTINEL" Bundle.listD)) ∈ flatC (Jvm.Cond.and given_1 narrow_1) := by decide +kernel
theorem x_nC : (Cond.not (.castable x_ISE x_IAE)) ∈ flatC (Jvm.Cond.and given_1 narrow_1) := by decide +kernel
def x_tA (cI cL c8 c7 : ClassId) : Nat → ClassId := fun k => if k = 100 then cI else if k = 101 then cL else if k = 110 then c8 else c7
theorem x_str {args : Array Value} {s : State} {cur : ClassId} {k : Nat} {tx : String} (hcur : s.vm.findClass "SunHouse" = some cur) (h : (Cond.stringRef "SunHouse" k tx).before args s = true) : ∃ a, vk_R "SunHouse" k tx a s := by
  have h1 : (Cond.stringRef "SunHouse" k tx).before #[] s = true := by simpa only [Cond.before, Cond.holds, Cond.value] using h
  obtain ⟨k', cf, i, a, -, -, -, -, -, hev⟩ := Cond.stringRef_spec (idx := []) (first := s) (o := none) (args := #[]) hcur h1
  exact ⟨a, h1, hev⟩
