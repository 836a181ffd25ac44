/-! THE CLAIM OUT OF ONE WALK OF THE LAW'S BODY. Your part is whole_start (and what it stands on); all else here is the same for every law, but numbers. -/
def R_law : String := "SunHouseLaw"
def lw_P (b : Addr) (xs : List Int32) (args : Array Value) (s : State) : Prop := args = #[.ref b] ∧ s.IntsAt b xs ∧ xs.length ≤ 3072 ∧ (Jvm.Cond.and given_1 narrow_1).before args s = true
def lw_Q (_ : Array Value) (s : State) (o : Outcome) (t : State) : Prop := o = .returned (some (.int 1)) ∧ Framed s o t [] 601024 7293034
def lw_Z (below : List Frame) (a : Array Value) (s : State) : State → Prop := fun t => ∃ o, t.status = .running ∧ Ended t below o ∧ lw_Q a s o t
/-- the law's own end, with 1 on the stack, nothing written that was there before, its room as the claim has it -/
theorem lw_ret {p : Program} {l : Launch} {e : Env} {s : State} {m : MethodId} {below : List Frame} {meth : Method} {c : Code} {b : Nat} (hx : p.tables.exec = Jvm.exec) (hb : c.code = code) (hr : meth.sig.returnType = ret) (hlocks : meth.locks = false) {pc : Nat} {H : Heap} {ls : Array Slot} (hdg : decode code pc = .ok (.ireturn, 1)) : W p l e room_1 s m #[Value.ref b] below meth c H [] 601024 7293034 (lw_Z below #[Value.ref b] s) (F0 m pc ls [.int 1]) := by
  intro T hT X
  obtain ⟨fs, hret, hrun, hended, hW, hframe⟩ := X.leave (v := some (.int 1)) (hlocks := hlocks) (fun h => by rw [hr] at h; cases h)
  have hmeth' : T.vm.method? m = some meth := X.method'
  refine ⟨T.setFrames fs, ?_, .returned (some (.int 1)), hrun, hended, rfl, ⟨_, rfl⟩, hW, hframe⟩
  jvm_step X.here [X.here.top, hx, hb, hdg, hmeth', hr, ret, narrow_b1]
  (try refine ⟨rfl, ?_⟩); (try refine ⟨rfl, ?_⟩)
  first | (intro acts; rw [hret _ acts rfl rfl rfl]) | rw [hret _ _ rfl rfl rfl]
  exact Steps.refl _
/-- what holds at the law's entry: the machine, the code, the tables' words (any of lw_tbl by 'hts w (by decide +kernel)'), the script of L ints xs at the cell b, what the Statement gives of the start (any of its parts by flat_of_before) -/
def lw_At (p : Program) (s : State) (m : MethodId) (meth : Method) (c : Code) (b L : Nat) (xs : Nat → Int32) : Prop :=
  p.tables.exec = Jvm.exec ∧ c.code = code ∧ meth.sig.returnType = ret ∧ c.maxLocals = 8 ∧ s.vm.findClass R_law = some m.cls ∧ (∀ w ∈ lw_tbl, w.before #[Value.ref b] s = true) ∧ va_X b L xs s s.heap ∧ b < s.heap.size ∧ meth.locks = false ∧ (Jvm.Cond.and given_1 narrow_1).before #[Value.ref b] s = true
theorem x_inst : ((List.range 13).all fun k => match vwCl[k]? with
  | some q => q_w (Cond.instantiable q.1 q.2.2) (([422, 177, 514, 126, 132, 367, 214, 272, 322, 251, 494, 118, 1343] : List Nat).getD k 0)
  | none => true) = true := by decide +kernel
theorem x_nest : ((List.range q_N.length).all fun k => match q_N[k]? with
  | some q => decide (lw_tbl[([323, 368, 492, 495, 515, 691, 700, 1126, 645, 654, 1080, 1086, 133, 178, 215, 252, 273, 1121, 640, 663, 586, 597, 896, 874, 883, 984, 1139, 1014, 1024, 957, 963] : List Nat).getD k 0]? = some (Cond.methodLinkNest q.1 q.2.1 q.2.2.1 q.2.2.2))
  | none => true) = true := by decide +kernel
theorem x_nest_in {q : String × Nat × MethodName × String} (hq : q ∈ q_N) : Cond.methodLinkNest q.1 q.2.1 q.2.2.1 q.2.2.2 ∈ lw_tbl := by
  obtain ⟨k, hk⟩ := List.getElem?_of_mem hq
  have h := List.all_eq_true.mp x_nest k (List.mem_range.mpr (List.getElem?_eq_some_iff.mp hk).1)
  rw [hk] at h
  exact List.mem_of_getElem? (of_decide_eq_true h)
theorem x_ao8 : Cond.arrayOver (.object "SunHouse$Shelf") ∈ lw_tbl := List.mem_of_getElem? (i := 321) (by decide +kernel)
theorem x_ao7 : Cond.arrayOver (.object "SunHouse$Seeker") ∈ lw_tbl := List.mem_of_getElem? (i := 212) (by decide +kernel)
theorem x_lU : Cond.laysStatic Bundle.tN "UNASSIGNED_STACK" Bundle.steD ∈ lw_tbl := List.mem_of_getElem? (i := 1256) (by decide +kernel)
theorem x_lN : Cond.laysStatic Bundle.tN "SUPPRESSED_SENTINEL" Bundle.listD ∈ lw_tbl := List.mem_of_getElem? (i := 1258) (by decide +kernel)
theorem x_iT : Cond.initialized Bundle.tN ∈ lw_tbl := List.mem_of_getElem? (i := 109) (by decide +kernel)
theorem x_s1 : Cond.stringRef "SunHouse" 151 "no such part, or no such current" ∈ lw_tbl := List.mem_of_getElem? (i := 1269) (by decide +kernel)
theorem x_s2 : Cond.stringRef "SunHouse" 320 "no such part, or no such cause" ∈ lw_tbl := List.mem_of_getElem? (i := 1308) (by decide +kernel)
theorem x_s3 : Cond.stringRef "SunHouse" 380 "no such shelf" ∈ lw_tbl := List.mem_of_getElem? (i := 1325) (by decide +kernel)
theorem x_s4 : Cond.stringRef "SunHouse" 387 "no row, or no such place in it" ∈ lw_tbl := List.mem_of_getElem? (i := 1335) (by decide +kernel)
theorem x_cA : Cond.castable x_IAE x_IAE ∈ lw_tbl := List.mem_of_getElem? (i := 1231) (by decide +kernel)
theorem x_cS : Cond.castable x_ISE x_ISE ∈ lw_tbl := List.mem_of_getElem? (i := 1328) (by decide +kernel)
theorem x_wR : Cond.declares x_dR ∈ lw_tbl := List.mem_of_getElem? (i := 1233) (by decide +kernel)
theorem x_wE : Cond.declares x_dE ∈ lw_tbl := List.mem_of_getElem? (i := 1235) (by decide +kernel)
theorem x_wT : Cond.declares x_dT ∈ lw_tbl := List.mem_of_getElem? (i := 1237) (by decide +kernel)
theorem x_nU : (Cond.isRef (.static Bundle.tN "UNASSIGNED_STACK" Bundle.steD)) ∈ flatC (Jvm.Cond.and given_1 narrow_1) := by decide +kernel
theorem x_nN : (Cond.isRef (.static Bundle.tN "SUPPRESSED_SENTINEL" Bundle.listD)) ∈ flatC (Jvm.Cond.and given_1 narrow_1) := by decide +kernel
theorem x_nC : (Cond.not (.castable x_ISE x_IAE)) ∈ flatC (Jvm.Cond.and given_1 narrow_1) := by decide +kernel
def x_tA (cI cL c8 c7 : ClassId) : Nat → ClassId := fun k => if k = 100 then cI else if k = 101 then cL else if k = 110 then c8 else c7
theorem x_str {args : Array Value} {s : State} {cur : ClassId} {k : Nat} {tx : String} (hcur : s.vm.findClass "SunHouse" = some cur) (h : (Cond.stringRef "SunHouse" k tx).before args s = true) : ∃ a, vk_R "SunHouse" k tx a s := by
  have h1 : (Cond.stringRef "SunHouse" k tx).before #[] s = true := by simpa only [Cond.before, Cond.holds, Cond.value] using h
  obtain ⟨k', cf, i, a, -, -, -, -, -, hev⟩ := Cond.stringRef_spec (idx := []) (first := s) (o := none) (args := #[]) hcur h1
  exact ⟨a, h1, hev⟩
def x_roa (b t1 t2 t3 t4 : Nat) (k : Nat) : Nat := match k with
  | 0 => b
  | 1 => t1
  | 2 => t2
  | 3 => t3
  | _ => t4
theorem x_Tlt {ty : FieldType} {t N : Nat} {f : Nat → Value} {A : Nat → Prop} {U : State} {H : Heap} (h : va_T ty t N f A U H) : t < H.size := by
  obtain ⟨cell, h1, _⟩ := h
  exact (Array.getElem?_eq_some_iff.mp h1).1
theorem x_iSH : Cond.initialized "SunHouse" ∈ lw_tbl := List.mem_of_getElem? (i := 95) (by decide +kernel)
theorem x_l1 : Cond.laysStatic "SunHouse" "MOST_OF_CAUSE" "[I" ∈ lw_tbl := List.mem_of_getElem? (i := 722) (by decide +kernel)
theorem x_y1a : Cond.arrayOf (.static "SunHouse" "MOST_OF_CAUSE" "[I") .int ∈ flatC (Jvm.Cond.and given_1 narrow_1) := by decide +kernel
theorem x_y1l : Cond.eq (.length (.static "SunHouse" "MOST_OF_CAUSE" "[I")) (.int (Int32.ofNat 4)) ∈ flatC (Jvm.Cond.and given_1 narrow_1) := by decide +kernel
theorem x_y1e : ∀ j : Nat, j < 4 → Cond.eq (.elem (.static "SunHouse" "MOST_OF_CAUSE" "[I") (.int (Int32.ofNat j))) (.int (x_t 1 j)) ∈ flatC (Jvm.Cond.and given_1 narrow_1) := by decide +kernel
theorem x_l2 : Cond.laysStatic "SunHouse" "ORDERS_BEHIND_SET" "[I" ∈ lw_tbl := List.mem_of_getElem? (i := 1310) (by decide +kernel)
theorem x_y2a : Cond.arrayOf (.static "SunHouse" "ORDERS_BEHIND_SET" "[I") .int ∈ flatC (Jvm.Cond.and given_1 narrow_1) := by decide +kernel
theorem x_y2l : Cond.eq (.length (.static "SunHouse" "ORDERS_BEHIND_SET" "[I")) (.int (Int32.ofNat 4)) ∈ flatC (Jvm.Cond.and given_1 narrow_1) := by decide +kernel
theorem x_y2e : ∀ j : Nat, j < 4 → Cond.eq (.elem (.static "SunHouse" "ORDERS_BEHIND_SET" "[I") (.int (Int32.ofNat j))) (.int (x_t 2 j)) ∈ flatC (Jvm.Cond.and given_1 narrow_1) := by decide +kernel
theorem x_l3 : Cond.laysStatic "SunHouse" "EASTWARD" "[I" ∈ lw_tbl := List.mem_of_getElem? (i := 880) (by decide +kernel)
theorem x_y3a : Cond.arrayOf (.static "SunHouse" "EASTWARD" "[I") .int ∈ flatC (Jvm.Cond.and given_1 narrow_1) := by decide +kernel
theorem x_y3l : Cond.eq (.length (.static "SunHouse" "EASTWARD" "[I")) (.int (Int32.ofNat 8)) ∈ flatC (Jvm.Cond.and given_1 narrow_1) := by decide +kernel
theorem x_y3e : ∀ j : Nat, j < 8 → Cond.eq (.elem (.static "SunHouse" "EASTWARD" "[I") (.int (Int32.ofNat j))) (.int (x_t 3 j)) ∈ flatC (Jvm.Cond.and given_1 narrow_1) := by decide +kernel
theorem x_l4 : Cond.laysStatic "SunHouse" "NORTHWARD" "[I" ∈ lw_tbl := List.mem_of_getElem? (i := 882) (by decide +kernel)
theorem x_y4a : Cond.arrayOf (.static "SunHouse" "NORTHWARD" "[I") .int ∈ flatC (Jvm.Cond.and given_1 narrow_1) := by decide +kernel
theorem x_y4l : Cond.eq (.length (.static "SunHouse" "NORTHWARD" "[I")) (.int (Int32.ofNat 8)) ∈ flatC (Jvm.Cond.and given_1 narrow_1) := by decide +kernel
theorem x_y4e : ∀ j : Nat, j < 8 → Cond.eq (.elem (.static "SunHouse" "NORTHWARD" "[I") (.int (Int32.ofNat j))) (.int (x_t 4 j)) ∈ flatC (Jvm.Cond.and given_1 narrow_1) := by decide +kernel
theorem x_nE : Cond.fieldLinkNest "SunHouse$Roof" 55 "SunHouse" "EASTWARD" "[I" "SunHouse" ∈ lw_tbl := List.mem_of_getElem? (i := 879) (by decide +kernel)
theorem x_nO : Cond.fieldLinkNest "SunHouse$Roof" 58 "SunHouse" "NORTHWARD" "[I" "SunHouse" ∈ lw_tbl := List.mem_of_getElem? (i := 881) (by decide +kernel)
/-- the machine at the law's entry -/
theorem x_entry {p : Program} {s : State} {m : MethodId} {meth : Method} {c : Code} {b L : Nat} {xs : Nat → Int32} (C0 : lw_At p s m meth c b L xs) :
    ∃ (D : va_G) (tA : Nat → ClassId) (tys : List (ClassId × FieldType)) (t1 t2 t3 t4 : Nat), m_G s.heap.size (x_roa b t1 t2 t3 t4) (x_ro L xs) tA D tys (x_XF s.heap.size (x_roa b t1 t2 t3 t4)) s s.heap := by
  obtain ⟨hx, hb, hr, hml, hown, hts, hX, hbl, hlocks, hgv⟩ := C0
  have hq : ∀ w ∈ q_W, w.before #[Value.ref b] s = true := fun w hw => hts w (List.mem_filter.mp hw).1
  have hfl := flat_of_before _ hgv
  have h2 : ∀ k : Nat, ∃ z : ClassId × (Nat → Nat), ∀ q : vw_C, vwCl[k]? = some q → u_Kn s q.1 q.2.1 q.2.2 z.1 z.2 := by
    intro k
    cases hk : vwCl[k]? with
    | none => exact ⟨(0, fun _ => 0), fun q h => by cases h⟩
    | some q =>
      have hlt : k < 13 := (List.getElem?_eq_some_iff.mp hk).1
      have hi := List.all_eq_true.mp x_inst k (List.mem_range.mpr hlt)
      rw [hk] at hi
      obtain ⟨C, T, N⟩ := q
      obtain ⟨-, -, hws, -⟩ := q_cl_ok hk
      obtain ⟨cC, iS, hu⟩ := u_known hq hws (hq _ (q_w_ok hi))
      exact ⟨(cC, iS), fun q' h' => by cases h'; exact hu⟩
  have hD : ∀ (k : Nat) (q : vw_C), vwCl[k]? = some q → u_Kn s q.1 q.2.1 q.2.2 (h2 k).choose.1 (h2 k).choose.2 := fun k q hk => (h2 k).choose_spec q hk
  obtain ⟨cI, kI, compI, i1, i2, i3⟩ := Cond.arrayClass_spec (hq _ q_ai_ok.1)
  obtain ⟨cL, kL, compL, l1, l2, l3⟩ := Cond.arrayClass_spec (hq _ q_ai_ok.2)
  obtain ⟨comp8, c8, k8, a1, a2, a3, a4, a5⟩ := Cond.arrayOver_spec (hts _ x_ao8)
  obtain ⟨comp7, c7, k7, b1, b2, b3, b4, b5⟩ := Cond.arrayOver_spec (hts _ x_ao7)
  have hcur : s.vm.findClass "SunHouse" = some (h2 11).choose.1 := (hD 11 _ (show vwCl[11]? = some (RX11, TX11, 10) from rfl)).2.1
  obtain ⟨t1, e1, T1⟩ := va_Tof (tm := .static "SunHouse" "MOST_OF_CAUSE" "[I") (ty := .int) (N := 4) (f := fun j => Value.int (x_t 1 j)) (A := fun q => s.heap.size ≤ q) (by decide) (hfl _ x_y1a) (va_eqt (hfl _ x_y1l)) (fun j hj => va_eqt (hfl _ (x_y1e j hj))) (fun a ha => Nat.not_le.mpr ha)
  obtain ⟨t2, e2, T2⟩ := va_Tof (tm := .static "SunHouse" "ORDERS_BEHIND_SET" "[I") (ty := .int) (N := 4) (f := fun j => Value.int (x_t 2 j)) (A := fun q => s.heap.size ≤ q) (by decide) (hfl _ x_y2a) (va_eqt (hfl _ x_y2l)) (fun j hj => va_eqt (hfl _ (x_y2e j hj))) (fun a ha => Nat.not_le.mpr ha)
  obtain ⟨t3, e3, T3⟩ := va_Tof (tm := .static "SunHouse" "EASTWARD" "[I") (ty := .int) (N := 8) (f := fun j => Value.int (x_t 3 j)) (A := fun q => s.heap.size ≤ q) (by decide) (hfl _ x_y3a) (va_eqt (hfl _ x_y3l)) (fun j hj => va_eqt (hfl _ (x_y3e j hj))) (fun a ha => Nat.not_le.mpr ha)
  obtain ⟨t4, e4, T4⟩ := va_Tof (tm := .static "SunHouse" "NORTHWARD" "[I") (ty := .int) (N := 8) (f := fun j => Value.int (x_t 4 j)) (A := fun q => s.heap.size ≤ q) (by decide) (hfl _ x_y4a) (va_eqt (hfl _ x_y4l)) (fun j hj => va_eqt (hfl _ (x_y4e j hj))) (fun a ha => Nat.not_le.mpr ha)
  refine ⟨(fun k => (h2 k).choose.1, fun k => (h2 k).choose.2), x_tA cI cL c8 c7, [(cI, .int), (cL, .long), (c8, .object "SunHouse$Shelf"), (c7, .object "SunHouse$Seeker")], t1, t2, t3, t4, ⟨hD, ?_⟩, ⟨rfl, rfl, ?_⟩, ?_, ?_, ?_, ⟨⟨?_, ?_, ?_, ?_, ?_, ?_, ?_, ?_, ?_, ?_, ?_, ?_⟩, ⟨?_, ?_, ?_, ?_, ?_, ?_⟩⟩, Nat.le_refl _⟩
  · intro k q hk
    match k, hk with
    | 0, hk => cases hk; exact ⟨fun n z => ⟨fun k h => (by cases h), kI, i2, compI, i3⟩, i1⟩
    | 1, hk => cases hk; exact ⟨fun n z => ⟨fun k h => (by cases h), kL, l2, compL, l3⟩, l1⟩
    | 2, hk => cases hk; exact ⟨fun n z => ⟨fun k h => (by cases h), k8, a3, comp8, a4⟩, k8, comp8, a3, a4, a1, a5⟩
    | 3, hk => cases hk; exact ⟨fun n z => ⟨fun k h => (by cases h), k7, b3, comp7, b4⟩, k7, comp7, b3, b4, b1, b5⟩
    | k + 4, hk => cases hk
  · intro ci hci
    have hc2 : ci = 7 ∨ ci = 8 := by
      unfold q_ra at hci
      rw [Bool.or_eq_true] at hci
      rcases hci with h | h
      · exact Or.inl (Nat.eq_of_beq_eq_true h)
      · exact Or.inr (Nat.eq_of_beq_eq_true h)
    rcases hc2 with rfl | rfl
    · exact ⟨3, _, _, _, rfl, rfl⟩
    · exact ⟨2, _, _, _, rfl, rfl⟩
  · intro a n f ha hf
    have hcs : a = 0 ∨ a = 1 ∨ a = 2 ∨ a = 3 ∨ a = 4 ∨ 5 ≤ a := by omega
    rcases hcs with rfl | rfl | rfl | rfl | rfl | h5
    · cases (show some (L, xs) = some (n, f) from hf)
      obtain ⟨cell, k1, k2, k3, k4, k5⟩ := hX
      exact ⟨⟨cell, k1, k2, k3, Nat.le_of_eq k4.symm, by rw [k4], k5, Nat.not_le.mpr hbl⟩, hbl, Nat.not_le.mpr hbl⟩
    · cases (show some (4, x_t 1) = some (n, f) from hf)
      exact ⟨T1, x_Tlt T1, Nat.not_le.mpr (x_Tlt T1)⟩
    · cases (show some (4, x_t 2) = some (n, f) from hf)
      exact ⟨T2, x_Tlt T2, Nat.not_le.mpr (x_Tlt T2)⟩
    · cases (show some (8, x_t 3) = some (n, f) from hf)
      exact ⟨T3, x_Tlt T3, Nat.not_le.mpr (x_Tlt T3)⟩
    · cases (show some (8, x_t 4) = some (n, f) from hf)
      exact ⟨T4, x_Tlt T4, Nat.not_le.mpr (x_Tlt T4)⟩
    · unfold x_ro at hf
      rw [if_neg (by omega), if_neg (by omega), if_neg (by omega), if_neg (by omega), if_neg (by omega)] at hf
      cases hf
  · exact fun q hq2 => va_Nw.of rfl (hts _ (x_nest_in hq2))
  · intro ci C T N hci hcl
    have hc2 : ci = 7 ∨ ci = 8 := by
      unfold q_ra at hci
      rw [Bool.or_eq_true] at hci
      rcases hci with h | h
      · exact Or.inl (Nat.eq_of_beq_eq_true h)
      · exact Or.inr (Nat.eq_of_beq_eq_true h)
    rcases hc2 with rfl | rfl
    · cases hcl; exact va_AO.of (hts _ x_ao7)
    · cases hcl; exact va_AO.of (hts _ x_ao8)
  · exact vx_Zqof (hts _ x_lU) (hts _ x_iT) (hfl _ x_nU) (fun a ha => Nat.not_le.mpr ha)
  · exact vx_Zqof (hts _ x_lN) (hts _ x_iT) (hfl _ x_nN) (fun a ha => Nat.not_le.mpr ha)
  · exact x_str hcur (hts _ x_s1)
  · exact x_str hcur (hts _ x_s2)
  · exact x_str hcur (hts _ x_s3)
  · exact x_str hcur (hts _ x_s4)
  · exact va_Nw.of rfl (hts _ x_cA)
  · exact va_Nw.of rfl (hts _ x_cS)
  · exact va_Nc.of (hfl _ x_nC)
  · exact va_Nw.of rfl (hts _ x_wR)
  · exact va_Nw.of rfl (hts _ x_wE)
  · exact va_Nw.of rfl (hts _ x_wT)
  · exact va_Zref (hts _ x_l1) (hts _ x_iSH) e1 (fun a ha => Nat.not_le.mpr ha)
  · exact va_Zref (hts _ x_l2) (hts _ x_iSH) e2 (fun a ha => Nat.not_le.mpr ha)
  · exact va_Zref (hts _ x_l3) (hts _ x_iSH) e3 (fun a ha => Nat.not_le.mpr ha)
  · exact va_Zref (hts _ x_l4) (hts _ x_iSH) e4 (fun a ha => Nat.not_le.mpr ha)
  · exact va_Nw.of rfl (hts _ x_nE)
  · exact va_Nw.of rfl (hts _ x_nO)
set_option maxHeartbeats 4000000 in
/-- the law's end -/
theorem x_end {p : Program} {e : Env} {s : State} {m : MethodId} {below : List Frame} {meth : Method} {c : Code} (l : Launch) (hflags : l.flags = flags0) {b L : Nat} {xs : Nat → Int32} (C0 : lw_At p s m meth c b L xs)
    {k : Nat} {w' : MWd} (h : m_run (x_ro L xs) k 60 274 0 [(0, .inr (.inr (some 0)))] [] (8, 0, 0, fun _ => (0, 0), fun _ _ => .inl 0) = some (.inl (some (.inl 1)), w')) (hc : mcx w' ≤ 601024) (hs : msl w' ≤ 7293034) :
    W p l e room_1 s m #[Value.ref b] below meth c s.heap [] 0 0 (lw_Z below #[Value.ref b] s) (entryFrame m ([Value.ref b] : List Value).toArray 8) := by
  obtain ⟨D, tA, tys, t1, t2, t3, t4, hG⟩ := x_entry C0
  obtain ⟨hx, hb, hr, hml, hown, hts, hX, hbl, hlocks, hgv⟩ := C0
  have hfl : l.stackTraces = false := by unfold Launch.stackTraces; rw [hflags]; decide +kernel
  have hok := m_sound (l := l) (roa := x_roa b t1 t2 t3 t4) (tA := tA) (D := D) (tys := tys) (x_X3 s.heap.size _) (x_Throw l hfl s.heap.size _) (x_Catch l s.heap.size _) (x_Stat l s.heap.size _) _ _ _ _ _ _ _ _ _ h
  rw [lg_entry_eq]
  have hl := m_ent_has (base := s.heap.size) (roa := x_roa b t1 t2 t3 t4) (cm := 274) (As := [.inr (.inr (some 0))]) (by decide +kernel)
  refine hok p e room_1 s m #[Value.ref b] below meth c s.heap [] 0 0 (mcx w') (msl w') _ _ hx hb hml hown (fun w hw => hts w (List.mem_filter.mp hw).1) (fun hi => absurd hi (by decide +kernel)) hG hl ?_ va_S.rf (Nat.le_refl _) (Nat.le_refl _) (fun _ => Nat.le_refl _) (by decide) (by decide) (Nat.le_trans hc (by decide)) (Nat.le_trans hs (by decide)) (Nat.zero_add _) (Nat.zero_add _) ?_ ?_ ?_
  · intro k q hk
    simp [m_ws] at hk
  · intro v hv i len pc ls H locs st hret hd hn hP hS
    cases hv
    refine va_forget (fun q hq => hS.2.2 q hq) ?_
    refine W.widen hc hs ?_
    unfold m_ret at hret
    split at hret
    · split at hret <;> cases hret
    · split at hret
      · cases hret
        have hd3 : decode code pc = .ok (.ireturn, 1) := by have e : 1 = len := hn.resolve_right (by decide); subst e; exact hd
        exact lw_ret hx hb hr hlocks hd3
      · split at hret
        · cases hret
          have hd3 : decode code pc = .ok (.ireturn, 1) := by have e : 1 = len := hn.resolve_right (by decide); subst e; exact hd
          exact lw_ret hx hb hr hlocks hd3
        · cases hret
      · cases hret
    · split at hret <;> cases hret
    · split at hret <;> cases hret
    · cases hret
  · intro E hE
    cases hE
  · intro pc E hh hq
    exact absurd hq (by rw [q_htt_no (by decide +kernel)]; exact fun h => by cases h)
