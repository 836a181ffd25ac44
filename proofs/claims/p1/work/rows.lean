section
/-! ===== BEGIN words of one list among another's, by their places ===== -/
theorem goodIn_r {big : List Cond} (ws : List Cond) (ps : List Nat) (hp : ws = ps.filterMap (fun i => big[i]?)) (h : ws.all goodWord = true) : GoodIn big ws := by
  intro w hw
  have h1 := List.all_eq_true.mp h w hw
  rw [hp] at hw
  obtain ⟨i, -, hi⟩ := List.mem_filterMap.mp hw
  have hm : w ∈ big := by first | exact List.mem_of_getElem? hi | exact List.getElem?_mem hi
  exact ⟨hm, good_of_word h1⟩
theorem goodIn_app {big a b : List Cond} (ha : GoodIn big a) (hb : GoodIn big b) : GoodIn big (a ++ b) := fun w h => (List.mem_append.mp h).elim (ha w) (hb w)
theorem goodIn_ca {big a b : List Cond} {c : Cond} (ha : GoodIn big (c :: a)) (hb : GoodIn big b) : GoodIn big (c :: (a ++ b)) := fun w h => (List.mem_cons.mp h).elim (fun e => ha w (List.mem_cons.mpr (Or.inl e))) (fun h => (List.mem_append.mp h).elim (fun h => ha w (List.mem_cons.mpr (Or.inr h))) (hb w))
theorem goodIn_sub {big ws : List Cond} (hm : ∀ w ∈ ws, w ∈ big) (h : ws.all goodWord = true) : GoodIn big ws := fun w hw => ⟨hm w hw, good_of_word (List.all_eq_true.mp h w hw)⟩
/-! ===== END ===== -/

/-! ===== BEGIN exceptions that leave a method, and their catching by the caller (launches without stack traces) ===== -/
section VXA
/-! The laws vx_back, vx_callV, vx_callS, vx_callSW, vx_throw0, vx_throwS follow proofs of the library, with one case more: JvmDerived/Free/Laws.lean (Back.of_free), Shelf42/LK1.lean (callV, callS), Shelf/KitTraced.lean (throwNew0V, throwNewS). -/
/-- where a method has thrown q: the class by its name, the cell, what was written, the world -/
def vx_T (XC : String → State → State → Prop) (st : State) (q : Addr) (t : State) (mc ms : Nat) (free : Addr → Prop) : Prop :=
  ∃ (E : String) (ce : Cell) (L : List Loc), XC E st t ∧ t.heap[q]? = some ce ∧ ce.vm = .none ∧ st.vm.findClass E = some ce.cls ∧ st.WarmedH t.vm ∧ st.sameButNew ({ t with vm := st.vm } : State) L mc ms ∧ ∀ z ∈ L, free z.base
def vx_Q (Qc : Array Value → State → Outcome → State → Prop) (XC : String → State → State → Prop) (mc ms : Nat) (free : Addr → Prop) : Array Value → State → Outcome → State → Prop := fun a st o t =>
  (Qc a st o t ∧ ∃ L, FrameEnd st o t L mc ms ∧ ∀ q ∈ L, free q.base) ∨ ∃ q, o = .threw q ∧ vx_T XC st q t mc ms free
/-- a callee that returns or throws -/
def vx_Met (l : Launch) (y : MethodName) (ws : List Cond) (rm : Room) (Pc : Array Value → State → Prop) (Qc : Array Value → State → Outcome → State → Prop) (XC : String → State → State → Prop) (mc ms : Nat) (free : Addr → Prop) : Prop :=
  MetFree l y (headSpec ws rm) Pc (fun _ _ _ _ _ => True) (vx_Q Qc XC mc ms free)
def vx_Post (XC : String → State → State → Prop) (mc ms : Nat) (free : Addr → Prop) : Pt → Array Value → Addr → Pt → Prop := fun A a q B =>
  ∃ (g : JFrame) (mk : MethodId) (t : State) (L : List Loc) (E : String) (ce : Cell), B.U.heap = t.heap ∧ B.U.vm = t.vm ∧ XC E (A.U.calling g mk a) t ∧ t.heap[q]? = some ce ∧ ce.vm = .none ∧ A.U.vm.findClass E = some ce.cls ∧ B.locs = A.locs ++ L ∧ (∀ z ∈ L, free z.base) ∧ B.cells = A.cells + mc ∧ B.slots = A.slots + ms
def vx_Back (l : Launch) (R : Room) (p : Program) (e : Env) (below : List Frame) (s : State) (sargs : Array Value) (y : MethodName) (len W9 : Nat)
    (Pre : Pt → Array Value → Prop) (Post : Pt → Array Value → Option Value → Pt → Prop) (PostX : Pt → Array Value → Addr → Pt → Prop) : Prop :=
  ∀ (m : MethodId) (meth : Method) (c : Code) (A : Pt) (g : JFrame) (ig : Instr) (mk : MethodId) (a : Array Value),
    Stand p l e R s m sargs below meth c A.U A.locs A.cells A.slots → g.method = m → g.locals.size = c.maxLocals → decode c.code g.pc = .ok (ig, len) →
    2 * g.monitorRoom + (g.stack.map fun v => v.category).sum ≤ W9 → A.U.methodNamed? y = some mk → Pre A a →
    (∃ (v : Option Value) (B : Pt), Stand p l e R s m sargs below meth c B.U B.locs B.cells B.slots ∧ Post A a v B ∧
      Steps p.tables e below (doInvoke e (A.U.setTop g) [] mk a).1 (B.U.setTop { g with pc := g.pc + len, stack := v.toList ++ g.stack })) ∨
    (∃ (q : Addr) (B : Pt), Stand p l e R s m sargs below meth c B.U B.locs B.cells B.slots ∧ PostX A a q B ∧
      Steps p.tables e below (doInvoke e (A.U.setTop g) [] mk a).1 ((B.U.setTop g).pushFrame (.throwing q)))
section Payer
variable {l : Launch} {R : Room} {p : Program} {e : Env} {below : List Frame} {s : State} {sargs : Array Value} {y : MethodName} {len W9 : Nat}
theorem vx_back {ws : List Cond} {rm : Room} {Pc : Array Value → State → Prop} {Qc : Array Value → State → Outcome → State → Prop} {XC : String → State → State → Prop} {mc ms : Nat} {free : Addr → Prop} {bytes : ByteArray} {maxL : Nat} {ret : Option FieldType}
    (hM : vx_Met l y ws rm Pc Qc XC mc ms free) (hblind : FrameBlind Pc) (hrc : rm.cells = mc) (hrs : rm.slots = ms)
    (hframes : rm.frames + 1 ≤ R.frames) (hlocals : W9 + (maxL + 11) + rm.locals ≤ R.locals)
    (hws : ∀ w ∈ ws, ∀ a' U, s.WarmedH U.vm → w.before a' U = true) (hcode : Cond.code y bytes maxL ret ∈ ws) (hinit : ∀ a' U, s.WarmedH U.vm → (Cond.initialized y.cls).before a' U = true) :
    vx_Back l R p e below s sargs y len W9 (PreOf R mc ms Pc) (PostOf Qc mc ms free) (vx_Post XC mc ms free) := by
  intro m meth c A g ig mk a X hg hsize hdg hW hn hp
  have h1 : (headSpec ws rm).pre.before a A.U = true := atoms_intro fun w hw => hws w hw _ _ X.warmed
  have h2 : (Cond.code y bytes maxL ret).before a A.U = true := hws _ hcode _ _ X.warmed
  have h3 : (Cond.initialized y.cls).before a A.U = true := hinit _ _ X.warmed
  have h4 : A.cells + (headSpec ws rm).room.cells ≤ R.cells := by rw [show (headSpec ws rm).room.cells = mc from hrc]; exact hp.1
  have h5 : A.slots + (headSpec ws rm).room.slots ≤ R.slots := by rw [show (headSpec ws rm).room.slots = ms from hrs]; exact hp.2.1
  have hPc : Pc a (A.U.calling g mk a) := hblind _ _ _ _ hp.2.2
  obtain ⟨U, Ls, c0, s0⟩ := A
  dsimp only [Pt.U, Pt.locs, Pt.cells, Pt.slots] at h1 h2 h3 h4 h5 X hn hPc ⊢
  obtain ⟨methY, cY, hmY, hcY, -, hlY, -, -, -, -⟩ := Cond.code_spec hn h2
  obtain ⟨kY, hkY, -⟩ := className_of_methodNamed hn
  have hinitY : kY.init = .initialized := Cond.initialized_spec (findClass_of_methodNamed hn) hkY h3
  have h : At U g.method c below := by rw [hg]; exact X.here
  have hlocals9 : W9 + (maxL + 11) + (headSpec ws rm).room.locals ≤ R.locals := hlocals
  have happ : (headSpec ws rm).appliesLoose y e.platform (U.calling g mk a) = true :=
    Spec.appliesLoose_calling (g := g) h hdg hn hkY hinitY
      (X.room_calling (g := g) (R' := (headSpec ws rm).room) hsize hmY hcY hframes (by rw [hlY]; omega) h4 h5) h1
  obtain ⟨mid, hmid⟩ := h.above
  have hfr : (U.setTop g).frames = (.java g :: mid) ++ below := by rw [State.frames_setTop' g h.top, hmid]; rfl
  obtain ⟨o, s₂, hsteps, -, hend, hq⟩ := Steps.callFree hM p X.admits X.cas X.clock (acts := []) hfr happ hPc trivial
  have hq' : vx_Q Qc XC mc ms free a (U.calling g mk a) o s₂ := hq
  rw [State.frames_setTop' g h.top] at hend
  obtain ⟨g₀, hg0⟩ := Option.isSome_iff_exists.mp h.top
  obtain ⟨r, hr⟩ := State.topJava?_eq_some.mp hg0
  have hr' : (({ U with heap := s₂.heap, slotsUsed := s₂.slotsUsed } : State).setVm s₂.vm).frames = .java g₀ :: r := hr
  rcases hq' with ⟨hqc, L, hfe, hL⟩ | ⟨q, rfl, E, ce, L, hx, hce, hcv, hcl, hW₂, hsm, hL⟩
  · obtain ⟨⟨v, rfl⟩, hW₂, e2, q2, q3, q4, q5, q6⟩ := id hfe
    have e3 : s₂ = ({ (U.calling g mk a).setFrames s₂.frames with heap := s₂.heap, slotsUsed := s₂.slotsUsed } : State).setVm s₂.vm := by
      have : s₂ = ({ s₂ with vm := (U.calling g mk a).vm } : State).setVm s₂.vm := rfl
      rw [e2] at this
      exact this
    obtain ⟨c₂, i₂, len₂, hc₂, hd₂, hf₂⟩ := hend
    have hW' : U.WarmedH s₂.vm := hW₂
    have hcc : c₂ = c := by
      have h1 : s₂.code? g.method = U.code? g.method := by
        rw [State.code?_eq, State.code?_eq, hW'.alike.method?]
      exact Option.some.inj (hc₂.symm.trans (h1.trans h.code))
    subst hcc
    have hlen : len₂ = len := by rw [hdg] at hd₂; cases hd₂; rfl
    subst hlen
    have hs₂ : s₂ = (({ U with heap := s₂.heap, slotsUsed := s₂.slotsUsed } : State).setVm s₂.vm).setTop { g with pc := g.pc + len₂, stack := v.toList ++ g.stack } := by
      refine e3.trans ?_
      rw [hf₂, State.calling_eq h.top, State.setFrames_setFrames, State.setTop_of_frames _ hr', hr]
      rfl
    have hsame : U.sameButNew ({ U with heap := s₂.heap, slotsUsed := s₂.slotsUsed } : State) L mc ms := by
      refine ⟨?_, q2, q3, q4, q5, q6⟩
      obtain ⟨t, ht, -⟩ := State.frames_cons hr
      show ({ U with heap := s₂.heap, slotsUsed := s₂.slotsUsed } : State) = { U.setFrames U.frames with heap := s₂.heap, slotsUsed := s₂.slotsUsed }
      rw [State.setFrames_self ht]
    subst hg
    refine Or.inl ⟨v, ⟨(({ U with heap := s₂.heap, slotsUsed := s₂.slotsUsed } : State).setVm s₂.vm), Ls ++ L, c0 + mc, s0 + ms⟩,
      ⟨X.admits, X.cas, X.clock, X.frames, X.room, X.hears, X.method, X.code, (X.here.setHeapUsed s₂.heap s₂.slotsUsed).setVm hW'.alike, X.tail, State.WarmedH.trans X.warmed hW', X.limits, X.bytes, X.same.trans (hsame.setVm s.vm)⟩,
      ⟨g, mk, s₂, L, rfl, rfl, hqc, rfl, hL, rfl, rfl⟩, ?_⟩
    show Steps p.tables e below _ ((({ U with heap := s₂.heap, slotsUsed := s₂.slotsUsed } : State).setVm s₂.vm).setTop { g with pc := g.pc + len₂, stack := v.toList ++ g.stack })
    rw [← hs₂]
    exact hsteps
  · obtain ⟨e2, q2, q3, q4, q5, q6⟩ := id hsm
    have e3 : s₂ = ({ (U.calling g mk a).setFrames s₂.frames with heap := s₂.heap, slotsUsed := s₂.slotsUsed } : State).setVm s₂.vm := by
      have : s₂ = ({ s₂ with vm := (U.calling g mk a).vm } : State).setVm s₂.vm := rfl
      rw [e2] at this
      exact this
    have hf₂ : s₂.frames = .throwing q :: .java g :: U.frames.tail := hend
    have hW' : U.WarmedH s₂.vm := hW₂
    have hs₂ : s₂ = ((({ U with heap := s₂.heap, slotsUsed := s₂.slotsUsed } : State).setVm s₂.vm).setTop g).pushFrame (.throwing q) := by
      refine e3.trans ?_
      rw [hf₂, State.calling_eq h.top, State.setFrames_setFrames, State.pushFrame, State.frames_setTop _ hr', State.setTop_of_frames _ hr', State.setFrames_setFrames, hr]
      rfl
    have hsame : U.sameButNew ({ U with heap := s₂.heap, slotsUsed := s₂.slotsUsed } : State) L mc ms := by
      refine ⟨?_, q2, q3, q4, q5, q6⟩
      obtain ⟨t, ht, -⟩ := State.frames_cons hr
      show ({ U with heap := s₂.heap, slotsUsed := s₂.slotsUsed } : State) = { U.setFrames U.frames with heap := s₂.heap, slotsUsed := s₂.slotsUsed }
      rw [State.setFrames_self ht]
    subst hg
    refine Or.inr ⟨q, ⟨(({ U with heap := s₂.heap, slotsUsed := s₂.slotsUsed } : State).setVm s₂.vm), Ls ++ L, c0 + mc, s0 + ms⟩,
      ⟨X.admits, X.cas, X.clock, X.frames, X.room, X.hears, X.method, X.code, (X.here.setHeapUsed s₂.heap s₂.slotsUsed).setVm hW'.alike, X.tail, State.WarmedH.trans X.warmed hW', X.limits, X.bytes, X.same.trans (hsame.setVm s.vm)⟩,
      ⟨g, mk, s₂, L, E, ce, rfl, rfl, hx, hce, hcv, hcl, rfl, hL, rfl, rfl⟩, ?_⟩
    show Steps p.tables e below _ (((({ U with heap := s₂.heap, slotsUsed := s₂.slotsUsed } : State).setVm s₂.vm).setTop g).pushFrame (.throwing q))
    rw [← hs₂]
    exact hsteps
end Payer
section Calls
variable {p : Program} {l : Launch} {e : Env} {R : Room} {s : State} {m : MethodId} {args : Array Value} {below : List Frame} {meth : Method} {c : Code} {T : State} {locs : List Loc} {cells slots : Nat}
theorem vx_callV (X : Stand p l e R s m args below meth c T locs cells slots) (hexec : p.tables.exec = Jvm.exec) {own C : String} {index : Nat} {y : MethodName} {bytes : ByteArray} {maxL : Nat} {ret : Option FieldType}
    (hown : s.vm.findClass own = some m.cls) (hlink : (Cond.methodLink own index y).before args s = true) (hinst : (Cond.instanceMethod y).before args s = true) (hsel : (Cond.selects C y y).before args s = true)
    (hcode : (Cond.code y bytes maxL ret).before args s = true) (hy : y.cls ≠ "java/lang/invoke/MethodHandle" ∧ y.cls ≠ "java/lang/invoke/VarHandle")
    {W9 : Nat} {Pre : Pt → Array Value → Prop} {Post : Pt → Array Value → Option Value → Pt → Prop} {PostX : Pt → Array Value → Addr → Pt → Prop} (hK : vx_Back l R p e below s args y 3 W9 Pre Post PostX)
    {b : Addr} {cellB : Cell} (hcell : T.heap[b]? = some cellB) (hobj : cellB.vm.isStatics = false) (hcls : s.vm.findClass C = some cellB.cls)
    {g : JFrame} (hg : g.method = m) (hsize : g.locals.size = c.maxLocals) {argsL rest : List Value} (hlen : ∀ sig, parseMethodDescriptor y.desc = some sig → argsL.length = sig.parameters.length)
    (hstack : g.stack = argsL.reverse ++ .ref b :: rest) (hW : 2 * g.monitorRoom + (rest.map fun v => v.category).sum ≤ W9) (hdg : decode c.code g.pc = .ok (.invokevirtual index, 3))
    (hpre : ∀ vm₁, s.WarmedH vm₁ → Pre ⟨T.setVm vm₁, locs, cells, slots⟩ (Value.ref b :: argsL).toArray) :
    (∃ (v : Option Value) (vm₁ : Vm) (B : Pt), s.WarmedH vm₁ ∧ Stand p l e R s m args below meth c B.U B.locs B.cells B.slots ∧ Post ⟨T.setVm vm₁, locs, cells, slots⟩ (Value.ref b :: argsL).toArray v B ∧
      ∀ target, Steps p.tables e below (B.U.setTop { g with pc := g.pc + 3, stack := v.toList ++ rest }) target → Steps p.tables e below (T.setTop g) target) ∨
    (∃ (q : Addr) (vm₁ : Vm) (B : Pt), s.WarmedH vm₁ ∧ Stand p l e R s m args below meth c B.U B.locs B.cells B.slots ∧ PostX ⟨T.setVm vm₁, locs, cells, slots⟩ (Value.ref b :: argsL).toArray q B ∧
      Steps p.tables e below (T.setTop g) ((B.U.setTop { g with stack := rest }).pushFrame (.throwing q))) := by
  obtain ⟨mk, methM, hnamed, hmethM, hstM, habM⟩ := Cond.instanceMethod_spec hinst
  obtain ⟨methM', cM, hmethM', -, -, -, -, -, -, hsigM⟩ := Cond.code_spec hnamed hcode
  cases hmethM.symm.trans hmethM'
  obtain ⟨c2, r2, m2, q1, q2, q3, q4, kP, hkP, hkPi⟩ := Cond.selects_spec hsel
  cases hcls.symm.trans q1
  cases (State.methodFound?_of_named hnamed hy).symm.trans q2
  cases hnamed.symm.trans q3
  have hselP : selectMethod e.platform s.vm cellB.cls mk = .method mk := by rw [Launch.admits_selectMethod X.admits]; exact q4
  obtain ⟨vm₁, X₁, hstep₁⟩ := X.invokevirtual hexec hown hlink hnamed hmethM hstM hkP hkPi hy (a := b) (cell := cellB) hcell
    (fun z h => by rw [h] at hobj; cases hobj) hselP hmethM habM hkP hkPi (g := g) hg (argsL := argsL) (rest := rest) (hlen _ hsigM) hstack hdg
  rcases hK m meth c ⟨T.setVm vm₁, locs, cells, slots⟩ { g with stack := rest } (.invokevirtual index) mk (Value.ref b :: argsL).toArray X₁ hg hsize hdg hW (X₁.named hnamed) (hpre vm₁ X₁.warmed) with ⟨v, B, X', hpost, hsteps⟩ | ⟨q, B, X', hpost, hsteps⟩
  · exact Or.inl ⟨v, vm₁, B, X₁.warmed, X', hpost, fun target h => hstep₁ _ fun acts => by rw [doInvoke_state]; exact hsteps.trans h⟩
  · exact Or.inr ⟨q, vm₁, B, X₁.warmed, X', hpost, hstep₁ _ fun acts => by rw [doInvoke_state]; exact hsteps⟩
theorem vx_callS (X : Stand p l e R s m args below meth c T locs cells slots) (hexec : p.tables.exec = Jvm.exec) {own : String} {index : Nat} {y : MethodName} {bytes : ByteArray} {maxL : Nat} {ret : Option FieldType}
    (hown : s.vm.findClass own = some m.cls) (hlink : (Cond.methodLink own index y).before args s = true) (hstat : (Cond.static y).before args s = true) (hinit : (Cond.initialized y.cls).before args s = true)
    (hcode : (Cond.code y bytes maxL ret).before args s = true) (hy : y.cls ≠ "java/lang/invoke/MethodHandle" ∧ y.cls ≠ "java/lang/invoke/VarHandle")
    {W9 : Nat} {Pre : Pt → Array Value → Prop} {Post : Pt → Array Value → Option Value → Pt → Prop} {PostX : Pt → Array Value → Addr → Pt → Prop} (hK : vx_Back l R p e below s args y 3 W9 Pre Post PostX)
    {g : JFrame} (hg : g.method = m) (hsize : g.locals.size = c.maxLocals) {argsL rest : List Value} (hlen : ∀ sig, parseMethodDescriptor y.desc = some sig → argsL.length = sig.parameters.length)
    (hstack : g.stack = argsL.reverse ++ rest) (hW : 2 * g.monitorRoom + (rest.map fun v => v.category).sum ≤ W9) (hdg : decode c.code g.pc = .ok (.invokestatic index, 3))
    (hpre : ∀ vm₁, s.WarmedH vm₁ → Pre ⟨T.setVm vm₁, locs, cells, slots⟩ argsL.toArray) :
    (∃ (v : Option Value) (vm₁ : Vm) (B : Pt), s.WarmedH vm₁ ∧ Stand p l e R s m args below meth c B.U B.locs B.cells B.slots ∧ Post ⟨T.setVm vm₁, locs, cells, slots⟩ argsL.toArray v B ∧
      ∀ target, Steps p.tables e below (B.U.setTop { g with pc := g.pc + 3, stack := v.toList ++ rest }) target → Steps p.tables e below (T.setTop g) target) ∨
    (∃ (q : Addr) (vm₁ : Vm) (B : Pt), s.WarmedH vm₁ ∧ Stand p l e R s m args below meth c B.U B.locs B.cells B.slots ∧ PostX ⟨T.setVm vm₁, locs, cells, slots⟩ argsL.toArray q B ∧
      Steps p.tables e below (T.setTop g) ((B.U.setTop { g with stack := rest }).pushFrame (.throwing q))) := by
  obtain ⟨mk, hnamed⟩ := Cond.code_named hcode
  obtain ⟨methM, cM, hmethM, -, -, -, -, -, -, hsigM⟩ := Cond.code_spec hnamed hcode
  have hstatic : methM.isStatic = true := Cond.static_spec hnamed hmethM hstat
  obtain ⟨kP, hkP, -⟩ := className_of_methodNamed hnamed
  have hinitP : kP.init = .initialized := Cond.initialized_spec (findClass_of_methodNamed hnamed) hkP hinit
  obtain ⟨vm₁, X₁, hstep₁⟩ := X.invokestatic hexec hown hlink hnamed hmethM hstatic hkP hinitP hy (g := g) hg (argsL := argsL) (rest := rest) (hlen _ hsigM) hstack hdg
  rcases hK m meth c ⟨T.setVm vm₁, locs, cells, slots⟩ { g with stack := rest } (.invokestatic index) mk argsL.toArray X₁ hg hsize hdg hW (X₁.named hnamed) (hpre vm₁ X₁.warmed) with ⟨v, B, X', hpost, hsteps⟩ | ⟨q, B, X', hpost, hsteps⟩
  · exact Or.inl ⟨v, vm₁, B, X₁.warmed, X', hpost, fun target h => hstep₁ _ fun acts => by rw [doInvoke_state]; exact hsteps.trans h⟩
  · exact Or.inr ⟨q, vm₁, B, X₁.warmed, X', hpost, hstep₁ _ fun acts => by rw [doInvoke_state]; exact hsteps⟩
end Calls
theorem vx_cls {s : State} {T : State} {vm₁ : Vm} {E : String} {k : ClassId} (hW : s.WarmedH vm₁) (h : (T.setVm vm₁).vm.findClass E = some k) : s.vm.findClass E = some k := by
  have h1 : vm₁.findClass E = some k := h
  rw [hW.alike.findClass] at h1
  exact h1
/-- the method's frame g, with q thrown over it -/
def vx_W (p : Program) (l : Launch) (e : Env) (R : Room) (s : State) (m : MethodId) (args : Array Value) (below : List Frame) (meth : Method) (c : Code) (H : Heap) (locs : List Loc) (cells slots : Nat) (Q : State → Prop) (g : JFrame) (q : Addr) : Prop :=
  ∀ T : State, T.heap = H → Stand p l e R s m args below meth c T locs cells slots → ∃ t, Steps p.tables e below ((T.setTop g).pushFrame (.throwing q)) t ∧ Q t
def vx_Run (p : Program) (l : Launch) (e : Env) (R : Room) (s : State) (m : MethodId) (args : Array Value) (below : List Frame) (meth : Method) (c : Code) (H : Heap) (locs : List Loc) (cells slots mc ms : Nat) (g : JFrame) (rest : List Value) (Qa : State → Outcome → State → Prop) (XC : String → State → State → Prop) (free : Addr → Prop) : Prop :=
  ∀ T : State, T.heap = H → Stand p l e R s m args below meth c T locs cells slots →
    (∃ (v : Option Value) (st₀ t T' : State) (L : List Loc), st₀.heap = H ∧ Stand p l e R s m args below meth c T' (locs ++ L) (cells + mc) (slots + ms) ∧ (∀ q ∈ L, free q.base) ∧ T'.heap = t.heap ∧ T'.vm = t.vm ∧ Qa st₀ (.returned v) t ∧
      Goes p e below T g T' { g with pc := g.pc + 3, stack := v.toList ++ rest }) ∨
    (∃ (q : Addr) (st₀ t T' : State) (L : List Loc) (E : String) (ce : Cell), st₀.heap = H ∧ Stand p l e R s m args below meth c T' (locs ++ L) (cells + mc) (slots + ms) ∧ (∀ z ∈ L, free z.base) ∧ T'.heap = t.heap ∧ T'.vm = t.vm ∧ XC E st₀ t ∧ t.heap[q]? = some ce ∧ ce.vm = .none ∧ s.vm.findClass E = some ce.cls ∧
      Steps p.tables e below (T.setTop g) ((T'.setTop { g with stack := rest }).pushFrame (.throwing q)))
def vx_X {S : Type} (px : S → Prop) (B : String → S → State → Prop) (A : Nat → Prop) : String → State → State → Prop := fun E st t => ∃ u : S, px u ∧ B E u t ∧ va_F A st t
section Runs
variable {p : Program} {l : Launch} {e : Env} {R : Room} {s : State} {m : MethodId} {args : Array Value} {below : List Frame} {meth : Method} {c : Code} {H : Heap} {locs : List Loc} {cells slots : Nat}
variable {y : MethodName} {bytes cc : ByteArray} {maxL nL mc ms n index : Nat} {ret : Option FieldType} {ws : List Cond} {rm : Room} {Pc : Array Value → State → Prop} {Qc : Array Value → State → Outcome → State → Prop} {XC : String → State → State → Prop} {free : Addr → Prop} {Ts : List Cond} {own C : String} {b : Addr} {As rest : List Value} {g : JFrame}
theorem vx_callBack (cb : CallB R s args own index y bytes maxL ret ws rm mc ms n) (hM : vx_Met l y ws rm Pc Qc XC mc ms free) (hbl : FrameBlind Pc) : vx_Back l R p e below s args y 3 8 (PreOf R mc ms Pc) (PostOf Qc mc ms free) (vx_Post XC mc ms free) := by
  obtain ⟨hrc, hrs, hfr, hlo, hws, hcw, -, hini, -⟩ := cb
  exact vx_back (bytes := bytes) (maxL := maxL) (ret := ret) hM hbl hrc hrs hfr hlo hws hcw (fun a' U hW => word_at hW (Or.inl (by first | rfl | simp [Cond.onTables, Cond.keeps, Cond.steady])) hini)
theorem vx_runV (S : CallFix p m c cc nL s args Ts own) (hM : vx_Met l y ws rm Pc Qc XC mc ms free) (cw : CallW R s args own C index y bytes maxL ret ws rm mc ms n) (hp : PreV s H C b Pc As)
    (hg : g.method = m) (hn : As.length = n) (hsize : g.locals.size = nL) (hstack : g.stack = As.reverse ++ .ref b :: rest) (hW : 2 * g.monitorRoom + (rest.map fun v => v.category).sum ≤ 8) (hdg : decode cc g.pc = .ok (.invokevirtual index, 3)) (hf : cells + mc ≤ R.cells ∧ slots + ms ≤ R.slots) :
    vx_Run p l e R s m args below meth c H locs cells slots mc ms g rest (Qc (Value.ref b :: As).toArray) XC free := by
  have hK : vx_Back l R p e below s args y 3 8 (PreOf R mc ms Pc) (PostOf Qc mc ms free) (vx_Post XC mc ms free) := vx_callBack cw.1 hM hp.1
  obtain ⟨⟨-, -, -, -, -, -, hcode, -, hy, hlen, hl⟩, hin, hse⟩ := cw
  obtain ⟨hx, hb, hml, ho, -⟩ := S
  obtain ⟨-, ⟨cellB, hcB, hoB, hclB⟩, hPc⟩ := hp
  intro T hT X
  rcases vx_callV X hx (C := C) (bytes := bytes) (maxL := maxL) (ret := ret) ho hl hin hse hcode hy hK (by rw [hT]; exact hcB) hoB hclB hg (hsize.trans hml.symm) (argsL := As) (rest := rest) (fun sig h => hn.trans (hlen sig h)) hstack hW (by rw [hb]; exact hdg)
    (fun vm₁ hW₁ => ⟨hf.1, hf.2, hPc (T.setVm vm₁) hT hW₁⟩) with ⟨v, vm₁, ⟨U', l2, c2, s2⟩, hW₁, X', ⟨g', mk, t, L, e1, e2, hq, h1, hL, h2, h3⟩, st⟩ | ⟨q, vm₁, ⟨U', l2, c2, s2⟩, hW₁, X', ⟨g', mk, t, L, E, ce, e1, e2, hq, hce, hcv, hcl, h1, hL, h2, h3⟩, st⟩
  · dsimp only [Pt.U, Pt.locs, Pt.cells, Pt.slots] at X' e1 e2 h1 h2 h3 st
    subst h1; subst h2; subst h3
    exact Or.inl ⟨v, (T.setVm vm₁).calling g' mk (Value.ref b :: As).toArray, t, U', L, hT, X', hL, e1, e2, hq, st⟩
  · dsimp only [Pt.U, Pt.locs, Pt.cells, Pt.slots] at X' e1 e2 h1 h2 h3 st hcl
    subst h1; subst h2; subst h3
    exact Or.inr ⟨q, (T.setVm vm₁).calling g' mk (Value.ref b :: As).toArray, t, U', L, E, ce, hT, X', hL, e1, e2, hq, hce, hcv, vx_cls hW₁ hcl, st⟩
theorem vx_runS (S : CallFix p m c cc nL s args Ts own) (hM : vx_Met l y ws rm Pc Qc XC mc ms free) (cw : CallB R s args own index y bytes maxL ret ws rm mc ms n ∧ (Cond.static y).before args s = true) (hp : PreS s H Pc As)
    (hg : g.method = m) (hn : As.length = n) (hsize : g.locals.size = nL) (hstack : g.stack = As.reverse ++ rest) (hW : 2 * g.monitorRoom + (rest.map fun v => v.category).sum ≤ 8) (hdg : decode cc g.pc = .ok (.invokestatic index, 3)) (hf : cells + mc ≤ R.cells ∧ slots + ms ≤ R.slots) :
    vx_Run p l e R s m args below meth c H locs cells slots mc ms g rest (Qc As.toArray) XC free := by
  have hK : vx_Back l R p e below s args y 3 8 (PreOf R mc ms Pc) (PostOf Qc mc ms free) (vx_Post XC mc ms free) := vx_callBack cw.1 hM hp.1
  obtain ⟨⟨-, -, -, -, -, -, hcode, hini, hy, hlen, hl⟩, hstt⟩ := cw
  obtain ⟨hx, hb, hml, ho, -⟩ := S
  intro T hT X
  rcases vx_callS X hx (bytes := bytes) (maxL := maxL) (ret := ret) ho hl hstt hini hcode hy hK hg (hsize.trans hml.symm) (argsL := As) (rest := rest) (fun sig h => hn.trans (hlen sig h)) hstack hW (by rw [hb]; exact hdg)
    (fun vm₁ hW₁ => ⟨hf.1, hf.2, hp.2 (T.setVm vm₁) hT hW₁⟩) with ⟨v, vm₁, ⟨U', l2, c2, s2⟩, hW₁, X', ⟨g', mk, t, L, e1, e2, hq, h1, hL, h2, h3⟩, st⟩ | ⟨q, vm₁, ⟨U', l2, c2, s2⟩, hW₁, X', ⟨g', mk, t, L, E, ce, e1, e2, hq, hce, hcv, hcl, h1, hL, h2, h3⟩, st⟩
  · dsimp only [Pt.U, Pt.locs, Pt.cells, Pt.slots] at X' e1 e2 h1 h2 h3 st
    subst h1; subst h2; subst h3
    exact Or.inl ⟨v, (T.setVm vm₁).calling g' mk As.toArray, t, U', L, hT, X', hL, e1, e2, hq, st⟩
  · dsimp only [Pt.U, Pt.locs, Pt.cells, Pt.slots] at X' e1 e2 h1 h2 h3 st hcl
    subst h1; subst h2; subst h3
    exact Or.inr ⟨q, (T.setVm vm₁).calling g' mk As.toArray, t, U', L, E, ce, hT, X', hL, e1, e2, hq, hce, hcv, vx_cls hW₁ hcl, st⟩
end Runs
section Rows
variable {p : Program} {l : Launch} {e : Env} {R : Room} {s : State} {m : MethodId} {args : Array Value} {below : List Frame} {meth : Method} {c : Code} {H : Heap} {locs : List Loc} {cells slots : Nat} {Q : State → Prop}
variable {mc ms : Nat} {free : Addr → Prop} {A0 A1 : Nat → Prop} {H0 : Heap} {a : Array Value} {pc : Nat} {ls : Array Slot} {st0 rest : List Value}
theorem vx_keep {st₀ t T' : State} {L : List Loc} (h0 : st₀.heap = H) (e1 : T'.heap = t.heap) (hS : va_S A0 H0 H locs) (hA : ∀ q, q < H.size → A1 q → A0 q) (hf : ∀ q, free q → A0 q) (hL : ∀ q ∈ L, free q.base) (hF : va_F A1 st₀ t) :
    H.size ≤ T'.heap.size ∧ (∀ q : Nat, q < H.size → ¬ A1 q → T'.heap[q]? = H[q]?) ∧ va_S A0 H0 T'.heap (locs ++ L) := by
  obtain ⟨hz, hk⟩ := hF
  rw [h0] at hz hk
  exact ⟨by rw [e1]; exact hz, fun q h1 h2 => by rw [e1]; exact hk q h1 h2,
    ⟨Nat.le_trans hS.1 (by rw [e1]; exact hz), fun q h1 h2 => by rw [e1, hk q (Nat.lt_of_lt_of_le h1 hS.1) (fun z => h2 (hA q (Nat.lt_of_lt_of_le h1 hS.1) z))]; exact hS.2.1 q h1 h2, fun q hq => by
      rcases List.mem_append.mp hq with h | h
      · exact hS.2.2 q h
      · exact hf _ (hL q h)⟩⟩
theorem vx_calli {S SX : Type} {post : Int32 → S → Prop} {px : SX → Prop} {B : S → State → Prop} {BX : String → SX → State → Prop} {AX : Nat → Prop} (hr : vx_Run p l e R s m args below meth c H locs cells slots mc ms (F0 m pc ls st0) rest (va_Qi post B A1 a) (vx_X px BX AX) free) (hS : va_S A0 H0 H locs) (hA : ∀ q, q < H.size → A1 q → A0 q) (hf : ∀ q, free q → A0 q) (hAX : ∀ q, q < H.size → AX q → A0 q)
    (kx : ∀ (E : String) (ce : Cell) (q9 : Addr) (u : SX) (t : State) (H1 : Heap) (locs1 : List Loc), t.heap = H1 → s.vm.Alike t.vm → px u → BX E u t → H.size ≤ H1.size → (∀ q : Nat, q < H.size → ¬ AX q → H1[q]? = H[q]?) → va_S A0 H0 H1 locs1 → H1[q9]? = some ce → ce.vm = .none → s.vm.findClass E = some ce.cls → vx_W p l e R s m args below meth c H1 locs1 (cells + mc) (slots + ms) Q (F0 m pc ls rest) q9)
    (kk : ∀ (r : Int32) (u : S) (t : State) (H1 : Heap) (locs1 : List Loc), t.heap = H1 → s.vm.Alike t.vm → post r u → B u t → H.size ≤ H1.size → (∀ q : Nat, q < H.size → ¬ A1 q → H1[q]? = H[q]?) → va_S A0 H0 H1 locs1 → W p l e R s m args below meth c H1 locs1 (cells + mc) (slots + ms) Q (F0 m (pc + 3) ls (.int r :: rest))) : W p l e R s m args below meth c H locs cells slots Q (F0 m pc ls st0) := by
  intro T hT X
  rcases hr T hT X with ⟨v, st₀, t, T', L, h0, X', hL, e1, e2, ⟨⟨r, u, hv, hp, hb⟩, hF⟩, st⟩ | ⟨q, st₀, t, T', L, E, ce, h0, X', hL, e1, e2, ⟨u, hp, hb, hF⟩, hce, hcv, hcl, st⟩
  · cases hv
    obtain ⟨k1, k2, k3⟩ := vx_keep h0 e1 hS hA hf hL hF
    obtain ⟨t2, a1, b1⟩ := kk r u t T'.heap (locs ++ L) e1.symm (by rw [← e2]; exact X'.warmed.alike) hp hb k1 k2 k3 T' rfl X'
    exact ⟨t2, st t2 a1, b1⟩
  · obtain ⟨k1, k2, k3⟩ := vx_keep h0 e1 hS hAX hf hL hF
    obtain ⟨t2, a1, b1⟩ := kx E ce q u t T'.heap (locs ++ L) e1.symm (by rw [← e2]; exact X'.warmed.alike) hp hb k1 k2 k3 (by rw [e1]; exact hce) hcv hcl T' rfl X'
    exact ⟨t2, st.trans a1, b1⟩
theorem vx_calll {S SX : Type} {post : Int64 → S → Prop} {px : SX → Prop} {B : S → State → Prop} {BX : String → SX → State → Prop} {AX : Nat → Prop} (hr : vx_Run p l e R s m args below meth c H locs cells slots mc ms (F0 m pc ls st0) rest (va_Ql post B A1 a) (vx_X px BX AX) free) (hS : va_S A0 H0 H locs) (hA : ∀ q, q < H.size → A1 q → A0 q) (hf : ∀ q, free q → A0 q) (hAX : ∀ q, q < H.size → AX q → A0 q)
    (kx : ∀ (E : String) (ce : Cell) (q9 : Addr) (u : SX) (t : State) (H1 : Heap) (locs1 : List Loc), t.heap = H1 → s.vm.Alike t.vm → px u → BX E u t → H.size ≤ H1.size → (∀ q : Nat, q < H.size → ¬ AX q → H1[q]? = H[q]?) → va_S A0 H0 H1 locs1 → H1[q9]? = some ce → ce.vm = .none → s.vm.findClass E = some ce.cls → vx_W p l e R s m args below meth c H1 locs1 (cells + mc) (slots + ms) Q (F0 m pc ls rest) q9)
    (kk : ∀ (r : Int64) (u : S) (t : State) (H1 : Heap) (locs1 : List Loc), t.heap = H1 → s.vm.Alike t.vm → post r u → B u t → H.size ≤ H1.size → (∀ q : Nat, q < H.size → ¬ A1 q → H1[q]? = H[q]?) → va_S A0 H0 H1 locs1 → W p l e R s m args below meth c H1 locs1 (cells + mc) (slots + ms) Q (F0 m (pc + 3) ls (.long r :: rest))) : W p l e R s m args below meth c H locs cells slots Q (F0 m pc ls st0) := by
  intro T hT X
  rcases hr T hT X with ⟨v, st₀, t, T', L, h0, X', hL, e1, e2, ⟨⟨r, u, hv, hp, hb⟩, hF⟩, st⟩ | ⟨q, st₀, t, T', L, E, ce, h0, X', hL, e1, e2, ⟨u, hp, hb, hF⟩, hce, hcv, hcl, st⟩
  · cases hv
    obtain ⟨k1, k2, k3⟩ := vx_keep h0 e1 hS hA hf hL hF
    obtain ⟨t2, a1, b1⟩ := kk r u t T'.heap (locs ++ L) e1.symm (by rw [← e2]; exact X'.warmed.alike) hp hb k1 k2 k3 T' rfl X'
    exact ⟨t2, st t2 a1, b1⟩
  · obtain ⟨k1, k2, k3⟩ := vx_keep h0 e1 hS hAX hf hL hF
    obtain ⟨t2, a1, b1⟩ := kx E ce q u t T'.heap (locs ++ L) e1.symm (by rw [← e2]; exact X'.warmed.alike) hp hb k1 k2 k3 (by rw [e1]; exact hce) hcv hcl T' rfl X'
    exact ⟨t2, st.trans a1, b1⟩
theorem vx_callf {S SX : Type} {post : UInt32 → S → Prop} {px : SX → Prop} {B : S → State → Prop} {BX : String → SX → State → Prop} {AX : Nat → Prop} (hr : vx_Run p l e R s m args below meth c H locs cells slots mc ms (F0 m pc ls st0) rest (va_Qf post B A1 a) (vx_X px BX AX) free) (hS : va_S A0 H0 H locs) (hA : ∀ q, q < H.size → A1 q → A0 q) (hf : ∀ q, free q → A0 q) (hAX : ∀ q, q < H.size → AX q → A0 q)
    (kx : ∀ (E : String) (ce : Cell) (q9 : Addr) (u : SX) (t : State) (H1 : Heap) (locs1 : List Loc), t.heap = H1 → s.vm.Alike t.vm → px u → BX E u t → H.size ≤ H1.size → (∀ q : Nat, q < H.size → ¬ AX q → H1[q]? = H[q]?) → va_S A0 H0 H1 locs1 → H1[q9]? = some ce → ce.vm = .none → s.vm.findClass E = some ce.cls → vx_W p l e R s m args below meth c H1 locs1 (cells + mc) (slots + ms) Q (F0 m pc ls rest) q9)
    (kk : ∀ (r : UInt32) (u : S) (t : State) (H1 : Heap) (locs1 : List Loc), t.heap = H1 → s.vm.Alike t.vm → post r u → B u t → H.size ≤ H1.size → (∀ q : Nat, q < H.size → ¬ A1 q → H1[q]? = H[q]?) → va_S A0 H0 H1 locs1 → W p l e R s m args below meth c H1 locs1 (cells + mc) (slots + ms) Q (F0 m (pc + 3) ls (.float r :: rest))) : W p l e R s m args below meth c H locs cells slots Q (F0 m pc ls st0) := by
  intro T hT X
  rcases hr T hT X with ⟨v, st₀, t, T', L, h0, X', hL, e1, e2, ⟨⟨r, u, hv, hp, hb⟩, hF⟩, st⟩ | ⟨q, st₀, t, T', L, E, ce, h0, X', hL, e1, e2, ⟨u, hp, hb, hF⟩, hce, hcv, hcl, st⟩
  · cases hv
    obtain ⟨k1, k2, k3⟩ := vx_keep h0 e1 hS hA hf hL hF
    obtain ⟨t2, a1, b1⟩ := kk r u t T'.heap (locs ++ L) e1.symm (by rw [← e2]; exact X'.warmed.alike) hp hb k1 k2 k3 T' rfl X'
    exact ⟨t2, st t2 a1, b1⟩
  · obtain ⟨k1, k2, k3⟩ := vx_keep h0 e1 hS hAX hf hL hF
    obtain ⟨t2, a1, b1⟩ := kx E ce q u t T'.heap (locs ++ L) e1.symm (by rw [← e2]; exact X'.warmed.alike) hp hb k1 k2 k3 (by rw [e1]; exact hce) hcv hcl T' rfl X'
    exact ⟨t2, st.trans a1, b1⟩
theorem vx_calld {S SX : Type} {post : UInt64 → S → Prop} {px : SX → Prop} {B : S → State → Prop} {BX : String → SX → State → Prop} {AX : Nat → Prop} (hr : vx_Run p l e R s m args below meth c H locs cells slots mc ms (F0 m pc ls st0) rest (va_Qd post B A1 a) (vx_X px BX AX) free) (hS : va_S A0 H0 H locs) (hA : ∀ q, q < H.size → A1 q → A0 q) (hf : ∀ q, free q → A0 q) (hAX : ∀ q, q < H.size → AX q → A0 q)
    (kx : ∀ (E : String) (ce : Cell) (q9 : Addr) (u : SX) (t : State) (H1 : Heap) (locs1 : List Loc), t.heap = H1 → s.vm.Alike t.vm → px u → BX E u t → H.size ≤ H1.size → (∀ q : Nat, q < H.size → ¬ AX q → H1[q]? = H[q]?) → va_S A0 H0 H1 locs1 → H1[q9]? = some ce → ce.vm = .none → s.vm.findClass E = some ce.cls → vx_W p l e R s m args below meth c H1 locs1 (cells + mc) (slots + ms) Q (F0 m pc ls rest) q9)
    (kk : ∀ (r : UInt64) (u : S) (t : State) (H1 : Heap) (locs1 : List Loc), t.heap = H1 → s.vm.Alike t.vm → post r u → B u t → H.size ≤ H1.size → (∀ q : Nat, q < H.size → ¬ A1 q → H1[q]? = H[q]?) → va_S A0 H0 H1 locs1 → W p l e R s m args below meth c H1 locs1 (cells + mc) (slots + ms) Q (F0 m (pc + 3) ls (.double r :: rest))) : W p l e R s m args below meth c H locs cells slots Q (F0 m pc ls st0) := by
  intro T hT X
  rcases hr T hT X with ⟨v, st₀, t, T', L, h0, X', hL, e1, e2, ⟨⟨r, u, hv, hp, hb⟩, hF⟩, st⟩ | ⟨q, st₀, t, T', L, E, ce, h0, X', hL, e1, e2, ⟨u, hp, hb, hF⟩, hce, hcv, hcl, st⟩
  · cases hv
    obtain ⟨k1, k2, k3⟩ := vx_keep h0 e1 hS hA hf hL hF
    obtain ⟨t2, a1, b1⟩ := kk r u t T'.heap (locs ++ L) e1.symm (by rw [← e2]; exact X'.warmed.alike) hp hb k1 k2 k3 T' rfl X'
    exact ⟨t2, st t2 a1, b1⟩
  · obtain ⟨k1, k2, k3⟩ := vx_keep h0 e1 hS hAX hf hL hF
    obtain ⟨t2, a1, b1⟩ := kx E ce q u t T'.heap (locs ++ L) e1.symm (by rw [← e2]; exact X'.warmed.alike) hp hb k1 k2 k3 (by rw [e1]; exact hce) hcv hcl T' rfl X'
    exact ⟨t2, st.trans a1, b1⟩
theorem vx_callv {S SX : Type} {post : S → Prop} {px : SX → Prop} {B : S → State → Prop} {BX : String → SX → State → Prop} {AX : Nat → Prop} (hr : vx_Run p l e R s m args below meth c H locs cells slots mc ms (F0 m pc ls st0) rest (va_Qv post B A1 a) (vx_X px BX AX) free) (hS : va_S A0 H0 H locs) (hA : ∀ q, q < H.size → A1 q → A0 q) (hf : ∀ q, free q → A0 q) (hAX : ∀ q, q < H.size → AX q → A0 q)
    (kx : ∀ (E : String) (ce : Cell) (q9 : Addr) (u : SX) (t : State) (H1 : Heap) (locs1 : List Loc), t.heap = H1 → s.vm.Alike t.vm → px u → BX E u t → H.size ≤ H1.size → (∀ q : Nat, q < H.size → ¬ AX q → H1[q]? = H[q]?) → va_S A0 H0 H1 locs1 → H1[q9]? = some ce → ce.vm = .none → s.vm.findClass E = some ce.cls → vx_W p l e R s m args below meth c H1 locs1 (cells + mc) (slots + ms) Q (F0 m pc ls rest) q9)
    (kk : ∀ (u : S) (t : State) (H1 : Heap) (locs1 : List Loc), t.heap = H1 → s.vm.Alike t.vm → post u → B u t → H.size ≤ H1.size → (∀ q : Nat, q < H.size → ¬ A1 q → H1[q]? = H[q]?) → va_S A0 H0 H1 locs1 → W p l e R s m args below meth c H1 locs1 (cells + mc) (slots + ms) Q (F0 m (pc + 3) ls (rest))) : W p l e R s m args below meth c H locs cells slots Q (F0 m pc ls st0) := by
  intro T hT X
  rcases hr T hT X with ⟨v, st₀, t, T', L, h0, X', hL, e1, e2, ⟨⟨u, hv, hp, hb⟩, hF⟩, st⟩ | ⟨q, st₀, t, T', L, E, ce, h0, X', hL, e1, e2, ⟨u, hp, hb, hF⟩, hce, hcv, hcl, st⟩
  · cases hv
    obtain ⟨k1, k2, k3⟩ := vx_keep h0 e1 hS hA hf hL hF
    obtain ⟨t2, a1, b1⟩ := kk u t T'.heap (locs ++ L) e1.symm (by rw [← e2]; exact X'.warmed.alike) hp hb k1 k2 k3 T' rfl X'
    exact ⟨t2, st t2 a1, b1⟩
  · obtain ⟨k1, k2, k3⟩ := vx_keep h0 e1 hS hAX hf hL hF
    obtain ⟨t2, a1, b1⟩ := kx E ce q u t T'.heap (locs ++ L) e1.symm (by rw [← e2]; exact X'.warmed.alike) hp hb k1 k2 k3 (by rw [e1]; exact hce) hcv hcl T' rfl X'
    exact ⟨t2, st.trans a1, b1⟩
/-- caught by the row x of this method's table; the rows ahead don't take it -/
theorem vx_catch {own name : String} {E : String} {ce : Cell} {q : Addr} (hown : s.vm.findClass own = some m.cls) (pre : List ExceptionTableEntry) (x : ExceptionTableEntry) (suf : List ExceptionTableEntry) (hsplit : c.exceptionTable.toList = pre ++ x :: suf)
    (hpass : ∀ z ∈ pre, covers z pc = false ∨ (z.catchType ≠ 0 ∧ ∃ nm : String, (Cond.classLink own z.catchType nm).before args s = true ∧ va_Nc E nm s)) (hx : covers x pc = true) (h0 : x.catchType ≠ 0)
    (hlink : (Cond.classLink own x.catchType name).before args s = true) (hcast : (Cond.castable E name).before args s = true) (hcell : H[q]? = some ce) (hv : ce.vm = .none) (hcl : s.vm.findClass E = some ce.cls)
    (kk : W p l e R s m args below meth c H locs cells slots Q (F0 m x.handlerPc ls [.ref q])) : vx_W p l e R s m args below meth c H locs cells slots Q (F0 m pc ls rest) q := by
  intro T hT X
  have hpl : e.platform.magicAccessors = ({} : Platform).magicAccessors := by rw [X.admits.platform]
  obtain ⟨c3, c4, hc3, hc4, hasg⟩ := Cond.castable_spec hcast
  cases Option.some.inj (hc3.symm.trans hcl)
  obtain ⟨c5, hc5, hcl5⟩ := Cond.classLink_spec hown hlink e.platform hpl
  cases Option.some.inj (hc4.symm.trans hc5)
  obtain ⟨vm', X', st⟩ := X.thenCaughtThrough q (g := F0 m pc ls rest) rfl (Steps.refl _) (by rw [hT]; exact hcell) (by rw [hv]; rfl) (by obtain ⟨k9, h9, -⟩ := Vm.findClass_spec hcl; exact ⟨k9, h9⟩) pre x suf hsplit
    (fun z hz => by
      rcases hpass z hz with h | ⟨hz0, nm, hl1, hn1⟩
      · exact Or.inl h
      · obtain ⟨c6, hc6, hcl6⟩ := Cond.classLink_spec hown hl1 e.platform hpl
        obtain ⟨a8, b8, h1, h2, h3⟩ := hn1
        cases Option.some.inj (h1.symm.trans hcl)
        cases Option.some.inj (h2.symm.trans hc6)
        exact Or.inr ⟨hz0, _, hcl6, h3⟩) hx (Or.inr ⟨h0, c4, hcl5, hasg⟩)
  obtain ⟨t, a1, b1⟩ := kk (T.setVm vm') hT X'
  exact ⟨t, st.trans a1, b1⟩
end Rows
section Ends
variable {p : Program} {l : Launch} {e : Env} {R : Room} {s : State} {m : MethodId} {args : Array Value} {below : List Frame} {meth : Method} {c : Code} {H : Heap} {locs : List Loc} {cells slots : Nat} {Q : State → Prop}
variable {mc ms : Nat} {free : Addr → Prop} {A0 A1 : Nat → Prop} {H0 : Heap} {a : Array Value} {ls : Array Slot} {st0 rest : List Value}
variable {Qc : Array Value → State → Outcome → State → Prop} {XC : String → State → State → Prop}
/-- what a body that may throw owes at its end -/
def vx_MQ (below : List Frame) (Qc : Array Value → State → Outcome → State → Prop) (XC : String → State → State → Prop) (a : Array Value) (s : State) (mc ms : Nat) (free : Addr → Prop) : State → Prop := fun t =>
  ∃ o, t.status = .running ∧ Ended t below o ∧ vx_Q Qc XC mc ms free a s o t
theorem vx_ret {g : JFrame} {mc ms : Nat} (k : W p l e R s m args below meth c H locs cells slots (MQ below Qc args s mc ms free) g) : W p l e R s m args below meth c H locs cells slots (vx_MQ below Qc XC args s mc ms free) g := by
  intro T hT X
  obtain ⟨t, a1, o, b1, b2, b3, b4⟩ := k T hT X
  exact ⟨t, a1, o, b1, b2, Or.inl ⟨b3, b4⟩⟩
/-- not caught here: it goes on to the caller -/
theorem vx_widen {g : JFrame} {q : Addr} {k n : Nat} (h1 : cells ≤ k) (h2 : slots ≤ n) (kk : vx_W p l e R s m args below meth c H locs k n Q g q) : vx_W p l e R s m args below meth c H locs cells slots Q g q := fun T hT X => kk T hT (stand_widen X h1 h2)
theorem vx_out {pc : Nat} {E : String} {ce : Cell} {q : Addr} {mc ms : Nat} (hout : ∀ x ∈ c.exceptionTable.toList, covers x pc = false) (hlocks : meth.locks = false) (hcell : H[q]? = some ce) (hv : ce.vm = .none) (hcl : s.vm.findClass E = some ce.cls)
    (hx : ∀ t : State, t.heap = H → s.vm.Alike t.vm → XC E s t) (hf : ∀ z ∈ locs, free z.base) (hc : cells ≤ mc) (hs : slots ≤ ms) :
    vx_W p l e R s m args below meth c H locs cells slots (vx_MQ below Qc XC args s mc ms free) (F0 m pc ls rest) q := by
  intro T hT X
  obtain ⟨st1, hrun, hend, hW, hsm⟩ := X.leaveThrown q (g := F0 m pc ls rest) rfl rfl rfl hout hlocks
  have hcell9 : (T.setFrames (.throwing q :: below)).heap[q]? = some ce := by
    show T.heap[q]? = some ce
    rw [hT]; exact hcell
  exact ⟨_, st1, .threw q, hrun, hend, Or.inr ⟨q, rfl, E, ce, locs, hx _ hT hW.alike, hcell9, hv, hcl, hW, hsm.mono hc hs, hf⟩⟩
theorem vx_frame {U : State} {k n : Nat} (h : s.sameButNew ({ U with vm := s.vm } : State) locs k n) : s.heap.size ≤ U.heap.size ∧ ∀ q : Nat, q < s.heap.size → (∀ z ∈ locs, z.base ≠ q) → U.heap[q]? = s.heap[q]? := by
  obtain ⟨-, h2, -, -, -, h6⟩ := h
  refine ⟨h2, fun q hq hz => ?_⟩
  obtain ⟨c9, e1, e2, e3, e4⟩ := h6 q _ (Array.getElem?_eq_getElem hq)
  have hs : c9.slots = (s.heap[q]).slots := Array.ext_getElem? fun i => e4 i fun hm => hz _ hm rfl
  have h9 : c9 = s.heap[q] := by
    rw [hs] at e2
    exact e2
  have e5 : U.heap[q]? = some c9 := e1
  rw [e5, h9, Array.getElem?_eq_getElem hq]
/-- the words of a throw but the four that speak of the heap -/
def vx_no (w : Cond) : Bool := decide (w ≠ .isRef (.static Bundle.tN "UNASSIGNED_STACK" Bundle.steD)) && decide (w ≠ .isRef (.static Bundle.tN "SUPPRESSED_SENTINEL" Bundle.listD)) && decide (w ≠ .laysStatic Bundle.tN "UNASSIGNED_STACK" Bundle.steD) && decide (w ≠ .laysStatic Bundle.tN "SUPPRESSED_SENTINEL" Bundle.listD)
def vx_at0 (own : String) (ic : Nat) (X : String) (names : List String) : List Cond := (Bundle.ownAtoms0 own ic X names).filter vx_no
def vx_atS (own : String) (ic : Nat) (X : String) (names : List String) : List Cond := (Bundle.ownAtoms own ic X names).filter vx_no
/-- a word that the tables alone decide, or a good one -/
def vx_ot (w : Cond) : Bool := w.onTables || goodWord w
theorem vx_ot_at {args a' : Array Value} {s U : State} {w : Cond} (hW : s.WarmedH U.vm) (hvm : s.vm = U.vm) (hg : vx_ot w = true) (h : w.before args s = true) : w.before a' U = true := by
  simp only [vx_ot, Bool.or_eq_true] at hg
  rcases hg with hg | hg
  · exact va_tabs hg hvm h
  · exact word_at hW (good_of_word hg) h
/-- a list's words: the good ones out of the method's own list, the others by premises of their own -/
theorem vx_hat {args : Array Value} {s : State} {L B : List Cond} (h1 : ∀ w ∈ L.filter goodWord, w.before args s = true) (h2 : ∀ w ∈ L.filter (fun w => !goodWord w), w ∈ B) (h3 : ∀ w ∈ B, w.before args s = true) : ∀ w ∈ L, w.before args s = true := by
  intro w hw
  by_cases g : goodWord w = true
  · exact h1 w (List.mem_filter.mpr ⟨hw, g⟩)
  · refine h3 w (h2 w (List.mem_filter.mpr ⟨hw, ?_⟩))
    show (!goodWord w) = true
    cases hgw : goodWord w
    · rfl
    · exact absurd hgw g
theorem vx_c {args : Array Value} {s : State} {w : Cond} {B : List Cond} (h : w.before args s = true) (t : ∀ w ∈ B, w.before args s = true) : ∀ w' ∈ w :: B, w'.before args s = true := fun w' h' => (List.mem_cons.mp h').elim (fun e => by rw [e]; exact h) (t w')
theorem vx_n {args : Array Value} {s : State} : ∀ w ∈ ([] : List Cond), w.before args s = true := fun _ h => nomatch h
theorem vx_own {args : Array Value} {s : State} {L : List Cond} (h1 : ∀ w ∈ L.filter vx_no, w.before args s = true)
    (hU : (Cond.isRef (.static Bundle.tN "UNASSIGNED_STACK" Bundle.steD)).before args s = true) (hN : (Cond.isRef (.static Bundle.tN "SUPPRESSED_SENTINEL" Bundle.listD)).before args s = true)
    (lU : (Cond.laysStatic Bundle.tN "UNASSIGNED_STACK" Bundle.steD).before args s = true) (lN : (Cond.laysStatic Bundle.tN "SUPPRESSED_SENTINEL" Bundle.listD).before args s = true) : ∀ w ∈ L, w.before args s = true := by
  intro w hw
  by_cases e1 : w = .isRef (.static Bundle.tN "UNASSIGNED_STACK" Bundle.steD)
  · rw [e1]; exact hU
  · by_cases e2 : w = .isRef (.static Bundle.tN "SUPPRESSED_SENTINEL" Bundle.listD)
    · rw [e2]; exact hN
    · by_cases e3 : w = .laysStatic Bundle.tN "UNASSIGNED_STACK" Bundle.steD
      · rw [e3]; exact lU
      · by_cases e4 : w = .laysStatic Bundle.tN "SUPPRESSED_SENTINEL" Bundle.listD
        · rw [e4]; exact lN
        · exact h1 w (List.mem_filter.mpr ⟨hw, by unfold vx_no; rw [decide_eq_true e1, decide_eq_true e2, decide_eq_true e3, decide_eq_true e4]; rfl⟩)
/-- where a static field lies, its class's statics cell in H -/
def vx_L (C n d : String) (A : Nat → Prop) (U : State) (H : Heap) : Prop := ∃ (c : ClassId) (k : Class) (i : Nat) (f : Field) (a : Nat) (cell : Cell), U.vm.findClass C = some c ∧ U.fieldFound? C n d = some (c, k, i, f) ∧ f.isStatic = true ∧ k.statics = some a ∧ H[a]? = some cell ∧ cell.vm.isStatics = true ∧ cell.cls = c ∧ f.slot < cell.slots.size ∧ k.staticTypes[f.slot]? = some f.type ∧ ¬ A a
theorem vx_L.moved {C n d : String} {A : Nat → Prop} {u U : State} {H : Heap} (hvm : u.vm.Alike U.vm) (h : vx_L C n d A u H) : vx_L C n d A U H := by
  obtain ⟨c, k, i, f, a, cell, h1, h2, h3, h4, h5, h6, h7, h8, h9, h10⟩ := h
  obtain ⟨k', hi', he⟩ := State.fieldFound?_setVm hvm h2
  exact ⟨c, k', i, f, a, cell, by rw [hvm.findClass]; exact h1, hi', h3, by rw [he]; exact h4, h5, h6, h7, h8, by rw [he]; exact h9, h10⟩
theorem vx_L.kept {C n d : String} {A : Nat → Prop} {U : State} {H H1 : Heap} (h : vx_L C n d A U H) (hq : ∀ a : Nat, a < H.size → ¬ A a → H1[a]? = H[a]?) : vx_L C n d A U H1 := by
  obtain ⟨c, k, i, f, a, cell, h1, h2, h3, h4, h5, h6, h7, h8, h9, h10⟩ := h
  exact ⟨c, k, i, f, a, cell, h1, h2, h3, h4, by rw [hq a (Array.getElem?_eq_some_iff.mp h5).1 h10]; exact h5, h6, h7, h8, h9, h10⟩
theorem vx_L.narrow {C n d : String} {A B : Nat → Prop} {U : State} {H : Heap} (h : vx_L C n d A U H) (hAB : ∀ q, B q → A q) : vx_L C n d B U H := by
  obtain ⟨c, k, i, f, a, cell, h1, h2, h3, h4, h5, h6, h7, h8, h9, h10⟩ := h
  exact ⟨c, k, i, f, a, cell, h1, h2, h3, h4, h5, h6, h7, h8, h9, fun z => h10 (hAB _ z)⟩
theorem vx_L.word {C n d : String} {A : Nat → Prop} {s : State} {args : Array Value} (h : vx_L C n d A s s.heap) : (Cond.laysStatic C n d).before args s = true := by
  obtain ⟨c, k, i, f, a, cell, h1, h2, h3, h4, h5, h6, h7, h8, h9, -⟩ := h
  show (Cond.laysStatic C n d).holds args s none s [] = true
  exact Cond.laysStatic_of h1 h2 h3 h4 h5 h6 h7 h8 h9
/-- .. and what it holds: null or some reference -/
def vx_Zq (C n d : String) (A : Nat → Prop) (U : State) (H : Heap) : Prop := va_Zq C n d A U H ∧ vx_L C n d A U H
theorem vx_Zq.moved {C n d : String} {A : Nat → Prop} {u U : State} {H : Heap} (hvm : u.vm.Alike U.vm) (h : vx_Zq C n d A u H) : vx_Zq C n d A U H := ⟨va_Zq.moved hvm h.1, vx_L.moved hvm h.2⟩
theorem vx_Zq.kept {C n d : String} {A : Nat → Prop} {U : State} {H H1 : Heap} (h : vx_Zq C n d A U H) (hq : ∀ a : Nat, a < H.size → ¬ A a → H1[a]? = H[a]?) : vx_Zq C n d A U H1 := ⟨va_Zq.kept h.1 hq, vx_L.kept h.2 hq⟩
theorem vx_Zq.narrow {C n d : String} {A B : Nat → Prop} {U : State} {H : Heap} (h : vx_Zq C n d A U H) (hAB : ∀ q, B q → A q) : vx_Zq C n d B U H := ⟨va_Zq.narrow h.1 hAB, vx_L.narrow h.2 hAB⟩
theorem vx_Zqof {args : Array Value} {s : State} {C n d : String} {A : Nat → Prop} (hl : (Cond.laysStatic C n d).before args s = true) (hini : (Cond.initialized C).before args s = true) (h : (Cond.isRef (.static C n d)).before args s = true) (hA : ∀ a : Nat, a < s.heap.size → ¬ A a) : vx_Zq C n d A s s.heap := by
  refine ⟨va_Zqof hl hini h hA, ?_⟩
  obtain ⟨c, k, i, f, a, cell, h1, h2, h3, h4, h5, h6, h7, h8, h9⟩ := Cond.laysStatic_spec hl
  exact ⟨c, k, i, f, a, cell, h1, h2, h3, h4, h5, h6, h7, h8, h9, hA a (Array.getElem?_eq_some_iff.mp h5).1⟩
theorem vx_isRef {C n d : String} {v : Value} {A : Nat → Prop} {s : State} {args : Array Value} (h : va_Z C n d v A s s.heap) (hv : v.isRef = true) : (Cond.isRef (.static C n d)).before args s = true := by
  obtain ⟨cf, kf, fi, f, a, cell, h1, h2, h3, h4, h5, h6, h7, -⟩ := h
  have he : (Term.static C n d).eval args s none [] s = some v := by
    simp [Term.eval, State.fieldNamed?, h1, h2, h4, h5, h6, h7]
  simp only [Cond.before, Cond.holds, Cond.value, he]
  cases v <;> simp_all [Value.isRef]
theorem vx_isRefq {C n d : String} {A : Nat → Prop} {s : State} {args : Array Value} (h : va_Zq C n d A s s.heap) : (Cond.isRef (.static C n d)).before args s = true := by
  rcases h with h | ⟨t, h⟩
  · exact vx_isRef h rfl
  · exact vx_isRef h rfl
/-- the same frame, seen from here: as if the method were called anew in this heap -/
theorem vx_rebase {T : State} (X : Stand p l e R s m args below meth c T locs cells slots) {R' : Room} (hf : R'.frames ≤ R.frames) (hl : R'.locals ≤ R.locals) (hc : cells + R'.cells ≤ R.cells) (hs : slots + R'.slots ≤ R.slots) :
    Stand p l e R' ((T.setVm s.vm).setFrames (.invoking m args :: below)) m args below meth c T [] 0 0 := by
  have htop : (T.setVm s.vm).topJava?.isSome := X.here.top
  have hF : ((T.setVm s.vm).setFrames (.invoking m args :: below)).frames = .invoking m args :: below := State.frames_setFrames _ (State.cur_lt_of_top htop)
  obtain ⟨g₀, hg0⟩ := Option.isSome_iff_exists.mp htop
  obtain ⟨r, hr⟩ := State.topJava?_eq_some.mp hg0
  have hl9 : e.platform.stackLimits (T.setVm s.vm).me = e.platform.stackLimits s.me := X.limits
  have hb9 : (T.setVm s.vm).me.stackBytes = s.me.stackBytes := X.bytes
  refine ⟨X.admits, X.cas, X.clock, hF, ?_, X.hears, X.method, X.code, X.here, X.tail, X.warmed, ?_, ?_, ?_⟩
  · have h := X.room
    have hU : ((T.setVm s.vm).setFrames (.invoking m args :: below)).localsInUse = s.localsInUse := by
      rw [State.localsInUse_invoking hF (meth := meth) (c := c) X.method X.code, State.localsInUse_invoking X.frames X.method X.code]
    simp only [State.hasRoom, Bool.and_eq_true, decide_eq_true_eq] at h ⊢
    obtain ⟨⟨⟨⟨h1, h2, h3, h4, h5, h6⟩, h7⟩, h8⟩, h9⟩ := h
    rw [X.frames, List.length_cons] at h2 h3
    have q1 := X.heapSize
    have q2 := X.used
    simp only [hF, hU, List.length_cons, State.stackLimits_setFrames, State.stackBytes_setFrames, hl9, hb9]
    refine ⟨⟨⟨⟨by omega, by omega, by omega, by omega, by omega, h6⟩, ?_⟩, ?_⟩, X.book⟩
    · show T.heap.size + R'.cells ≤ e.platform.maxCells
      omega
    · show T.slotsUsed + R'.slots ≤ e.platform.maxSlots
      omega
  · rw [State.stackLimits_setFrames]; rfl
  · rw [State.stackBytes_setFrames]; rfl
  · refine ⟨?_, Nat.le_refl _, Nat.le_refl _, ?_, ?_, fun a c9 h9 => ⟨c9, h9, rfl, rfl, fun _ _ => rfl⟩⟩
    · obtain ⟨t, ht, -⟩ := State.frames_cons hr
      show T.setVm s.vm = { ((T.setVm s.vm).setFrames (.invoking m args :: below)).setFrames (T.setVm s.vm).frames with heap := T.heap, slotsUsed := T.slotsUsed }
      rw [State.setFrames_setFrames, State.setFrames_self ht]
      rfl
    · show T.slotsUsed = T.slotsUsed + ((T.heap.toList.drop T.heap.size).map (·.slots.size)).sum
      rw [List.drop_eq_nil_of_le (Nat.le_of_eq Array.length_toList)]
      rfl
    · show ((T.heap.toList.drop T.heap.size).map (·.slots.size)).sum ≤ 0
      rw [List.drop_eq_nil_of_le (Nat.le_of_eq Array.length_toList)]
      exact Nat.le_refl _
/-- 'throw new E()': new; dup; invokespecial; athrow -/
theorem vx_throw0 {cc : ByteArray} {pc : Nat} (hexec : p.tables.exec = Jvm.exec) (hb : c.code = cc) (hl : l.stackTraces = false) {own cls : String} {names : List String} {ik ic mc ms : Nat} {A : Nat → Prop}
    (hown : s.vm.findClass own = some m.cls) (hcls : Bundle.fit cls = true) (hnames : ∀ n ∈ names, Bundle.fit n = true)
    (hk : (Cond.classLink own ik cls).before args s = true) (hini : (Cond.initialized cls).before args s = true) (hat : ∀ w ∈ vx_at0 own ic cls names, w.before args s = true)
    (hgood : ∀ w ∈ Cond.classLink own ik cls :: Cond.initialized cls :: vx_at0 own ic cls names, vx_ot w = true)
    (hU : vx_Zq Bundle.tN "UNASSIGNED_STACK" Bundle.steD A s s.heap) (hN : vx_Zq Bundle.tN "SUPPRESSED_SENTINEL" Bundle.listD A s s.heap) (hS : va_S A s.heap H locs) (hsize : ls.size = c.maxLocals)
    (d0 : decode cc pc = .ok (.new ik, 3)) (d3 : decode cc (pc + 3) = .ok (.dup, 1)) (d4 : decode cc (pc + 4) = .ok (.invokespecial ic, 3)) (d7 : decode cc (pc + 7) = .ok (.athrow, 1))
    (hout : ∀ x ∈ c.exceptionTable.toList, covers x (pc + 7) = false)
    (hRframes : names.length + 3 < R.frames) (hRlocals : (rest.map fun v => v.category).sum + (13 * (names.length + 1) + 42) ≤ R.locals) (hRcells : cells + 1 ≤ R.cells) (hRslots : slots + 6 ≤ R.slots) (hlocks : meth.locks = false)
    (hx : ∀ t : State, s.vm.Alike t.vm → H.size ≤ t.heap.size → (∀ q : Nat, q < H.size → t.heap[q]? = H[q]?) → XC cls s t)
    (hf : ∀ z ∈ locs, free z.base) (hc : cells + 1 ≤ mc) (hs : slots + 6 ≤ ms) :
    W p l e R s m args below meth c H locs cells slots (vx_MQ below Qc XC args s mc ms free) (F0 m pc ls rest) := by
  intro T hT X
  have htr : e.platform.stackTraces = false := (show e.platform.stackTraces = l.stackTraces by rw [X.admits.platform]).trans hl
  have Y := vx_rebase X (R' := { frames := R.frames, locals := R.locals, cells := 1, slots := 6 }) (Nat.le_refl _) (Nat.le_refl _) hRcells hRslots
  obtain ⟨s', hA⟩ : ∃ z, z = (T.setVm s.vm).setFrames (.invoking m args :: below) := ⟨_, rfl⟩
  rw [← hA] at Y
  have hvm : s'.vm = s.vm := by rw [hA]; rfl
  have hhp : s'.heap = H := by rw [hA]; exact hT
  have hW0 : s.WarmedH s'.vm := by rw [hvm]; exact State.WarmedH.refl s
  have hat' : ∀ w ∈ vx_at0 own ic cls names, w.before args s' = true := fun w hw => vx_ot_at hW0 hvm.symm (hgood w (List.mem_cons_of_mem _ (List.mem_cons_of_mem _ hw))) (hat w hw)
  have hk' : (Cond.classLink own ik cls).before args s' = true := vx_ot_at hW0 hvm.symm (hgood _ List.mem_cons_self) hk
  have hini' : (Cond.initialized cls).before args s' = true := vx_ot_at hW0 hvm.symm (hgood _ (List.mem_cons_of_mem _ List.mem_cons_self)) hini
  have hU' : vx_Zq Bundle.tN "UNASSIGNED_STACK" Bundle.steD A s' s'.heap := by rw [hhp]; exact vx_Zq.moved hW0.alike (hU.kept hS.2.1)
  have hN' : vx_Zq Bundle.tN "SUPPRESSED_SENTINEL" Bundle.listD A s' s'.heap := by rw [hhp]; exact vx_Zq.moved hW0.alike (hN.kept hS.2.1)
  have h : ∀ w ∈ Bundle.ownAtoms0 own ic cls names, w.before args s' = true := vx_own hat' (vx_isRefq hU'.1) (vx_isRefq hN'.1) hU'.2.word hN'.2.word
  have hown' : s'.vm.findClass own = some m.cls := by rw [hvm]; exact hown
  have hins : (Cond.instantiable cls 6).before args s' = true := h _ (by simp [Bundle.ownAtoms0])
  obtain ⟨vm₁, cX, kX, hfX, hkX, -, -, X₁, st1⟩ := Y.newCold hexec (own := own) (C := cls) (index := ik) (n := 6) hown' hk' hins hini'
    (g := F0 m pc ls rest) rfl (by rw [hb]; exact d0) (Nat.le_refl _) (Nat.le_refl _)
  generalize hT1 : (T.setVm vm₁).pushCell { cls := cX, slots := kX.instanceTypes.map defaultValue, vm := .none } = T1 at X₁ st1
  have hcat : (Value.ref T.heap.size).category = 1 := rfl
  have hcellA : T1.heap[T.heap.size]? = some (freshCell cX kX) := by rw [← hT1]; exact State.heap_pushCell_size _ _
  have d3' : decode c.code (pc + 3) = .ok (.dup, 1) := by rw [hb]; exact d3
  obtain ⟨U, hsteps, hrun, hend, hW, hsame, ce, hce, hO⟩ := X₁.ctorThrow0 hexec htr (own := own) (cls := cls) (names := names) (ic := ic) hown' hcls hnames h (fun x hx => nomatch hx) hfX hkX hcellA (by rw [hhp, hT]; exact Nat.le_refl _)
    (g := { method := m, pc := pc + 4, locals := ls, stack := .ref T.heap.size :: .ref T.heap.size :: rest, locked := none }) rfl hsize rfl rfl (rest := rest) rfl
    (by rw [hb]; exact d4) (by rw [hb]; exact d7) hout hRframes (by simp only [List.map_cons, List.sum_cons, hcat]; omega) hlocks
  obtain ⟨f1, f2⟩ := vx_frame hsame
  rw [hhp] at f1 f2
  have hWs : s.WarmedH U.vm := State.WarmedH.trans hW0 hW
  have hcl : s.vm.findClass cls = some ce.cls := by
    have h9 := hO.cls
    rw [hvm] at h9
    exact h9
  have hall : s.sameButNew ({ U with vm := s.vm } : State) locs mc ms := by
    subst hA
    obtain ⟨e1, e2⟩ := hsame
    rw [State.setFrames_setFrames] at e1
    have h2 : (T.setVm s.vm).sameButNew ({ U with vm := s.vm } : State) [] (0 + 1) (0 + 6) := ⟨e1, e2⟩
    have h3 := X.same.trans h2
    rw [List.append_nil] at h3
    exact h3.mono hc hs
  refine ⟨U, ?_, .threw T.heap.size, hrun, hend, Or.inr ⟨T.heap.size, rfl, cls, ce, locs, hx U hWs.alike f1 (fun q hq => f2 q hq (fun z hz => nomatch hz)), hce, hO.vm, hcl, hWs, hall, hf⟩⟩
  refine st1 _ ?_
  show Steps p.tables e below (T1.setTop { method := m, pc := pc + 3, locals := ls, stack := .ref T.heap.size :: rest, locked := none }) _
  jvm_step X₁.here [X₁.here.top, hexec, d3', Value.category]
  exact hsteps
/-- 'throw new E("text")': new; dup; ldc; invokespecial; athrow -/
theorem vx_throwS {cc : ByteArray} {pc : Nat} (hexec : p.tables.exec = Jvm.exec) (hb : c.code = cc) (hl : l.stackTraces = false) {own cls text : String} {names : List String} {ik is ic mc ms sa : Nat} {A : Nat → Prop}
    (hown : s.vm.findClass own = some m.cls) (hcls : Bundle.fit cls = true) (hnames : ∀ n ∈ names, Bundle.fit n = true)
    (hk : (Cond.classLink own ik cls).before args s = true) (hini : (Cond.initialized cls).before args s = true) (hstr : vk_R own is text sa s) (hat : ∀ w ∈ vx_atS own ic cls names, w.before args s = true)
    (hgood : ∀ w ∈ Cond.classLink own ik cls :: Cond.initialized cls :: vx_atS own ic cls names, vx_ot w = true)
    (hU : vx_Zq Bundle.tN "UNASSIGNED_STACK" Bundle.steD A s s.heap) (hN : vx_Zq Bundle.tN "SUPPRESSED_SENTINEL" Bundle.listD A s s.heap) (hS : va_S A s.heap H locs) (hsize : ls.size = c.maxLocals)
    (d0 : decode cc pc = .ok (.new ik, 3)) (d3 : decode cc (pc + 3) = .ok (.dup, 1)) (d4 : decode cc (pc + 4) = .ok (.ldc is, 2)) (d6 : decode cc (pc + 6) = .ok (.invokespecial ic, 3)) (d9 : decode cc (pc + 9) = .ok (.athrow, 1))
    (hout : ∀ x ∈ c.exceptionTable.toList, covers x (pc + 9) = false)
    (hRframes : names.length + 3 < R.frames) (hRlocals : (rest.map fun v => v.category).sum + (13 * (names.length + 1) + 43) ≤ R.locals) (hRcells : cells + 1 ≤ R.cells) (hRslots : slots + 6 ≤ R.slots) (hlocks : meth.locks = false)
    (hx : ∀ t : State, s.vm.Alike t.vm → H.size ≤ t.heap.size → (∀ q : Nat, q < H.size → t.heap[q]? = H[q]?) → XC cls s t)
    (hf : ∀ z ∈ locs, free z.base) (hc : cells + 1 ≤ mc) (hs : slots + 6 ≤ ms) :
    W p l e R s m args below meth c H locs cells slots (vx_MQ below Qc XC args s mc ms free) (F0 m pc ls rest) := by
  intro T hT X
  have htr : e.platform.stackTraces = false := (show e.platform.stackTraces = l.stackTraces by rw [X.admits.platform]).trans hl
  have Y := vx_rebase X (R' := { frames := R.frames, locals := R.locals, cells := 1, slots := 6 }) (Nat.le_refl _) (Nat.le_refl _) hRcells hRslots
  obtain ⟨s', hA⟩ : ∃ z, z = (T.setVm s.vm).setFrames (.invoking m args :: below) := ⟨_, rfl⟩
  rw [← hA] at Y
  have hvm : s'.vm = s.vm := by rw [hA]; rfl
  have hhp : s'.heap = H := by rw [hA]; exact hT
  have hW0 : s.WarmedH s'.vm := by rw [hvm]; exact State.WarmedH.refl s
  have hat' : ∀ w ∈ vx_atS own ic cls names, w.before args s' = true := fun w hw => vx_ot_at hW0 hvm.symm (hgood w (List.mem_cons_of_mem _ (List.mem_cons_of_mem _ hw))) (hat w hw)
  have hk' : (Cond.classLink own ik cls).before args s' = true := vx_ot_at hW0 hvm.symm (hgood _ List.mem_cons_self) hk
  have hini' : (Cond.initialized cls).before args s' = true := vx_ot_at hW0 hvm.symm (hgood _ (List.mem_cons_of_mem _ List.mem_cons_self)) hini
  have hU' : vx_Zq Bundle.tN "UNASSIGNED_STACK" Bundle.steD A s' s'.heap := by rw [hhp]; exact vx_Zq.moved hW0.alike (hU.kept hS.2.1)
  have hN' : vx_Zq Bundle.tN "SUPPRESSED_SENTINEL" Bundle.listD A s' s'.heap := by rw [hhp]; exact vx_Zq.moved hW0.alike (hN.kept hS.2.1)
  have h : ∀ w ∈ Bundle.ownAtoms own ic cls names, w.before args s' = true := vx_own hat' (vx_isRefq hU'.1) (vx_isRefq hN'.1) hU'.2.word hN'.2.word
  have hown' : s'.vm.findClass own = some m.cls := by rw [hvm]; exact hown
  have hins : (Cond.instantiable cls 6).before args s' = true := h _ (by simp [Bundle.ownAtoms])
  obtain ⟨vm₁, cX, kX, hfX, hkX, -, -, X₁, st1⟩ := Y.newCold hexec (own := own) (C := cls) (index := ik) (n := 6) hown' hk' hins hini'
    (g := F0 m pc ls rest) rfl (by rw [hb]; exact d0) (Nat.le_refl _) (Nat.le_refl _)
  generalize hT1 : (T.setVm vm₁).pushCell { cls := cX, slots := kX.instanceTypes.map defaultValue, vm := .none } = T1 at X₁ st1
  have hcat : (Value.ref T.heap.size).category = 1 := rfl
  have hcellA : T1.heap[T.heap.size]? = some (freshCell cX kX) := by rw [← hT1]; exact State.heap_pushCell_size _ _
  have d3' : decode c.code (pc + 3) = .ok (.dup, 1) := by rw [hb]; exact d3
  have d4' : decode c.code (pc + 4) = .ok (.ldc is, 2) := by rw [hb]; exact d4
  have hstr' : vk_R own is text sa s' := vk_R.warm hW0 hstr
  obtain ⟨U, hsteps, hrun, hend, hW, hsame, ce, hce, hO⟩ := X₁.ctorThrowS hexec htr (own := own) (cls := cls) (names := names) (ic := ic) hown' hcls hnames h (fun x hx => nomatch hx) hfX hkX hcellA (by rw [hhp, hT]; exact Nat.le_refl _) (msg := .ref sa) rfl
    (g := { method := m, pc := pc + 6, locals := ls, stack := .ref sa :: .ref T.heap.size :: .ref T.heap.size :: rest, locked := none }) rfl hsize rfl rfl (rest := rest) rfl
    (by rw [hb]; exact d6) (by rw [hb]; exact d9) hout hRframes (by simp only [List.map_cons, List.sum_cons, hcat]; omega) hlocks
  obtain ⟨f1, f2⟩ := vx_frame hsame
  rw [hhp] at f1 f2
  have hWs : s.WarmedH U.vm := State.WarmedH.trans hW0 hW
  have hcl : s.vm.findClass cls = some ce.cls := by
    have h9 := hO.cls
    rw [hvm] at h9
    exact h9
  have hall : s.sameButNew ({ U with vm := s.vm } : State) locs mc ms := by
    subst hA
    obtain ⟨e1, e2⟩ := hsame
    rw [State.setFrames_setFrames] at e1
    have h2 : (T.setVm s.vm).sameButNew ({ U with vm := s.vm } : State) [] (0 + 1) (0 + 6) := ⟨e1, e2⟩
    have h3 := X.same.trans h2
    rw [List.append_nil] at h3
    exact h3.mono hc hs
  refine ⟨U, ?_, .threw T.heap.size, hrun, hend, Or.inr ⟨T.heap.size, rfl, cls, ce, locs, hx U hWs.alike f1 (fun q hq => f2 q hq (fun z hz => nomatch hz)), hce, hO.vm, hcl, hWs, hall, hf⟩⟩
  refine st1 _ ?_
  show Steps p.tables e below (T1.setTop { method := m, pc := pc + 3, locals := ls, stack := .ref T.heap.size :: rest, locked := none }) _
  jvm_step X₁.here [X₁.here.top, hexec, d3', Value.category]
  exact X₁.ldcString hexec (own := own) (text := text) (index := is) (a := sa) hown' hstr'.1 hstr'.2
    (g := { method := m, pc := pc + 4, locals := ls, stack := .ref T.heap.size :: .ref T.heap.size :: rest, locked := none }) rfl d4' _ hsteps
/-- 'throw new E("text")', the text by a wide index -/
theorem vx_throwSW {cc : ByteArray} {pc : Nat} (hexec : p.tables.exec = Jvm.exec) (hb : c.code = cc) (hl : l.stackTraces = false) {own cls text : String} {names : List String} {ik is ic mc ms sa : Nat} {A : Nat → Prop}
    (hown : s.vm.findClass own = some m.cls) (hcls : Bundle.fit cls = true) (hnames : ∀ n ∈ names, Bundle.fit n = true)
    (hk : (Cond.classLink own ik cls).before args s = true) (hini : (Cond.initialized cls).before args s = true) (hstr : vk_R own is text sa s) (hat : ∀ w ∈ vx_atS own ic cls names, w.before args s = true)
    (hgood : ∀ w ∈ Cond.classLink own ik cls :: Cond.initialized cls :: vx_atS own ic cls names, vx_ot w = true)
    (hU : vx_Zq Bundle.tN "UNASSIGNED_STACK" Bundle.steD A s s.heap) (hN : vx_Zq Bundle.tN "SUPPRESSED_SENTINEL" Bundle.listD A s s.heap) (hS : va_S A s.heap H locs) (hsize : ls.size = c.maxLocals)
    (d0 : decode cc pc = .ok (.new ik, 3)) (d3 : decode cc (pc + 3) = .ok (.dup, 1)) (d4 : decode cc (pc + 4) = .ok (.ldc_w is, 3)) (d7 : decode cc (pc + 7) = .ok (.invokespecial ic, 3)) (d10 : decode cc (pc + 10) = .ok (.athrow, 1))
    (hout : ∀ x ∈ c.exceptionTable.toList, covers x (pc + 10) = false)
    (hRframes : names.length + 3 < R.frames) (hRlocals : (rest.map fun v => v.category).sum + (13 * (names.length + 1) + 43) ≤ R.locals) (hRcells : cells + 1 ≤ R.cells) (hRslots : slots + 6 ≤ R.slots) (hlocks : meth.locks = false)
    (hx : ∀ t : State, s.vm.Alike t.vm → H.size ≤ t.heap.size → (∀ q : Nat, q < H.size → t.heap[q]? = H[q]?) → XC cls s t)
    (hf : ∀ z ∈ locs, free z.base) (hc : cells + 1 ≤ mc) (hs : slots + 6 ≤ ms) :
    W p l e R s m args below meth c H locs cells slots (vx_MQ below Qc XC args s mc ms free) (F0 m pc ls rest) := by
  intro T hT X
  have htr : e.platform.stackTraces = false := (show e.platform.stackTraces = l.stackTraces by rw [X.admits.platform]).trans hl
  have Y := vx_rebase X (R' := { frames := R.frames, locals := R.locals, cells := 1, slots := 6 }) (Nat.le_refl _) (Nat.le_refl _) hRcells hRslots
  obtain ⟨s', hA⟩ : ∃ z, z = (T.setVm s.vm).setFrames (.invoking m args :: below) := ⟨_, rfl⟩
  rw [← hA] at Y
  have hvm : s'.vm = s.vm := by rw [hA]; rfl
  have hhp : s'.heap = H := by rw [hA]; exact hT
  have hW0 : s.WarmedH s'.vm := by rw [hvm]; exact State.WarmedH.refl s
  have hat' : ∀ w ∈ vx_atS own ic cls names, w.before args s' = true := fun w hw => vx_ot_at hW0 hvm.symm (hgood w (List.mem_cons_of_mem _ (List.mem_cons_of_mem _ hw))) (hat w hw)
  have hk' : (Cond.classLink own ik cls).before args s' = true := vx_ot_at hW0 hvm.symm (hgood _ List.mem_cons_self) hk
  have hini' : (Cond.initialized cls).before args s' = true := vx_ot_at hW0 hvm.symm (hgood _ (List.mem_cons_of_mem _ List.mem_cons_self)) hini
  have hU' : vx_Zq Bundle.tN "UNASSIGNED_STACK" Bundle.steD A s' s'.heap := by rw [hhp]; exact vx_Zq.moved hW0.alike (hU.kept hS.2.1)
  have hN' : vx_Zq Bundle.tN "SUPPRESSED_SENTINEL" Bundle.listD A s' s'.heap := by rw [hhp]; exact vx_Zq.moved hW0.alike (hN.kept hS.2.1)
  have h : ∀ w ∈ Bundle.ownAtoms own ic cls names, w.before args s' = true := vx_own hat' (vx_isRefq hU'.1) (vx_isRefq hN'.1) hU'.2.word hN'.2.word
  have hown' : s'.vm.findClass own = some m.cls := by rw [hvm]; exact hown
  have hins : (Cond.instantiable cls 6).before args s' = true := h _ (by simp [Bundle.ownAtoms])
  obtain ⟨vm₁, cX, kX, hfX, hkX, -, -, X₁, st1⟩ := Y.newCold hexec (own := own) (C := cls) (index := ik) (n := 6) hown' hk' hins hini'
    (g := F0 m pc ls rest) rfl (by rw [hb]; exact d0) (Nat.le_refl _) (Nat.le_refl _)
  generalize hT1 : (T.setVm vm₁).pushCell { cls := cX, slots := kX.instanceTypes.map defaultValue, vm := .none } = T1 at X₁ st1
  have hcat : (Value.ref T.heap.size).category = 1 := rfl
  have hcellA : T1.heap[T.heap.size]? = some (freshCell cX kX) := by rw [← hT1]; exact State.heap_pushCell_size _ _
  have d3' : decode c.code (pc + 3) = .ok (.dup, 1) := by rw [hb]; exact d3
  have d4' : decode c.code (pc + 4) = .ok (.ldc_w is, 3) := by rw [hb]; exact d4
  have hstr' : vk_R own is text sa s' := vk_R.warm hW0 hstr
  obtain ⟨U, hsteps, hrun, hend, hW, hsame, ce, hce, hO⟩ := X₁.ctorThrowS hexec htr (own := own) (cls := cls) (names := names) (ic := ic) hown' hcls hnames h (fun x hx => nomatch hx) hfX hkX hcellA (by rw [hhp, hT]; exact Nat.le_refl _) (msg := .ref sa) rfl
    (g := { method := m, pc := pc + 7, locals := ls, stack := .ref sa :: .ref T.heap.size :: .ref T.heap.size :: rest, locked := none }) rfl hsize rfl rfl (rest := rest) rfl
    (by rw [hb]; exact d7) (by rw [hb]; exact d10) hout hRframes (by simp only [List.map_cons, List.sum_cons, hcat]; omega) hlocks
  obtain ⟨f1, f2⟩ := vx_frame hsame
  rw [hhp] at f1 f2
  have hWs : s.WarmedH U.vm := State.WarmedH.trans hW0 hW
  have hcl : s.vm.findClass cls = some ce.cls := by
    have h9 := hO.cls
    rw [hvm] at h9
    exact h9
  have hall : s.sameButNew ({ U with vm := s.vm } : State) locs mc ms := by
    subst hA
    obtain ⟨e1, e2⟩ := hsame
    rw [State.setFrames_setFrames] at e1
    have h2 : (T.setVm s.vm).sameButNew ({ U with vm := s.vm } : State) [] (0 + 1) (0 + 6) := ⟨e1, e2⟩
    have h3 := X.same.trans h2
    rw [List.append_nil] at h3
    exact h3.mono hc hs
  refine ⟨U, ?_, .threw T.heap.size, hrun, hend, Or.inr ⟨T.heap.size, rfl, cls, ce, locs, hx U hWs.alike f1 (fun q hq => f2 q hq (fun z hz => nomatch hz)), hce, hO.vm, hcl, hWs, hall, hf⟩⟩
  refine st1 _ ?_
  show Steps p.tables e below (T1.setTop { method := m, pc := pc + 3, locals := ls, stack := .ref T.heap.size :: rest, locked := none }) _
  jvm_step X₁.here [X₁.here.top, hexec, d3', Value.category]
  exact X₁.ldcStringW hexec (own := own) (text := text) (index := is) (a := sa) hown' hstr'.1 hstr'.2
    (g := { method := m, pc := pc + 4, locals := ls, stack := .ref T.heap.size :: .ref T.heap.size :: rest, locked := none }) rfl d4' _ hsteps
end Ends
section Bodies
variable {l : Launch}
theorem vx_ofW {y : MethodName} {ws ws' : List Cond} {rm : Room} {Pc : Array Value → State → Prop} {Qc : Array Value → State → Outcome → State → Prop} {XC : String → State → State → Prop} {mc ms : Nat} {free : Addr → Prop} {cc : ByteArray} {maxL : Nat} {ret : Option FieldType}
    (hy : plainName y.cls = true) (hw : ws = Cond.code y cc maxL ret :: ws')
    (body : ∀ p e s m args below meth c s₁, BodyLoose p l y (headSpec ws rm) cc maxL ret e s m args below meth c s₁ → c.maxLocals = maxL → (∀ x ∈ c.exceptionTable.toList, False) → Pc args s →
      W p l e (headSpec ws rm).room s m args below meth c s.heap [] 0 0 (vx_MQ below Qc XC args s mc ms free) (entryFrame m args maxL)) : vx_Met l y ws rm Pc Qc XC mc ms free := by
  refine MetFree.of_bodyS (code := cc) (maxLocals := maxL) (ret := ret) hy ?_ ?_
  · intro args s m h hn
    obtain ⟨meth, c, h1, h2, h3, h4, h5, h6, -, -⟩ := Cond.code_spec hn (atoms_spec (ws := ws) h _ (by rw [hw]; exact List.mem_cons_self))
    exact ⟨meth, c, h1, h2, h3, h4, h5, h6⟩
  · intro p e s m args below meth c s₁ B hml hP _
    have hh0 : s₁.heap = s.heap := by rw [B.state]; rfl
    have ht : ∀ x ∈ c.exceptionTable.toList, False := by
      obtain ⟨meth9, c9, h1, h2, -, -, -, -, h7, -⟩ := Cond.code_spec B.named (atoms_spec (ws := ws) B.pre _ (by rw [hw]; exact List.mem_cons_self))
      cases Option.some.inj (h1.symm.trans B.method)
      cases Option.some.inj (h2.symm.trans (Stand.of_body B).code)
      intro x hx
      rw [Array.isEmpty_iff.mp h7] at hx
      cases hx
    obtain ⟨t, a1, o, b1, b2, b3⟩ := body p e s m args below meth c s₁ B hml ht hP s₁ hh0 (Stand.of_body B)
    exact ⟨t, o, a1, b1, b2, b3⟩
/-- the table of a body with handlers -/
theorem vx_table {p : Program} {x y : MethodName} {S : Spec} {cc bytes : ByteArray} {maxL maxL' : Nat} {ret ret' : Option FieldType} {e : Env} {s s₁ : State} {m : MethodId} {args : Array Value} {below : List Frame} {meth : Method} {c : Code} {hh : List (Nat × Nat × Nat × Nat)}
    (B : BodyLoose p l y S cc maxL ret e s m args below meth c s₁) (h : (Cond.codeWith y bytes maxL' ret' hh).before args s = true) : c.exceptionTable.toList = tableOf hh := by
  obtain ⟨m9, meth9, c9, hn9, h1, h2, -, -, h6, -⟩ := Cond.codeWith_spec h
  cases Option.some.inj (hn9.symm.trans B.named)
  cases Option.some.inj (h1.symm.trans B.method)
  cases Option.some.inj (h2.symm.trans (Stand.of_body B).code)
  rw [← h6, table_eq]
end Bodies
end VXA
/-! ===== END ===== -/
/-! ===== BEGIN a static call of a method with an exception table ===== -/
section VXS
variable {p : Program} {l : Launch} {e : Env} {R : Room} {s : State} {m : MethodId} {args : Array Value} {below : List Frame} {meth : Method} {c : Code} {T : State} {H : Heap} {locs : List Loc} {cells slots : Nat}
abbrev vx_CSW (R : Room) (s : State) (args : Array Value) (own : String) (index : Nat) (y : MethodName) (bytes : ByteArray) (maxL : Nat) (ret : Option FieldType) (hh : List (Nat × Nat × Nat × Nat)) (ws : List Cond) (rm : Room) (mc ms n : Nat) : Prop :=
  (rm.cells = mc ∧ rm.slots = ms ∧ rm.frames + 1 ≤ R.frames ∧ 8 + (maxL + 11) + rm.locals ≤ R.locals ∧ (∀ w ∈ ws, ∀ (a' : Array Value) (U : State), s.WarmedH U.vm → w.before a' U = true) ∧ Cond.codeWith y bytes maxL ret hh ∈ ws) ∧
  (Cond.codeWith y bytes maxL ret hh).before args s = true ∧ (Cond.initialized y.cls).before args s = true ∧ (y.cls ≠ "java/lang/invoke/MethodHandle" ∧ y.cls ≠ "java/lang/invoke/VarHandle") ∧
  (∀ sig, parseMethodDescriptor y.desc = some sig → n = sig.parameters.length) ∧ (Cond.methodLink own index y).before args s = true ∧ (Cond.static y).before args s = true
theorem vx_cwSW {own : String} {index maxL mc ms : Nat} {y : MethodName} {bytes : ByteArray} {ret : Option FieldType} {hh : List (Nat × Nat × Nat × Nat)} {Ts ws ws' : List Cond} {rm : Room} (n : Nat) (ht : ∀ w ∈ Ts, w.before args s = true) (hT : GoodIn Ts (va_wsS own index y ws)) (hw : ws = Cond.codeWith y bytes maxL ret hh :: ws') (hrc : rm.cells = mc) (hrs : rm.slots = ms)
    (hd : y.cls ≠ "java/lang/invoke/MethodHandle" ∧ y.cls ≠ "java/lang/invoke/VarHandle" ∧ (parseMethodDescriptor y.desc).map (fun d => d.parameters.length) = some n) (hR : rm.frames + 1 ≤ R.frames ∧ 8 + (maxL + 11) + rm.locals ≤ R.locals) :
    vx_CSW R s args own index y bytes maxL ret hh ws rm mc ms n := by
  have ok : ∀ w ∈ va_wsS own index y ws, w.before args s = true := fun w h => ht w (hT w h).1
  have hG : GoodIn Ts ws := fun w h => hT w (by unfold va_wsS; exact List.mem_append_right _ h)
  have hc : Cond.codeWith y bytes maxL ret hh ∈ ws := by rw [hw]; exact List.mem_cons_self
  refine ⟨⟨hrc, hrs, hR.1, hR.2, pay_in ht hG, hc⟩, ht _ (hG _ hc).1, ok _ (by simp [va_wsS]), ⟨hd.1, hd.2.1⟩, fun sig h => ?_, ok _ (by simp [va_wsS]), ok _ (by simp [va_wsS])⟩
  have h2 := hd.2.2
  rw [h] at h2
  exact (Option.some.inj h2).symm
theorem vx_callSW (X : Stand p l e R s m args below meth c T locs cells slots) (hexec : p.tables.exec = Jvm.exec) {own : String} {index : Nat} {y : MethodName} {bytes : ByteArray} {maxL : Nat} {ret : Option FieldType} {hh : List (Nat × Nat × Nat × Nat)}
    (hown : s.vm.findClass own = some m.cls) (hlink : (Cond.methodLink own index y).before args s = true) (hstat : (Cond.static y).before args s = true) (hinit : (Cond.initialized y.cls).before args s = true)
    (hcode : (Cond.codeWith y bytes maxL ret hh).before args s = true) (hy : y.cls ≠ "java/lang/invoke/MethodHandle" ∧ y.cls ≠ "java/lang/invoke/VarHandle")
    {W9 : Nat} {Pre : Pt → Array Value → Prop} {Post : Pt → Array Value → Option Value → Pt → Prop} (hK : Back l R p e below s args y 3 W9 Pre Post)
    {g : JFrame} (hg : g.method = m) (hsize : g.locals.size = c.maxLocals) {argsL rest : List Value} (hlen : ∀ sig, parseMethodDescriptor y.desc = some sig → argsL.length = sig.parameters.length)
    (hstack : g.stack = argsL.reverse ++ rest) (hW : 2 * g.monitorRoom + (rest.map fun v => v.category).sum ≤ W9) (hdg : decode c.code g.pc = .ok (.invokestatic index, 3))
    (hpre : ∀ vm₁, s.WarmedH vm₁ → Pre ⟨T.setVm vm₁, locs, cells, slots⟩ argsL.toArray) :
    ∃ (v : Option Value) (vm₁ : Vm) (B : Pt), s.WarmedH vm₁ ∧ Stand p l e R s m args below meth c B.U B.locs B.cells B.slots ∧ Post ⟨T.setVm vm₁, locs, cells, slots⟩ argsL.toArray v B ∧
      ∀ target, Steps p.tables e below (B.U.setTop { g with pc := g.pc + 3, stack := v.toList ++ rest }) target → Steps p.tables e below (T.setTop g) target := by
  obtain ⟨mk, methM, cM, hnamed, hmethM, -, -, -, -, -, -, hsigM⟩ := Cond.codeWith_spec hcode
  have hstatic : methM.isStatic = true := Cond.static_spec hnamed hmethM hstat
  obtain ⟨kP, hkP, -⟩ := className_of_methodNamed hnamed
  have hinitP : kP.init = .initialized := Cond.initialized_spec (findClass_of_methodNamed hnamed) hkP hinit
  obtain ⟨vm₁, X₁, hstep₁⟩ := X.invokestatic hexec hown hlink hnamed hmethM hstatic hkP hinitP hy (g := g) hg (argsL := argsL) (rest := rest) (hlen _ hsigM) hstack hdg
  obtain ⟨v, B, X', hpost, hsteps⟩ := hK m meth c ⟨T.setVm vm₁, locs, cells, slots⟩ { g with stack := rest } (.invokestatic index) mk argsL.toArray X₁ hg hsize hdg hW (X₁.named hnamed) (hpre vm₁ X₁.warmed)
  exact ⟨v, vm₁, B, X₁.warmed, X', hpost, fun target h => hstep₁ _ fun acts => by rw [doInvoke_state]; exact hsteps.trans h⟩
theorem vx_runSW {y : MethodName} {bytes cc : ByteArray} {maxL nL mc ms n index : Nat} {ret : Option FieldType} {hh : List (Nat × Nat × Nat × Nat)} {ws : List Cond} {rm : Room} {Pc : Array Value → State → Prop} {Qc : Array Value → State → Outcome → State → Prop} {free : Addr → Prop} {Ts : List Cond} {own : String} {As rest : List Value} {g : JFrame}
    (S : CallFix p m c cc nL s args Ts own) (hM : Met l y ws rm Pc Qc mc ms free) (cw : vx_CSW R s args own index y bytes maxL ret hh ws rm mc ms n) (hp : PreS s H Pc As)
    (hg : g.method = m) (hn : As.length = n) (hsize : g.locals.size = nL) (hstack : g.stack = As.reverse ++ rest) (hW : 2 * g.monitorRoom + (rest.map fun v => v.category).sum ≤ 8) (hdg : decode cc g.pc = .ok (.invokestatic index, 3)) (hf : cells + mc ≤ R.cells ∧ slots + ms ≤ R.slots) :
    va_Run p l e R s m args below meth c H locs cells slots mc ms g rest (Qc As.toArray) (free) := by
  obtain ⟨⟨hrc, hrs, hfr, hlo, hws, hcw⟩, hcode, hini, hy, hlen, hl, hstt⟩ := cw
  have hK : Back l R p e below s args y 3 8 (PreOf R mc ms Pc) (PostOf Qc mc ms free) := va_backW (hh := hh) (bytes := bytes) (maxL := maxL) (ret := ret) hM hp.1 hrc hrs hfr hlo hws hcw (fun a' U hW => word_at hW (Or.inl (by first | rfl | simp [Cond.onTables, Cond.keeps, Cond.steady])) hini)
  obtain ⟨hx, hb, hml, ho, -⟩ := S
  intro T hT X
  obtain ⟨v, vm₁, ⟨U', l2, c2, s2⟩, hW₁, X', ⟨g', mk, t, L, e1, e2, hq, h1, hL, h2, h3⟩, st⟩ := vx_callSW X hx (hh := hh) (bytes := bytes) (maxL := maxL) (ret := ret) ho hl hstt hini hcode hy hK hg (hsize.trans hml.symm) (argsL := As) (rest := rest) (fun sig h => hn.trans (hlen sig h)) hstack hW (by rw [hb]; exact hdg)
    (fun vm₁ hW₁ => ⟨hf.1, hf.2, hp.2 (T.setVm vm₁) hT hW₁⟩)
  dsimp only [Pt.U, Pt.locs, Pt.cells, Pt.slots] at X' e1 e2 h1 h2 h3 st
  subst h1; subst h2; subst h3
  exact ⟨v, (T.setVm vm₁).calling g' mk As.toArray, t, U', L, hT, X', hL, e1, e2, hq, st⟩
/-- not caught here, past rows that name other classes: it goes on to the caller -/
theorem vx_outP {p : Program} {l : Launch} {e : Env} {R : Room} {s : State} {m : MethodId} {args : Array Value} {below : List Frame} {meth : Method} {c : Code} {H : Heap} {locs : List Loc} {cells slots : Nat} {free : Addr → Prop} {ls : Array Slot} {rest : List Value} {Qc : Array Value → State → Outcome → State → Prop} {XC : String → State → State → Prop}
    {pc : Nat} {own E : String} {ce : Cell} {q : Addr} {mc ms : Nat} (hown : s.vm.findClass own = some m.cls) (hlocks : meth.locks = false)
    (hpass : ∀ z ∈ c.exceptionTable.toList, covers z pc = false ∨ (z.catchType ≠ 0 ∧ ∃ nm : String, (Cond.classLink own z.catchType nm).before args s = true ∧ va_Nc E nm s)) (hcell : H[q]? = some ce) (hv : ce.vm = .none) (hcl : s.vm.findClass E = some ce.cls)
    (hx : ∀ t : State, t.heap = H → s.vm.Alike t.vm → XC E s t) (hf : ∀ z ∈ locs, free z.base) (hc : cells ≤ mc) (hs : slots ≤ ms) :
    vx_W p l e R s m args below meth c H locs cells slots (vx_MQ below Qc XC args s mc ms free) (F0 m pc ls rest) q := by
  intro T hT X
  have hpl : e.platform.magicAccessors = ({} : Platform).magicAccessors := by rw [X.admits.platform]
  obtain ⟨vm', hW', X', st⟩ := X.outThrough hlocks q (g := F0 m pc ls rest) rfl rfl rfl (cell := ce) (by rw [hT]; exact hcell) (by rw [hv]; rfl)
    (by obtain ⟨k9, h9, -⟩ := Vm.findClass_spec hcl; exact ⟨k9, h9⟩) (fun z hz => by
      rcases hpass z hz with h | ⟨hz0, nm, hl1, hn1⟩
      · exact Or.inl h
      · obtain ⟨c6, hc6, hcl6⟩ := Cond.classLink_spec hown hl1 e.platform hpl
        obtain ⟨a8, b8, h1, h2, h3⟩ := hn1
        cases Option.some.inj (h1.symm.trans hcl)
        cases Option.some.inj (h2.symm.trans hc6)
        exact Or.inr ⟨hz0, _, hcl6, h3⟩)
  obtain ⟨g₀, hfr⟩ := X'.frames_eq
  have hcell9 : ((T.setVm vm').setFrames (.throwing q :: below)).heap[q]? = some ce := by
    show T.heap[q]? = some ce
    rw [hT]; exact hcell
  have hend : Ended ((T.setVm vm').setFrames (.throwing q :: below)) below (.threw q) := State.frames_setFrames _ (State.cur_lt_of_frames hfr)
  refine ⟨(T.setVm vm').setFrames (.throwing q :: below), ?_, .threw q, X'.here.running, hend, Or.inr ⟨q, rfl, E, ce, locs, hx _ hT (X'.ends _).1.alike, hcell9, hv, hcl, (X'.ends _).1, (X'.ends _).2.mono hc hs, hf⟩⟩
  rw [X.pushThrowing_eq]
  exact st
/-- a thing of a world lies in the heap -/
theorem vx_lt {D : va_G} {cl : List vw_C} {ws : va_W} {H1 : Heap} (h : va_P D cl ws H1) {k : Nat} {q : Nat × va_E} (hk : ws[k]? = some q) : q.1 < H1.size := (h k q hk).lt
end VXS
/-! ===== END ===== -/
/-! ===== BEGIN methods with a table of their own: called by a name, returning or throwing ===== -/
section VXH
/-! vx_backW, vx_callVX, vx_callSX, vx_callVW, vx_runVW, vx_runVX, vx_runSX, vx_ofWH follow the same proofs as their sisters above (Free/Laws.lean, Shelf42/LK1.lean); vx_outP calls Shelf42/NT130.lean (outThrough). -/
section
variable {l : Launch} {R : Room} {p : Program} {e : Env} {below : List Frame} {s : State} {sargs : Array Value} {y : MethodName} {len W9 : Nat}
theorem vx_backW {ws : List Cond} {rm : Room} {Pc : Array Value → State → Prop} {Qc : Array Value → State → Outcome → State → Prop} {XC : String → State → State → Prop} {mc ms : Nat} {free : Addr → Prop} {bytes : ByteArray} {maxL : Nat} {ret : Option FieldType} {hh : List (Nat × Nat × Nat × Nat)}
    (hM : vx_Met l y ws rm Pc Qc XC mc ms free) (hblind : FrameBlind Pc) (hrc : rm.cells = mc) (hrs : rm.slots = ms)
    (hframes : rm.frames + 1 ≤ R.frames) (hlocals : W9 + (maxL + 11) + rm.locals ≤ R.locals)
    (hws : ∀ w ∈ ws, ∀ a' U, s.WarmedH U.vm → w.before a' U = true) (hcode : Cond.codeWith y bytes maxL ret hh ∈ ws) (hinit : ∀ a' U, s.WarmedH U.vm → (Cond.initialized y.cls).before a' U = true) :
    vx_Back l R p e below s sargs y len W9 (PreOf R mc ms Pc) (PostOf Qc mc ms free) (vx_Post XC mc ms free) := by
  intro m meth c A g ig mk a X hg hsize hdg hW hn hp
  have h1 : (headSpec ws rm).pre.before a A.U = true := atoms_intro fun w hw => hws w hw _ _ X.warmed
  have h2 : (Cond.codeWith y bytes maxL ret hh).before a A.U = true := hws _ hcode _ _ X.warmed
  have h3 : (Cond.initialized y.cls).before a A.U = true := hinit _ _ X.warmed
  have h4 : A.cells + (headSpec ws rm).room.cells ≤ R.cells := by rw [show (headSpec ws rm).room.cells = mc from hrc]; exact hp.1
  have h5 : A.slots + (headSpec ws rm).room.slots ≤ R.slots := by rw [show (headSpec ws rm).room.slots = ms from hrs]; exact hp.2.1
  have hPc : Pc a (A.U.calling g mk a) := hblind _ _ _ _ hp.2.2
  obtain ⟨U, Ls, c0, s0⟩ := A
  dsimp only [Pt.U, Pt.locs, Pt.cells, Pt.slots] at h1 h2 h3 h4 h5 X hn hPc ⊢
  obtain ⟨m9, methY, cY, hn9, hmY, hcY, -, hlY, -⟩ := Cond.codeWith_spec h2
  cases Option.some.inj (hn9.symm.trans hn)
  obtain ⟨kY, hkY, -⟩ := className_of_methodNamed hn
  have hinitY : kY.init = .initialized := Cond.initialized_spec (findClass_of_methodNamed hn) hkY h3
  have h : At U g.method c below := by rw [hg]; exact X.here
  have hlocals9 : W9 + (maxL + 11) + (headSpec ws rm).room.locals ≤ R.locals := hlocals
  have happ : (headSpec ws rm).appliesLoose y e.platform (U.calling g mk a) = true :=
    Spec.appliesLoose_calling (g := g) h hdg hn hkY hinitY
      (X.room_calling (g := g) (R' := (headSpec ws rm).room) hsize hmY hcY hframes (by rw [hlY]; omega) h4 h5) h1
  obtain ⟨mid, hmid⟩ := h.above
  have hfr : (U.setTop g).frames = (.java g :: mid) ++ below := by rw [State.frames_setTop' g h.top, hmid]; rfl
  obtain ⟨o, s₂, hsteps, -, hend, hq⟩ := Steps.callFree hM p X.admits X.cas X.clock (acts := []) hfr happ hPc trivial
  have hq' : vx_Q Qc XC mc ms free a (U.calling g mk a) o s₂ := hq
  rw [State.frames_setTop' g h.top] at hend
  obtain ⟨g₀, hg0⟩ := Option.isSome_iff_exists.mp h.top
  obtain ⟨r, hr⟩ := State.topJava?_eq_some.mp hg0
  have hr' : (({ U with heap := s₂.heap, slotsUsed := s₂.slotsUsed } : State).setVm s₂.vm).frames = .java g₀ :: r := hr
  rcases hq' with ⟨hqc, L, hfe, hL⟩ | ⟨q, rfl, E, ce, L, hx, hce, hcv, hcl, hW₂, hsm, hL⟩
  · obtain ⟨⟨v, rfl⟩, hW₂, e2, q2, q3, q4, q5, q6⟩ := id hfe
    have e3 : s₂ = ({ (U.calling g mk a).setFrames s₂.frames with heap := s₂.heap, slotsUsed := s₂.slotsUsed } : State).setVm s₂.vm := by
      have : s₂ = ({ s₂ with vm := (U.calling g mk a).vm } : State).setVm s₂.vm := rfl
      rw [e2] at this
      exact this
    obtain ⟨c₂, i₂, len₂, hc₂, hd₂, hf₂⟩ := hend
    have hW' : U.WarmedH s₂.vm := hW₂
    have hcc : c₂ = c := by
      have h1 : s₂.code? g.method = U.code? g.method := by
        rw [State.code?_eq, State.code?_eq, hW'.alike.method?]
      exact Option.some.inj (hc₂.symm.trans (h1.trans h.code))
    subst hcc
    have hlen : len₂ = len := by rw [hdg] at hd₂; cases hd₂; rfl
    subst hlen
    have hs₂ : s₂ = (({ U with heap := s₂.heap, slotsUsed := s₂.slotsUsed } : State).setVm s₂.vm).setTop { g with pc := g.pc + len₂, stack := v.toList ++ g.stack } := by
      refine e3.trans ?_
      rw [hf₂, State.calling_eq h.top, State.setFrames_setFrames, State.setTop_of_frames _ hr', hr]
      rfl
    have hsame : U.sameButNew ({ U with heap := s₂.heap, slotsUsed := s₂.slotsUsed } : State) L mc ms := by
      refine ⟨?_, q2, q3, q4, q5, q6⟩
      obtain ⟨t, ht, -⟩ := State.frames_cons hr
      show ({ U with heap := s₂.heap, slotsUsed := s₂.slotsUsed } : State) = { U.setFrames U.frames with heap := s₂.heap, slotsUsed := s₂.slotsUsed }
      rw [State.setFrames_self ht]
    subst hg
    refine Or.inl ⟨v, ⟨(({ U with heap := s₂.heap, slotsUsed := s₂.slotsUsed } : State).setVm s₂.vm), Ls ++ L, c0 + mc, s0 + ms⟩,
      ⟨X.admits, X.cas, X.clock, X.frames, X.room, X.hears, X.method, X.code, (X.here.setHeapUsed s₂.heap s₂.slotsUsed).setVm hW'.alike, X.tail, State.WarmedH.trans X.warmed hW', X.limits, X.bytes, X.same.trans (hsame.setVm s.vm)⟩,
      ⟨g, mk, s₂, L, rfl, rfl, hqc, rfl, hL, rfl, rfl⟩, ?_⟩
    show Steps p.tables e below _ ((({ U with heap := s₂.heap, slotsUsed := s₂.slotsUsed } : State).setVm s₂.vm).setTop { g with pc := g.pc + len₂, stack := v.toList ++ g.stack })
    rw [← hs₂]
    exact hsteps
  · obtain ⟨e2, q2, q3, q4, q5, q6⟩ := id hsm
    have e3 : s₂ = ({ (U.calling g mk a).setFrames s₂.frames with heap := s₂.heap, slotsUsed := s₂.slotsUsed } : State).setVm s₂.vm := by
      have : s₂ = ({ s₂ with vm := (U.calling g mk a).vm } : State).setVm s₂.vm := rfl
      rw [e2] at this
      exact this
    have hf₂ : s₂.frames = .throwing q :: .java g :: U.frames.tail := hend
    have hW' : U.WarmedH s₂.vm := hW₂
    have hs₂ : s₂ = ((({ U with heap := s₂.heap, slotsUsed := s₂.slotsUsed } : State).setVm s₂.vm).setTop g).pushFrame (.throwing q) := by
      refine e3.trans ?_
      rw [hf₂, State.calling_eq h.top, State.setFrames_setFrames, State.pushFrame, State.frames_setTop _ hr', State.setTop_of_frames _ hr', State.setFrames_setFrames, hr]
      rfl
    have hsame : U.sameButNew ({ U with heap := s₂.heap, slotsUsed := s₂.slotsUsed } : State) L mc ms := by
      refine ⟨?_, q2, q3, q4, q5, q6⟩
      obtain ⟨t, ht, -⟩ := State.frames_cons hr
      show ({ U with heap := s₂.heap, slotsUsed := s₂.slotsUsed } : State) = { U.setFrames U.frames with heap := s₂.heap, slotsUsed := s₂.slotsUsed }
      rw [State.setFrames_self ht]
    subst hg
    refine Or.inr ⟨q, ⟨(({ U with heap := s₂.heap, slotsUsed := s₂.slotsUsed } : State).setVm s₂.vm), Ls ++ L, c0 + mc, s0 + ms⟩,
      ⟨X.admits, X.cas, X.clock, X.frames, X.room, X.hears, X.method, X.code, (X.here.setHeapUsed s₂.heap s₂.slotsUsed).setVm hW'.alike, X.tail, State.WarmedH.trans X.warmed hW', X.limits, X.bytes, X.same.trans (hsame.setVm s.vm)⟩,
      ⟨g, mk, s₂, L, E, ce, rfl, rfl, hx, hce, hcv, hcl, rfl, hL, rfl, rfl⟩, ?_⟩
    show Steps p.tables e below _ (((({ U with heap := s₂.heap, slotsUsed := s₂.slotsUsed } : State).setVm s₂.vm).setTop g).pushFrame (.throwing q))
    rw [← hs₂]
    exact hsteps
end
variable {p : Program} {l : Launch} {e : Env} {R : Room} {s : State} {m : MethodId} {args : Array Value} {below : List Frame} {meth : Method} {c : Code} {T : State} {H : Heap} {locs : List Loc} {cells slots : Nat}
theorem vx_callVX (X : Stand p l e R s m args below meth c T locs cells slots) (hexec : p.tables.exec = Jvm.exec) {own C : String} {index : Nat} {y : MethodName} {bytes : ByteArray} {maxL : Nat} {ret : Option FieldType} {hh : List (Nat × Nat × Nat × Nat)}
    (hown : s.vm.findClass own = some m.cls) (hlink : (Cond.methodLink own index y).before args s = true) (hinst : (Cond.instanceMethod y).before args s = true) (hsel : (Cond.selects C y y).before args s = true)
    (hcode : (Cond.codeWith y bytes maxL ret hh).before args s = true) (hy : y.cls ≠ "java/lang/invoke/MethodHandle" ∧ y.cls ≠ "java/lang/invoke/VarHandle")
    {W9 : Nat} {Pre : Pt → Array Value → Prop} {Post : Pt → Array Value → Option Value → Pt → Prop} {PostX : Pt → Array Value → Addr → Pt → Prop} (hK : vx_Back l R p e below s args y 3 W9 Pre Post PostX)
    {b : Addr} {cellB : Cell} (hcell : T.heap[b]? = some cellB) (hobj : cellB.vm.isStatics = false) (hcls : s.vm.findClass C = some cellB.cls)
    {g : JFrame} (hg : g.method = m) (hsize : g.locals.size = c.maxLocals) {argsL rest : List Value} (hlen : ∀ sig, parseMethodDescriptor y.desc = some sig → argsL.length = sig.parameters.length)
    (hstack : g.stack = argsL.reverse ++ .ref b :: rest) (hW : 2 * g.monitorRoom + (rest.map fun v => v.category).sum ≤ W9) (hdg : decode c.code g.pc = .ok (.invokevirtual index, 3))
    (hpre : ∀ vm₁, s.WarmedH vm₁ → Pre ⟨T.setVm vm₁, locs, cells, slots⟩ (Value.ref b :: argsL).toArray) :
    (∃ (v : Option Value) (vm₁ : Vm) (B : Pt), s.WarmedH vm₁ ∧ Stand p l e R s m args below meth c B.U B.locs B.cells B.slots ∧ Post ⟨T.setVm vm₁, locs, cells, slots⟩ (Value.ref b :: argsL).toArray v B ∧
      ∀ target, Steps p.tables e below (B.U.setTop { g with pc := g.pc + 3, stack := v.toList ++ rest }) target → Steps p.tables e below (T.setTop g) target) ∨
    (∃ (q : Addr) (vm₁ : Vm) (B : Pt), s.WarmedH vm₁ ∧ Stand p l e R s m args below meth c B.U B.locs B.cells B.slots ∧ PostX ⟨T.setVm vm₁, locs, cells, slots⟩ (Value.ref b :: argsL).toArray q B ∧
      Steps p.tables e below (T.setTop g) ((B.U.setTop { g with stack := rest }).pushFrame (.throwing q))) := by
  obtain ⟨mk, methM, hnamed, hmethM, hstM, habM⟩ := Cond.instanceMethod_spec hinst
  obtain ⟨m8, methM', cM, hn8, hmethM', -, -, -, -, -, -, hsigM⟩ := Cond.codeWith_spec hcode
  cases Option.some.inj (hn8.symm.trans hnamed)
  cases hmethM.symm.trans hmethM'
  obtain ⟨c2, r2, m2, q1, q2, q3, q4, kP, hkP, hkPi⟩ := Cond.selects_spec hsel
  cases hcls.symm.trans q1
  cases (State.methodFound?_of_named hnamed hy).symm.trans q2
  cases hnamed.symm.trans q3
  have hselP : selectMethod e.platform s.vm cellB.cls mk = .method mk := by rw [Launch.admits_selectMethod X.admits]; exact q4
  obtain ⟨vm₁, X₁, hstep₁⟩ := X.invokevirtual hexec hown hlink hnamed hmethM hstM hkP hkPi hy (a := b) (cell := cellB) hcell
    (fun z h => by rw [h] at hobj; cases hobj) hselP hmethM habM hkP hkPi (g := g) hg (argsL := argsL) (rest := rest) (hlen _ hsigM) hstack hdg
  rcases hK m meth c ⟨T.setVm vm₁, locs, cells, slots⟩ { g with stack := rest } (.invokevirtual index) mk (Value.ref b :: argsL).toArray X₁ hg hsize hdg hW (X₁.named hnamed) (hpre vm₁ X₁.warmed) with ⟨v, B, X', hpost, hsteps⟩ | ⟨q, B, X', hpost, hsteps⟩
  · exact Or.inl ⟨v, vm₁, B, X₁.warmed, X', hpost, fun target h => hstep₁ _ fun acts => by rw [doInvoke_state]; exact hsteps.trans h⟩
  · exact Or.inr ⟨q, vm₁, B, X₁.warmed, X', hpost, hstep₁ _ fun acts => by rw [doInvoke_state]; exact hsteps⟩
theorem vx_callSX (X : Stand p l e R s m args below meth c T locs cells slots) (hexec : p.tables.exec = Jvm.exec) {own : String} {index : Nat} {y : MethodName} {bytes : ByteArray} {maxL : Nat} {ret : Option FieldType} {hh : List (Nat × Nat × Nat × Nat)}
    (hown : s.vm.findClass own = some m.cls) (hlink : (Cond.methodLink own index y).before args s = true) (hstat : (Cond.static y).before args s = true) (hinit : (Cond.initialized y.cls).before args s = true)
    (hcode : (Cond.codeWith y bytes maxL ret hh).before args s = true) (hy : y.cls ≠ "java/lang/invoke/MethodHandle" ∧ y.cls ≠ "java/lang/invoke/VarHandle")
    {W9 : Nat} {Pre : Pt → Array Value → Prop} {Post : Pt → Array Value → Option Value → Pt → Prop} {PostX : Pt → Array Value → Addr → Pt → Prop} (hK : vx_Back l R p e below s args y 3 W9 Pre Post PostX)
    {g : JFrame} (hg : g.method = m) (hsize : g.locals.size = c.maxLocals) {argsL rest : List Value} (hlen : ∀ sig, parseMethodDescriptor y.desc = some sig → argsL.length = sig.parameters.length)
    (hstack : g.stack = argsL.reverse ++ rest) (hW : 2 * g.monitorRoom + (rest.map fun v => v.category).sum ≤ W9) (hdg : decode c.code g.pc = .ok (.invokestatic index, 3))
    (hpre : ∀ vm₁, s.WarmedH vm₁ → Pre ⟨T.setVm vm₁, locs, cells, slots⟩ argsL.toArray) :
    (∃ (v : Option Value) (vm₁ : Vm) (B : Pt), s.WarmedH vm₁ ∧ Stand p l e R s m args below meth c B.U B.locs B.cells B.slots ∧ Post ⟨T.setVm vm₁, locs, cells, slots⟩ argsL.toArray v B ∧
      ∀ target, Steps p.tables e below (B.U.setTop { g with pc := g.pc + 3, stack := v.toList ++ rest }) target → Steps p.tables e below (T.setTop g) target) ∨
    (∃ (q : Addr) (vm₁ : Vm) (B : Pt), s.WarmedH vm₁ ∧ Stand p l e R s m args below meth c B.U B.locs B.cells B.slots ∧ PostX ⟨T.setVm vm₁, locs, cells, slots⟩ argsL.toArray q B ∧
      Steps p.tables e below (T.setTop g) ((B.U.setTop { g with stack := rest }).pushFrame (.throwing q))) := by
  obtain ⟨mk, methM, cM, hnamed, hmethM, -, -, -, -, -, -, hsigM⟩ := Cond.codeWith_spec hcode
  have hstatic : methM.isStatic = true := Cond.static_spec hnamed hmethM hstat
  obtain ⟨kP, hkP, -⟩ := className_of_methodNamed hnamed
  have hinitP : kP.init = .initialized := Cond.initialized_spec (findClass_of_methodNamed hnamed) hkP hinit
  obtain ⟨vm₁, X₁, hstep₁⟩ := X.invokestatic hexec hown hlink hnamed hmethM hstatic hkP hinitP hy (g := g) hg (argsL := argsL) (rest := rest) (hlen _ hsigM) hstack hdg
  rcases hK m meth c ⟨T.setVm vm₁, locs, cells, slots⟩ { g with stack := rest } (.invokestatic index) mk argsL.toArray X₁ hg hsize hdg hW (X₁.named hnamed) (hpre vm₁ X₁.warmed) with ⟨v, B, X', hpost, hsteps⟩ | ⟨q, B, X', hpost, hsteps⟩
  · exact Or.inl ⟨v, vm₁, B, X₁.warmed, X', hpost, fun target h => hstep₁ _ fun acts => by rw [doInvoke_state]; exact hsteps.trans h⟩
  · exact Or.inr ⟨q, vm₁, B, X₁.warmed, X', hpost, hstep₁ _ fun acts => by rw [doInvoke_state]; exact hsteps⟩
theorem vx_callVW (X : Stand p l e R s m args below meth c T locs cells slots) (hexec : p.tables.exec = Jvm.exec) {own C : String} {index : Nat} {y : MethodName} {bytes : ByteArray} {maxL : Nat} {ret : Option FieldType} {hh : List (Nat × Nat × Nat × Nat)}
    (hown : s.vm.findClass own = some m.cls) (hlink : (Cond.methodLink own index y).before args s = true) (hinst : (Cond.instanceMethod y).before args s = true) (hsel : (Cond.selects C y y).before args s = true)
    (hcode : (Cond.codeWith y bytes maxL ret hh).before args s = true) (hy : y.cls ≠ "java/lang/invoke/MethodHandle" ∧ y.cls ≠ "java/lang/invoke/VarHandle")
    {W9 : Nat} {Pre : Pt → Array Value → Prop} {Post : Pt → Array Value → Option Value → Pt → Prop} (hK : Back l R p e below s args y 3 W9 Pre Post)
    {b : Addr} {cellB : Cell} (hcell : T.heap[b]? = some cellB) (hobj : cellB.vm.isStatics = false) (hcls : s.vm.findClass C = some cellB.cls)
    {g : JFrame} (hg : g.method = m) (hsize : g.locals.size = c.maxLocals) {argsL rest : List Value} (hlen : ∀ sig, parseMethodDescriptor y.desc = some sig → argsL.length = sig.parameters.length)
    (hstack : g.stack = argsL.reverse ++ .ref b :: rest) (hW : 2 * g.monitorRoom + (rest.map fun v => v.category).sum ≤ W9) (hdg : decode c.code g.pc = .ok (.invokevirtual index, 3))
    (hpre : ∀ vm₁, s.WarmedH vm₁ → Pre ⟨T.setVm vm₁, locs, cells, slots⟩ (Value.ref b :: argsL).toArray) :
    ∃ (v : Option Value) (vm₁ : Vm) (B : Pt), s.WarmedH vm₁ ∧ Stand p l e R s m args below meth c B.U B.locs B.cells B.slots ∧ Post ⟨T.setVm vm₁, locs, cells, slots⟩ (Value.ref b :: argsL).toArray v B ∧
      ∀ target, Steps p.tables e below (B.U.setTop { g with pc := g.pc + 3, stack := v.toList ++ rest }) target → Steps p.tables e below (T.setTop g) target := by
  obtain ⟨mk, methM, hnamed, hmethM, hstM, habM⟩ := Cond.instanceMethod_spec hinst
  obtain ⟨m8, methM', cM, hn8, hmethM', -, -, -, -, -, -, hsigM⟩ := Cond.codeWith_spec hcode
  cases Option.some.inj (hn8.symm.trans hnamed)
  cases hmethM.symm.trans hmethM'
  obtain ⟨c2, r2, m2, q1, q2, q3, q4, kP, hkP, hkPi⟩ := Cond.selects_spec hsel
  cases hcls.symm.trans q1
  cases (State.methodFound?_of_named hnamed hy).symm.trans q2
  cases hnamed.symm.trans q3
  have hselP : selectMethod e.platform s.vm cellB.cls mk = .method mk := by rw [Launch.admits_selectMethod X.admits]; exact q4
  obtain ⟨vm₁, X₁, hstep₁⟩ := X.invokevirtual hexec hown hlink hnamed hmethM hstM hkP hkPi hy (a := b) (cell := cellB) hcell
    (fun z h => by rw [h] at hobj; cases hobj) hselP hmethM habM hkP hkPi (g := g) hg (argsL := argsL) (rest := rest) (hlen _ hsigM) hstack hdg
  obtain ⟨v, B, X', hpost, hsteps⟩ := hK m meth c ⟨T.setVm vm₁, locs, cells, slots⟩ { g with stack := rest } (.invokevirtual index) mk (Value.ref b :: argsL).toArray X₁ hg hsize hdg hW (X₁.named hnamed) (hpre vm₁ X₁.warmed)
  exact ⟨v, vm₁, B, X₁.warmed, X', hpost, fun target h => hstep₁ _ fun acts => by rw [doInvoke_state]; exact hsteps.trans h⟩
abbrev vx_CVW (R : Room) (s : State) (args : Array Value) (own C : String) (index : Nat) (y : MethodName) (bytes : ByteArray) (maxL : Nat) (ret : Option FieldType) (hh : List (Nat × Nat × Nat × Nat)) (ws : List Cond) (rm : Room) (mc ms n : Nat) : Prop :=
  (rm.cells = mc ∧ rm.slots = ms ∧ rm.frames + 1 ≤ R.frames ∧ 8 + (maxL + 11) + rm.locals ≤ R.locals ∧ (∀ w ∈ ws, ∀ (a' : Array Value) (U : State), s.WarmedH U.vm → w.before a' U = true) ∧ Cond.codeWith y bytes maxL ret hh ∈ ws) ∧
  (Cond.codeWith y bytes maxL ret hh).before args s = true ∧ (Cond.initialized y.cls).before args s = true ∧ (y.cls ≠ "java/lang/invoke/MethodHandle" ∧ y.cls ≠ "java/lang/invoke/VarHandle") ∧
  (∀ sig, parseMethodDescriptor y.desc = some sig → n = sig.parameters.length) ∧ (Cond.methodLink own index y).before args s = true ∧ (Cond.instanceMethod y).before args s = true ∧ (Cond.selects C y y).before args s = true
theorem vx_cwVW {own C : String} {index maxL mc ms : Nat} {y : MethodName} {bytes : ByteArray} {ret : Option FieldType} {hh : List (Nat × Nat × Nat × Nat)} {Ts ws ws' : List Cond} {rm : Room} (n : Nat) (ht : ∀ w ∈ Ts, w.before args s = true) (hT : GoodIn Ts (wsV own index C y ws)) (hw : ws = Cond.codeWith y bytes maxL ret hh :: ws') (hrc : rm.cells = mc) (hrs : rm.slots = ms)
    (hd : y.cls = C ∧ y.cls ≠ "java/lang/invoke/MethodHandle" ∧ y.cls ≠ "java/lang/invoke/VarHandle" ∧ (parseMethodDescriptor y.desc).map (fun d => d.parameters.length) = some n) (hR : rm.frames + 1 ≤ R.frames ∧ 8 + (maxL + 11) + rm.locals ≤ R.locals) :
    vx_CVW R s args own C index y bytes maxL ret hh ws rm mc ms n := by
  obtain ⟨hC, hd⟩ := hd
  subst hC
  have ok : ∀ w ∈ wsV own index y.cls y ws, w.before args s = true := fun w h => ht w (hT w h).1
  have hG : GoodIn Ts ws := fun w h => hT w (by unfold wsV; exact List.mem_append_right _ h)
  have hc : Cond.codeWith y bytes maxL ret hh ∈ ws := by rw [hw]; exact List.mem_cons_self
  refine ⟨⟨hrc, hrs, hR.1, hR.2, pay_in ht hG, hc⟩, ht _ (hG _ hc).1, ok _ (by simp [wsV]), ⟨hd.1, hd.2.1⟩, fun sig h => ?_, ok _ (by simp [wsV]), ok _ (by simp [wsV]), ok _ (by simp [wsV])⟩
  have h2 := hd.2.2
  rw [h] at h2
  exact (Option.some.inj h2).symm
theorem vx_runVW {y : MethodName} {bytes cc : ByteArray} {maxL nL mc ms n index : Nat} {ret : Option FieldType} {hh : List (Nat × Nat × Nat × Nat)} {ws : List Cond} {rm : Room} {Pc : Array Value → State → Prop} {Qc : Array Value → State → Outcome → State → Prop} {free : Addr → Prop} {Ts : List Cond} {own C : String} {b : Addr} {As rest : List Value} {g : JFrame}
    (S : CallFix p m c cc nL s args Ts own) (hM : Met l y ws rm Pc Qc mc ms free) (cw : vx_CVW R s args own C index y bytes maxL ret hh ws rm mc ms n) (hp : PreV s H C b Pc As)
    (hg : g.method = m) (hn : As.length = n) (hsize : g.locals.size = nL) (hstack : g.stack = As.reverse ++ .ref b :: rest) (hW : 2 * g.monitorRoom + (rest.map fun v => v.category).sum ≤ 8) (hdg : decode cc g.pc = .ok (.invokevirtual index, 3)) (hf : cells + mc ≤ R.cells ∧ slots + ms ≤ R.slots) :
    va_Run p l e R s m args below meth c H locs cells slots mc ms g rest (Qc (Value.ref b :: As).toArray) free := by
  obtain ⟨⟨hrc, hrs, hfr, hlo, hws, hcw⟩, hcode, hini, hy, hlen, hl, hin, hse⟩ := cw
  have hK : Back l R p e below s args y 3 8 (PreOf R mc ms Pc) (PostOf Qc mc ms free) := va_backW (hh := hh) (bytes := bytes) (maxL := maxL) (ret := ret) hM hp.1 hrc hrs hfr hlo hws hcw (fun a' U hW => word_at hW (Or.inl (by first | rfl | simp [Cond.onTables, Cond.keeps, Cond.steady])) hini)
  obtain ⟨hx, hb, hml, ho, -⟩ := S
  obtain ⟨-, ⟨cellB, hcB, hoB, hclB⟩, hPc⟩ := hp
  intro T hT X
  obtain ⟨v, vm₁, ⟨U', l2, c2, s2⟩, hW₁, X', ⟨g', mk, t, L, e1, e2, hq, h1, hL, h2, h3⟩, st⟩ := vx_callVW X hx (C := C) (hh := hh) (bytes := bytes) (maxL := maxL) (ret := ret) ho hl hin hse hcode hy hK (by rw [hT]; exact hcB) hoB hclB hg (hsize.trans hml.symm) (argsL := As) (rest := rest) (fun sig h => hn.trans (hlen sig h)) hstack hW (by rw [hb]; exact hdg)
    (fun vm₁ hW₁ => ⟨hf.1, hf.2, hPc (T.setVm vm₁) hT hW₁⟩)
  dsimp only [Pt.U, Pt.locs, Pt.cells, Pt.slots] at X' e1 e2 h1 h2 h3 st
  subst h1; subst h2; subst h3
  exact ⟨v, (T.setVm vm₁).calling g' mk (Value.ref b :: As).toArray, t, U', L, hT, X', hL, e1, e2, hq, st⟩
section
variable {y : MethodName} {bytes cc : ByteArray} {maxL nL mc ms n index : Nat} {ret : Option FieldType} {ws : List Cond} {rm : Room} {Pc : Array Value → State → Prop} {Qc : Array Value → State → Outcome → State → Prop} {XC : String → State → State → Prop} {free : Addr → Prop} {Ts : List Cond} {own C : String} {b : Addr} {As rest : List Value} {g : JFrame}
theorem vx_runVX {hh : List (Nat × Nat × Nat × Nat)} (S : CallFix p m c cc nL s args Ts own) (hM : vx_Met l y ws rm Pc Qc XC mc ms free) (cw : vx_CVW R s args own C index y bytes maxL ret hh ws rm mc ms n) (hp : PreV s H C b Pc As)
    (hg : g.method = m) (hn : As.length = n) (hsize : g.locals.size = nL) (hstack : g.stack = As.reverse ++ .ref b :: rest) (hW : 2 * g.monitorRoom + (rest.map fun v => v.category).sum ≤ 8) (hdg : decode cc g.pc = .ok (.invokevirtual index, 3)) (hf : cells + mc ≤ R.cells ∧ slots + ms ≤ R.slots) :
    vx_Run p l e R s m args below meth c H locs cells slots mc ms g rest (Qc (Value.ref b :: As).toArray) XC free := by
  obtain ⟨⟨hrc, hrs, hfr, hlo, hws, hcw⟩, hcode, hini, hy, hlen, hl, hin, hse⟩ := cw
  have hK : vx_Back l R p e below s args y 3 8 (PreOf R mc ms Pc) (PostOf Qc mc ms free) (vx_Post XC mc ms free) := vx_backW (hh := hh) (bytes := bytes) (maxL := maxL) (ret := ret) hM hp.1 hrc hrs hfr hlo hws hcw (fun a' U hW => word_at hW (Or.inl (by first | rfl | simp [Cond.onTables, Cond.keeps, Cond.steady])) hini)
  obtain ⟨hx, hb, hml, ho, -⟩ := S
  obtain ⟨-, ⟨cellB, hcB, hoB, hclB⟩, hPc⟩ := hp
  intro T hT X
  rcases vx_callVX X hx (C := C) (hh := hh) (bytes := bytes) (maxL := maxL) (ret := ret) ho hl hin hse hcode hy hK (by rw [hT]; exact hcB) hoB hclB hg (hsize.trans hml.symm) (argsL := As) (rest := rest) (fun sig h => hn.trans (hlen sig h)) hstack hW (by rw [hb]; exact hdg)
    (fun vm₁ hW₁ => ⟨hf.1, hf.2, hPc (T.setVm vm₁) hT hW₁⟩) with ⟨v, vm₁, ⟨U', l2, c2, s2⟩, hW₁, X', ⟨g', mk, t, L, e1, e2, hq, h1, hL, h2, h3⟩, st⟩ | ⟨q, vm₁, ⟨U', l2, c2, s2⟩, hW₁, X', ⟨g', mk, t, L, E, ce, e1, e2, hq, hce, hcv, hcl, h1, hL, h2, h3⟩, st⟩
  · dsimp only [Pt.U, Pt.locs, Pt.cells, Pt.slots] at X' e1 e2 h1 h2 h3 st
    subst h1; subst h2; subst h3
    exact Or.inl ⟨v, (T.setVm vm₁).calling g' mk (Value.ref b :: As).toArray, t, U', L, hT, X', hL, e1, e2, hq, st⟩
  · dsimp only [Pt.U, Pt.locs, Pt.cells, Pt.slots] at X' e1 e2 h1 h2 h3 st hcl
    subst h1; subst h2; subst h3
    exact Or.inr ⟨q, (T.setVm vm₁).calling g' mk (Value.ref b :: As).toArray, t, U', L, E, ce, hT, X', hL, e1, e2, hq, hce, hcv, vx_cls hW₁ hcl, st⟩
theorem vx_runSX {hh : List (Nat × Nat × Nat × Nat)} (S : CallFix p m c cc nL s args Ts own) (hM : vx_Met l y ws rm Pc Qc XC mc ms free) (cw : vx_CSW R s args own index y bytes maxL ret hh ws rm mc ms n) (hp : PreS s H Pc As)
    (hg : g.method = m) (hn : As.length = n) (hsize : g.locals.size = nL) (hstack : g.stack = As.reverse ++ rest) (hW : 2 * g.monitorRoom + (rest.map fun v => v.category).sum ≤ 8) (hdg : decode cc g.pc = .ok (.invokestatic index, 3)) (hf : cells + mc ≤ R.cells ∧ slots + ms ≤ R.slots) :
    vx_Run p l e R s m args below meth c H locs cells slots mc ms g rest (Qc As.toArray) XC free := by
  obtain ⟨⟨hrc, hrs, hfr, hlo, hws, hcw⟩, hcode, hini, hy, hlen, hl, hstt⟩ := cw
  have hK : vx_Back l R p e below s args y 3 8 (PreOf R mc ms Pc) (PostOf Qc mc ms free) (vx_Post XC mc ms free) := vx_backW (hh := hh) (bytes := bytes) (maxL := maxL) (ret := ret) hM hp.1 hrc hrs hfr hlo hws hcw (fun a' U hW => word_at hW (Or.inl (by first | rfl | simp [Cond.onTables, Cond.keeps, Cond.steady])) hini)
  obtain ⟨hx, hb, hml, ho, -⟩ := S
  intro T hT X
  rcases vx_callSX X hx (hh := hh) (bytes := bytes) (maxL := maxL) (ret := ret) ho hl hstt hini hcode hy hK hg (hsize.trans hml.symm) (argsL := As) (rest := rest) (fun sig h => hn.trans (hlen sig h)) hstack hW (by rw [hb]; exact hdg)
    (fun vm₁ hW₁ => ⟨hf.1, hf.2, hp.2 (T.setVm vm₁) hT hW₁⟩) with ⟨v, vm₁, ⟨U', l2, c2, s2⟩, hW₁, X', ⟨g', mk, t, L, e1, e2, hq, h1, hL, h2, h3⟩, st⟩ | ⟨q, vm₁, ⟨U', l2, c2, s2⟩, hW₁, X', ⟨g', mk, t, L, E, ce, e1, e2, hq, hce, hcv, hcl, h1, hL, h2, h3⟩, st⟩
  · dsimp only [Pt.U, Pt.locs, Pt.cells, Pt.slots] at X' e1 e2 h1 h2 h3 st
    subst h1; subst h2; subst h3
    exact Or.inl ⟨v, (T.setVm vm₁).calling g' mk As.toArray, t, U', L, hT, X', hL, e1, e2, hq, st⟩
  · dsimp only [Pt.U, Pt.locs, Pt.cells, Pt.slots] at X' e1 e2 h1 h2 h3 st hcl
    subst h1; subst h2; subst h3
    exact Or.inr ⟨q, (T.setVm vm₁).calling g' mk As.toArray, t, U', L, E, ce, hT, X', hL, e1, e2, hq, hce, hcv, vx_cls hW₁ hcl, st⟩
end
end VXH
theorem vx_ofWH {l : Launch} {y : MethodName} {ws ws' : List Cond} {rm : Room} {Pc : Array Value → State → Prop} {Qc : Array Value → State → Outcome → State → Prop} {XC : String → State → State → Prop} {mc ms : Nat} {free : Addr → Prop} {cc : ByteArray} {maxL : Nat} {ret : Option FieldType} {hh : List (Nat × Nat × Nat × Nat)}
    (hy : plainName y.cls = true) (hw : ws = Cond.codeWith y cc maxL ret hh :: ws')
    (body : ∀ p e s m args below meth c s₁, BodyLoose p l y (headSpec ws rm) cc maxL ret e s m args below meth c s₁ → c.maxLocals = maxL → Pc args s →
      W p l e (headSpec ws rm).room s m args below meth c s.heap [] 0 0 (vx_MQ below Qc XC args s mc ms free) (entryFrame m args maxL)) : vx_Met l y ws rm Pc Qc XC mc ms free := by
  refine MetFree.of_bodyS (code := cc) (maxLocals := maxL) (ret := ret) hy ?_ ?_
  · intro args s m h hn
    obtain ⟨m9, meth, c, hn9, h1, h2, h3, h4, -, h5, h6, -⟩ := Cond.codeWith_spec (atoms_spec (ws := ws) h _ (by rw [hw]; exact List.mem_cons_self))
    cases hn.symm.trans hn9
    exact ⟨meth, c, h1, h2, h3, h4, h5, h6⟩
  · intro p e s m args below meth c s₁ B hml hP _
    have hh0 : s₁.heap = s.heap := by rw [B.state]; rfl
    obtain ⟨t, a1, o, b1, b2, b3⟩ := body p e s m args below meth c s₁ B hml hP s₁ hh0 (Stand.of_body B)
    exact ⟨t, o, a1, b1, b2, b3⟩
/-! ===== END ===== -/
end
section
/-! A SMALL MACHINE over numbered cells: what a frame does, as a function of its own; below it is shown that the Java machine does the same. -/
abbrev MV : Type := Int32 ⊕ Int64 ⊕ Option Nat
abbrev ML : Type := List (Nat × MV)
/-- the world: the next number, cells made (with those that a throw made), slots made, what each cell is (its kind, its size), what it holds -/
abbrev MWd : Type := Nat × Nat × Nat × (Nat → Nat × Nat) × (Nat → Nat → MV)
/-- how a frame ends: an answer, or a throw of a class -/
abbrev MOut : Type := Option MV ⊕ String
abbrev MR : Type := Option (Nat × ML × List MV)
def m_int : MV → Int32
  | .inl x => x
  | _ => 0
def m_lng : MV → Int64
  | .inr (.inl x) => x
  | _ => 0
def m_ref : MV → Option Nat
  | .inr (.inr r) => r
  | _ => none
def m_isI : MV → Bool
  | .inl _ => true
  | _ => false
def m_isL : MV → Bool
  | .inr (.inl _) => true
  | _ => false
def m_isR : MV → Bool
  | .inr (.inr _) => true
  | _ => false
def m_val (ad : Nat → Nat) : MV → Value
  | .inl x => .int x
  | .inr (.inl x) => .long x
  | .inr (.inr none) => .null
  | .inr (.inr (some k)) => .ref (ad k)
def ml_val (ad : Nat → Nat) (L : ML) : List (Nat × Value) := L.map (fun q => (q.1, m_val ad q.2))
theorem m_cat (ad : Nat → Nat) (v : MV) : ((m_val ad v).category == 2) = m_isL v := by
  rcases v with x | x | x | x <;> rfl
def m_get : ML → Nat → Option MV
  | [], _ => none
  | (j, v) :: t, i => if j = i then some v else m_get t i
theorem m_get_mem {i : Nat} {v : MV} : ∀ {L : ML}, m_get L i = some v → (i, v) ∈ L
  | [], h => by simp [m_get] at h
  | (j, w) :: t, h => by
    unfold m_get at h
    split at h
    · rename_i hj
      cases h
      rw [hj]
      exact List.mem_cons_self
    · exact List.mem_cons_of_mem _ (m_get_mem h)
theorem m_get_at {ad : Nat → Nat} {L : ML} {i nL : Nat} {v : MV} {ls : Array Slot} (h : m_get L i = some v) (hl : lv_has ls nL (ml_val ad L)) : ls[i]? = some (.val (m_val ad v)) :=
  hl.2.2 (i, m_val ad v) (List.mem_map.mpr ⟨_, m_get_mem h, rfl⟩)
def m_store (L : ML) (i : Nat) (v : MV) : ML := (i, v) :: L.filter (fun q => !(q.1 == i) && !(q.1 + 1 == i && m_isL q.2))
def m_store2 (L : ML) (i : Nat) (v : MV) : ML := (i, v) :: L.filter (fun q => !(q.1 == i) && (!(q.1 == i + 1) && !(q.1 + 1 == i && m_isL q.2)))
theorem m_store_val (ad : Nat → Nat) (L : ML) (i : Nat) (v : MV) : (i, m_val ad v) :: (ml_val ad L).filter (fun q => !(q.1 == i) && !(q.1 + 1 == i && q.2.category == 2)) = ml_val ad (m_store L i v) := by
  simp only [ml_val, m_store, List.map_cons, List.filter_map, Function.comp_def, m_cat]
theorem m_store2_val (ad : Nat → Nat) (L : ML) (i : Nat) (v : MV) : (i, m_val ad v) :: (ml_val ad L).filter (fun q => !(q.1 == i) && (!(q.1 == i + 1) && !(q.1 + 1 == i && q.2.category == 2))) = ml_val ad (m_store2 L i v) := by
  simp only [ml_val, m_store2, List.map_cons, List.filter_map, Function.comp_def, m_cat]
-- the straight instructions
def m_ii (pc : Nat) (L : ML) (st : List MV) (f : Int32 → Int32 → Option MV) : MR := match st with
  | .inl y :: .inl x :: r => match f x y with
    | some v => some (pc, L, v :: r)
    | none => none
  | _ => none
def m_ll (pc : Nat) (L : ML) (st : List MV) (f : Int64 → Int64 → Option MV) : MR := match st with
  | .inr (.inl y) :: .inr (.inl x) :: r => match f x y with
    | some v => some (pc, L, v :: r)
    | none => none
  | _ => none
def m_i1 (pc : Nat) (L : ML) (st : List MV) (f : Int32 → MV) : MR := match st with
  | .inl x :: r => some (pc, L, f x :: r)
  | _ => none
def m_l1 (pc : Nat) (L : ML) (st : List MV) (f : Int64 → MV) : MR := match st with
  | .inr (.inl x) :: r => some (pc, L, f x :: r)
  | _ => none
def m_ld (pc : Nat) (L : ML) (st : List MV) (i : Nat) (t : MV → Bool) : MR := match m_get L i with
  | some v => if t v = true then some (pc, L, v :: st) else none
  | none => none
def m_st1 (pc nL : Nat) (L : ML) (st : List MV) (i : Nat) (t : MV → Bool) : MR := match st with
  | v :: r => if t v = true ∧ i < nL then some (pc, m_store L i v, r) else none
  | _ => none
def m_st2 (pc nL : Nat) (L : ML) (st : List MV) (i : Nat) : MR := match st with
  | v :: r => if m_isL v = true ∧ i + 1 < nL then some (pc, m_store2 L i v, r) else none
  | _ => none
def m_to (pc : Nat) (off : Int) (L : ML) (st : List MV) : MR := if 0 ≤ (pc : Int) + off then some (((pc : Int) + off).toNat, L, st) else none
def m_br1 (pc : Nat) (off : Int) (L : ML) (st : List MV) (c : Int32 → Bool) : MR := match st with
  | .inl x :: r => if 0 ≤ (pc : Int) + off then some (if c x = true then ((pc : Int) + off).toNat else pc + 3, L, r) else none
  | _ => none
def m_br2 (pc : Nat) (off : Int) (L : ML) (st : List MV) (c : Int32 → Int32 → Bool) : MR := match st with
  | .inl y :: .inl x :: r => if 0 ≤ (pc : Int) + off then some (if c x y = true then ((pc : Int) + off).toNat else pc + 3, L, r) else none
  | _ => none
def m_cmp (c : Jvm.ClassFile.Cond) (x y : Int32) : Bool := match c with
  | .eq => decide (x = y)
  | .ne => decide (x ≠ y)
  | .lt => decide (x < y)
  | .ge => decide (y ≤ x)
  | .gt => decide (y < x)
  | .le => decide (x ≤ y)
def m_len : Instr → Nat
  | .aload _ | .astore _ | .iload _ | .istore _ | .lload _ | .lstore _ | .bipush _ | .ldc _ | .newarray _ => 2
  | .sipush _ | .iinc _ _ | .ifCond _ _ | .if_icmp _ _ | .ifnull _ | .ifnonnull _ | .goto _ | .ldc_w _ | .ldc2_w _ | .getfield _ | .putfield _ | .getstatic _ | .invokevirtual _ | .invokestatic _ | .invokespecial _ | .new _ | .anewarray _ => 3
  | .tableswitch _ _ _ _ => 0
  | _ => 1
/-- what touches neither the heap nor another method -/
def m_pure (i : Instr) (pc nL : Nat) (L : ML) (st : List MV) : MR := match i with
  | .iconst n => some (pc + 1, L, .inl (Int32.ofInt n) :: st)
  | .bipush n => some (pc + 2, L, .inl (Int8.ofInt n).toInt32 :: st)
  | .sipush n => some (pc + 3, L, .inl (Int16.ofInt n).toInt32 :: st)
  | .lconst n => some (pc + 1, L, .inr (.inl (Int64.ofNat (n : Nat))) :: st)
  | .aconst_null => some (pc + 1, L, .inr (.inr none) :: st)
  | .iload i => m_ld (pc + 2) L st i m_isI
  | .iload_n k => m_ld (pc + 1) L st (k : Nat) m_isI
  | .lload i => m_ld (pc + 2) L st i m_isL
  | .lload_n k => m_ld (pc + 1) L st (k : Nat) m_isL
  | .aload i => m_ld (pc + 2) L st i m_isR
  | .aload_n k => m_ld (pc + 1) L st (k : Nat) m_isR
  | .istore i => m_st1 (pc + 2) nL L st i m_isI
  | .istore_n k => m_st1 (pc + 1) nL L st (k : Nat) m_isI
  | .lstore i => m_st2 (pc + 2) nL L st i
  | .lstore_n k => m_st2 (pc + 1) nL L st (k : Nat)
  | .astore i => m_st1 (pc + 2) nL L st i m_isR
  | .astore_n k => m_st1 (pc + 1) nL L st (k : Nat) m_isR
  | .iinc i n => match m_get L i with
    | some (.inl x) => if i < nL then some (pc + 3, m_store L i (.inl (x + Int32.ofInt n)), st) else none
    | _ => none
  | .iadd => m_ii (pc + 1) L st (fun x y => some (.inl (x + y)))
  | .isub => m_ii (pc + 1) L st (fun x y => some (.inl (x - y)))
  | .imul => m_ii (pc + 1) L st (fun x y => some (.inl (x * y)))
  | .idiv => m_ii (pc + 1) L st (fun x y => if y = 0 then none else some (.inl (x / y)))
  | .irem => m_ii (pc + 1) L st (fun x y => if y = 0 then none else some (.inl (x - x / y * y)))
  | .iand => m_ii (pc + 1) L st (fun x y => some (.inl (x &&& y)))
  | .ior => m_ii (pc + 1) L st (fun x y => some (.inl (x ||| y)))
  | .ixor => m_ii (pc + 1) L st (fun x y => some (.inl (x ^^^ y)))
  | .ishl => m_ii (pc + 1) L st (fun x y => some (.inl (x <<< (y &&& 31))))
  | .ishr => m_ii (pc + 1) L st (fun x y => some (.inl (x >>> (y &&& 31))))
  | .ineg => m_i1 (pc + 1) L st (fun x => .inl (-x))
  | .i2l => m_i1 (pc + 1) L st (fun x => .inr (.inl x.toInt64))
  | .i2b => m_i1 (pc + 1) L st (fun x => .inl x.toInt8.toInt32)
  | .i2s => m_i1 (pc + 1) L st (fun x => .inl x.toInt16.toInt32)
  | .l2i => m_l1 (pc + 1) L st (fun x => .inl x.toInt32)
  | .ladd => m_ll (pc + 1) L st (fun x y => some (.inr (.inl (x + y))))
  | .lsub => m_ll (pc + 1) L st (fun x y => some (.inr (.inl (x - y))))
  | .lmul => m_ll (pc + 1) L st (fun x y => some (.inr (.inl (x * y))))
  | .ldiv => m_ll (pc + 1) L st (fun x y => if y = 0 then none else some (.inr (.inl (x / y))))
  | .lcmp => m_ll (pc + 1) L st (fun x y => some (.inl (lg_cmp x y)))
  | .dup => match st with
    | v :: r => if m_isL v = true then none else some (pc + 1, L, v :: v :: r)
    | _ => none
  | .dup2 => match st with
    | v :: u :: r => if m_isL v = true ∨ m_isL u = true then none else some (pc + 1, L, v :: u :: v :: u :: r)
    | _ => none
  | .goto off => m_to pc off L st
  | .ifCond c off => m_br1 pc off L st (fun x => m_cmp c x 0)
  | .if_icmp c off => m_br2 pc off L st (m_cmp c)
  | .ifnull off => match st with
    | .inr (.inr none) :: r => m_to pc off L r
    | .inr (.inr (some _)) :: r => some (pc + 3, L, r)
    | _ => none
  | .ifnonnull off => match st with
    | .inr (.inr none) :: r => some (pc + 3, L, r)
    | .inr (.inr (some _)) :: r => m_to pc off L r
    | _ => none
  | .tableswitch dflt lo hi offs => match st with
    | .inl x :: r => if x.toInt < lo ∨ hi < x.toInt then m_to pc dflt L r else match offs[(x.toInt - lo).toNat]? with
      | some off => m_to pc off L r
      | none => none
    | _ => none
  | _ => none
theorem m_ii_ok {pc : Nat} {L : ML} {st : List MV} {f : Int32 → Int32 → Option MV} {r : Nat × ML × List MV} (h : m_ii pc L st f = some r) : ∃ x y v rest, st = .inl y :: .inl x :: rest ∧ f x y = some v ∧ r = (pc, L, v :: rest) := by
  unfold m_ii at h
  split at h
  · split at h
    · rename_i hf
      cases h
      exact ⟨_, _, _, _, rfl, hf, rfl⟩
    · cases h
  · cases h
theorem m_ll_ok {pc : Nat} {L : ML} {st : List MV} {f : Int64 → Int64 → Option MV} {r : Nat × ML × List MV} (h : m_ll pc L st f = some r) : ∃ x y v rest, st = .inr (.inl y) :: .inr (.inl x) :: rest ∧ f x y = some v ∧ r = (pc, L, v :: rest) := by
  unfold m_ll at h
  split at h
  · split at h
    · rename_i hf
      cases h
      exact ⟨_, _, _, _, rfl, hf, rfl⟩
    · cases h
  · cases h
theorem m_i1_ok {pc : Nat} {L : ML} {st : List MV} {f : Int32 → MV} {r : Nat × ML × List MV} (h : m_i1 pc L st f = some r) : ∃ x rest, st = .inl x :: rest ∧ r = (pc, L, f x :: rest) := by
  unfold m_i1 at h
  split at h
  · cases h; exact ⟨_, _, rfl, rfl⟩
  · cases h
theorem m_l1_ok {pc : Nat} {L : ML} {st : List MV} {f : Int64 → MV} {r : Nat × ML × List MV} (h : m_l1 pc L st f = some r) : ∃ x rest, st = .inr (.inl x) :: rest ∧ r = (pc, L, f x :: rest) := by
  unfold m_l1 at h
  split at h
  · cases h; exact ⟨_, _, rfl, rfl⟩
  · cases h
theorem m_ld_ok {pc : Nat} {L : ML} {st : List MV} {i : Nat} {t : MV → Bool} {r : Nat × ML × List MV} (h : m_ld pc L st i t = some r) : ∃ v, m_get L i = some v ∧ t v = true ∧ r = (pc, L, v :: st) := by
  unfold m_ld at h
  split at h
  · split at h
    · rename_i h1 h2
      cases h; exact ⟨_, h1, h2, rfl⟩
    · cases h
  · cases h
theorem m_st1_ok {pc nL : Nat} {L : ML} {st : List MV} {i : Nat} {t : MV → Bool} {r : Nat × ML × List MV} (h : m_st1 pc nL L st i t = some r) : ∃ v rest, st = v :: rest ∧ t v = true ∧ i < nL ∧ r = (pc, m_store L i v, rest) := by
  unfold m_st1 at h
  split at h
  · split at h
    · rename_i h2
      cases h; exact ⟨_, _, rfl, h2.1, h2.2, rfl⟩
    · cases h
  · cases h
theorem m_st2_ok {pc nL : Nat} {L : ML} {st : List MV} {i : Nat} {r : Nat × ML × List MV} (h : m_st2 pc nL L st i = some r) : ∃ v rest, st = v :: rest ∧ m_isL v = true ∧ i + 1 < nL ∧ r = (pc, m_store2 L i v, rest) := by
  unfold m_st2 at h
  split at h
  · split at h
    · rename_i h2
      cases h; exact ⟨_, _, rfl, h2.1, h2.2, rfl⟩
    · cases h
  · cases h
theorem m_to_ok {pc : Nat} {off : Int} {L : ML} {st : List MV} {r : Nat × ML × List MV} (h : m_to pc off L st = some r) : ∃ tgt : Nat, (pc : Int) + off = (tgt : Int) ∧ r = (tgt, L, st) := by
  unfold m_to at h
  split at h
  · rename_i h2
    cases h; exact ⟨_, (Int.toNat_of_nonneg h2).symm, rfl⟩
  · cases h
theorem m_br1_ok {pc : Nat} {off : Int} {L : ML} {st : List MV} {c : Int32 → Bool} {r : Nat × ML × List MV} (h : m_br1 pc off L st c = some r) : ∃ (x : Int32) (rest : List MV) (tgt : Nat), st = .inl x :: rest ∧ (pc : Int) + off = (tgt : Int) ∧ r = (if c x = true then tgt else pc + 3, L, rest) := by
  unfold m_br1 at h
  split at h
  · split at h
    · rename_i h2
      cases h
      exact ⟨_, _, _, rfl, (Int.toNat_of_nonneg h2).symm, rfl⟩
    · cases h
  · cases h
theorem m_br2_ok {pc : Nat} {off : Int} {L : ML} {st : List MV} {c : Int32 → Int32 → Bool} {r : Nat × ML × List MV} (h : m_br2 pc off L st c = some r) : ∃ (x y : Int32) (rest : List MV) (tgt : Nat), st = .inl y :: .inl x :: rest ∧ (pc : Int) + off = (tgt : Int) ∧ r = (if c x y = true then tgt else pc + 3, L, rest) := by
  unfold m_br2 at h
  split at h
  · split at h
    · rename_i h2
      cases h
      exact ⟨_, _, _, _, rfl, (Int.toNat_of_nonneg h2).symm, rfl⟩
    · cases h
  · cases h
theorem m_isI_ok {v : MV} (h : m_isI v = true) : ∃ x, v = .inl x := by
  rcases v with x | x | x
  · exact ⟨x, rfl⟩
  · cases h
  · cases h
theorem m_isL_ok {v : MV} (h : m_isL v = true) : ∃ x, v = .inr (.inl x) := by
  rcases v with x | x | x
  · cases h
  · exact ⟨x, rfl⟩
  · cases h
theorem m_isR_ok {v : MV} (h : m_isR v = true) : v = .inr (.inr none) ∨ ∃ k, v = .inr (.inr (some k)) := by
  rcases v with x | x | x | x
  · cases h
  · cases h
  · exact Or.inl rfl
  · exact Or.inr ⟨x, rfl⟩
theorem m_notL {ad : Nat → Nat} {v : MV} (h : ¬ m_isL v = true) : (m_val ad v).category = 1 := by
  rcases v with x | x | x | x
  · rfl
  · exact absurd rfl h
  · rfl
  · rfl
end
section
abbrev vwCl : List vw_C := []
def lw_tbl : List Cond := tables_1
def q_y : Nat → MethodName := fun _ => ⟨"", "", ""⟩
def q_b : Nat → ByteArray := fun _ => ⟨#[]⟩
def q_nl : Nat → Nat := fun _ => 0
def q_rt : Nat → Option FieldType := fun _ => none
def q_np : Nat → Nat := fun _ => 0
def q_rc : Nat → Option Nat := fun _ => none
def q_nf : Nat → Nat := fun _ => 0
def q_ty : Nat → Nat → FieldType := fun _ _ => .int
def q_i : Nat → Nat → Option Instr := fun _ _ => none
def q_f : Nat → Nat → Option (Nat × Nat) := fun _ _ => none
def q_pf : Nat → Nat → Bool := fun _ _ => false
def q_ra : Nat → Bool := fun _ => false
def q_m : Nat → Nat → Option (Nat × Nat) := fun _ _ => none
def q_c : Nat → Nat → Option Nat := fun _ _ => none
def q_ca : Nat → Nat → Option Nat := fun _ _ => none
def q_th : Nat → Nat → Option String := fun _ _ => none
def q_h : Nat → Nat → String → Option (Nat × Nat) := fun _ _ _ => none
def q_W : List Cond := lw_tbl.filter goodWord
def q_tyok (ty : FieldType) : Bool := match ty with
  | .int | .boolean | .long | .object _ | .array _ => true
  | _ => false
theorem q_cl_ok {ci : Nat} {C : String} {T : u_T} {N : Nat} (h : vwCl[ci]? = some (C, T, N)) : ci < 100 ∧ q_nf ci = N ∧ (∀ w ∈ u_ws C T N, w ∈ q_W) ∧ (∀ k, k < N → parseFieldDescriptor (T k).2.2.1 = some (q_ty ci k)) ∧ (∀ a, a < N → ∀ b, b < N → a ≠ b → (T a).2.1 ≠ (T b).2.1) ∧ (∀ k, k < N → q_tyok (q_ty ci k) = true) := sorry
theorem q_f_ok {mid idx ci k : Nat} (h : q_f mid idx = some (ci, k)) : ∃ (C : String) (T : u_T) (N : Nat), vwCl[ci]? = some (C, T, N) ∧ k < N ∧ Cond.fieldLink (q_y mid).cls idx (T k).1 (T k).2.1 (T k).2.2.1 ∈ q_W := sorry
theorem q_pf_ok {mid idx ci k : Nat} {C : String} {T : u_T} {N : Nat} (h : q_f mid idx = some (ci, k)) (h2 : q_pf mid idx = true) (h3 : vwCl[ci]? = some (C, T, N)) : (T k).2.2.2 = false ∨ ((T k).2.2.2 = true ∧ (q_y mid).name = "<init>" ∧ (T k).1 = (q_y mid).cls) := sorry
theorem q_i_ok {mid pc : Nat} {i : Instr} (h : q_i mid pc = some i) : ∃ len, decode (q_b mid) pc = .ok (i, len) ∧ (m_len i = len ∨ m_len i = 0) := sorry
def q_k : Nat → Nat → Option MV := fun _ _ => none
def q_N : List (String × Nat × MethodName × String) := []
theorem q_c_ok {mid idx ci : Nat} (h : q_c mid idx = some ci) : ∃ (C : String) (T : u_T) (N : Nat), vwCl[ci]? = some (C, T, N) ∧ Cond.classLink (q_y mid).cls idx C ∈ q_W ∧ Cond.instantiable C N ∈ q_W ∧ Cond.initialized C ∈ q_W := sorry
theorem q_ca_ok {mid idx ci : Nat} (h : q_ca mid idx = some ci) : q_ra ci = true ∧ ∃ (C : String) (T : u_T) (N : Nat), vwCl[ci]? = some (C, T, N) ∧ Cond.classLink (q_y mid).cls idx C ∈ q_W := sorry
theorem q_ai_ok : Cond.arrayClass .int ∈ q_W ∧ Cond.arrayClass .long ∈ q_W := sorry
theorem q_k_ok {mid idx : Nat} {v : MV} (h : q_k mid idx = some v) : (∃ x, v = .inl x ∧ Cond.constant (q_y mid).cls idx x ∈ q_W) ∨ (∃ x, v = .inr (.inl x) ∧ Cond.constantLong (q_y mid).cls idx x ∈ q_W) := sorry
/-- what the words say of a method -/
def q_good (cm : Nat) : Prop := Cond.initialized (q_y cm).cls ∈ q_W ∧ ((q_y cm).cls ≠ "java/lang/invoke/MethodHandle" ∧ (q_y cm).cls ≠ "java/lang/invoke/VarHandle" ∧ (parseMethodDescriptor (q_y cm).desc).map (fun d => d.parameters.length) = some (q_np cm)) ∧ plainName (q_y cm).cls = true ∧ q_nl cm ≤ 45
theorem q_m_ok {mid idx cm kd : Nat} (h : q_m mid idx = some (cm, kd)) (h5 : kd ≠ 5) : q_good cm := sorry
theorem q_m_code {mid idx cm kd : Nat} (h : q_m mid idx = some (cm, kd)) (h5 : kd ≠ 5) (h7 : kd ≠ 7) : Cond.code (q_y cm) (q_b cm) (q_nl cm) (q_rt cm) ∈ q_W := sorry
theorem q_m0 {mid idx cm : Nat} (h : q_m mid idx = some (cm, 0)) : Cond.methodLink (q_y mid).cls idx (q_y cm) ∈ q_W ∧ Cond.instanceMethod (q_y cm) ∈ q_W ∧ Cond.selects (q_y cm).cls (q_y cm) (q_y cm) ∈ q_W ∧ ∃ (rc : Nat) (T : u_T) (N : Nat), q_rc cm = some rc ∧ vwCl[rc]? = some ((q_y cm).cls, T, N) := sorry
theorem q_m1 {mid idx cm : Nat} (h : q_m mid idx = some (cm, 1)) : Cond.methodLink (q_y mid).cls idx (q_y cm) ∈ q_W ∧ Cond.static (q_y cm) ∈ q_W := sorry
theorem q_m2 {mid idx cm : Nat} (h : q_m mid idx = some (cm, 2)) : (∃ host, ((q_y mid).cls, idx, q_y cm, host) ∈ q_N) ∧ Cond.instanceMethod (q_y cm) ∈ q_W ∧ (q_y cm).name = "<init>" ∧ q_rt cm = none := sorry
theorem q_m3 {mid idx cm : Nat} (h : q_m mid idx = some (cm, 3)) : (∃ host, ((q_y mid).cls, idx, q_y cm, host) ∈ q_N) ∧ Cond.static (q_y cm) ∈ q_W := sorry
theorem q_m5 {mid idx cm : Nat} (h : q_m mid idx = some (cm, 5)) : Cond.methodLink (q_y mid).cls idx Lib.objectInit ∈ q_W ∧ Cond.instanceMethod Lib.objectInit ∈ q_W ∧ Cond.code Lib.objectInit ⟨#[0xb1]⟩ 1 none ∈ q_W := sorry
theorem q_m6 {mid idx cm : Nat} (h : q_m mid idx = some (cm, 6)) : Cond.methodLink (q_y mid).cls idx (q_y cm) ∈ q_W ∧ Cond.instanceMethod (q_y cm) ∈ q_W ∧ (q_y cm).name = "<init>" ∧ q_rt cm = none := sorry
def q_hh : Nat → List (Nat × Nat × Nat × Nat) := fun _ => []
theorem q_nh {mid idx cm kd : Nat} (h : q_m mid idx = some (cm, kd)) (h7 : kd ≠ 7) (pc : Nat) (E : String) : q_h cm pc E = none := sorry
theorem q_m7 {mid idx cm : Nat} (h : q_m mid idx = some (cm, 7)) : Cond.methodLink (q_y mid).cls idx (q_y cm) ∈ q_W ∧ Cond.static (q_y cm) ∈ q_W ∧ Cond.codeWith (q_y cm) (q_b cm) (q_nl cm) (q_rt cm) (q_hh cm) ∈ q_W := sorry
theorem q_h_ok {mid pc : Nat} {E : String} {hh : Nat × Nat} (h : q_h mid pc E = some hh) : ∃ idx, q_i mid pc = some (.invokevirtual idx) := sorry
end
section
section MPURE
variable {p : Program} {l : Launch} {e : Env} {R : Room} {s : State} {m : MethodId} {args : Array Value} {below : List Frame} {meth : Method} {c : Code} {H : Heap} {locs : List Loc} {cells slots : Nat} {Q : State → Prop} {cc : ByteArray} {ad : Nat → Nat} {pc nL : Nat} {L : ML} {st : List MV} {r : Nat × ML × List MV} {ls : Array Slot}
theorem m_br1_W (hx : p.tables.exec = Jvm.exec) (hb : c.code = cc) {cd : Jvm.ClassFile.Cond} {off : Int} (h : m_br1 pc off L st (fun x => m_cmp cd x 0) = some r) (hd : decode cc pc = .ok (.ifCond cd off, 3))
    (k : W p l e R s m args below meth c H locs cells slots Q (F0 m r.1 ls (r.2.2.map (m_val ad)))) : W p l e R s m args below meth c H locs cells slots Q (F0 m pc ls (st.map (m_val ad))) := by
  obtain ⟨x, rest, tgt, rfl, ht, rfl⟩ := m_br1_ok h
  by_cases h1 : m_cmp cd x 0 = true
  · rw [if_pos h1] at k
    cases cd
    case eq => exact lv_if_eq (tgt := tgt) hx hb hd ht (fun _ => k) (fun h2 => absurd h1 (by simpa [m_cmp] using h2))
    case ne => exact lv_if_ne (tgt := tgt) hx hb hd ht (fun _ => k) (fun h2 => absurd h1 (by simpa [m_cmp] using h2))
    case lt => exact lv_if_lt (tgt := tgt) hx hb hd ht (fun _ => k) (fun h2 => absurd h1 (by simpa [m_cmp] using h2))
    case ge => exact lv_if_ge (tgt := tgt) hx hb hd ht (fun _ => k) (fun h2 => absurd h1 (by simpa [m_cmp] using h2))
    case gt => exact lv_if_gt (tgt := tgt) hx hb hd ht (fun _ => k) (fun h2 => absurd h1 (by simpa [m_cmp] using h2))
    case le => exact lv_if_le (tgt := tgt) hx hb hd ht (fun _ => k) (fun h2 => absurd h1 (by simpa [m_cmp] using h2))
  · rw [if_neg h1] at k
    cases cd
    case eq => exact lv_if_eq (tgt := tgt) hx hb hd ht (fun h2 => absurd (by simpa [m_cmp] using h2) h1) (fun _ => k)
    case ne => exact lv_if_ne (tgt := tgt) hx hb hd ht (fun h2 => absurd (by simpa [m_cmp] using h2) h1) (fun _ => k)
    case lt => exact lv_if_lt (tgt := tgt) hx hb hd ht (fun h2 => absurd (by simpa [m_cmp] using h2) h1) (fun _ => k)
    case ge => exact lv_if_ge (tgt := tgt) hx hb hd ht (fun h2 => absurd (by simpa [m_cmp] using h2) h1) (fun _ => k)
    case gt => exact lv_if_gt (tgt := tgt) hx hb hd ht (fun h2 => absurd (by simpa [m_cmp] using h2) h1) (fun _ => k)
    case le => exact lv_if_le (tgt := tgt) hx hb hd ht (fun h2 => absurd (by simpa [m_cmp] using h2) h1) (fun _ => k)
theorem m_br2_W (hx : p.tables.exec = Jvm.exec) (hb : c.code = cc) {cd : Jvm.ClassFile.Cond} {off : Int} (h : m_br2 pc off L st (m_cmp cd) = some r) (hd : decode cc pc = .ok (.if_icmp cd off, 3))
    (k : W p l e R s m args below meth c H locs cells slots Q (F0 m r.1 ls (r.2.2.map (m_val ad)))) : W p l e R s m args below meth c H locs cells slots Q (F0 m pc ls (st.map (m_val ad))) := by
  obtain ⟨x, y, rest, tgt, rfl, ht, rfl⟩ := m_br2_ok h
  by_cases h1 : m_cmp cd x y = true
  · rw [if_pos h1] at k
    cases cd
    case eq => exact lv_icmp_eq (tgt := tgt) hx hb hd ht (fun _ => k) (fun h2 => absurd h1 (by simpa [m_cmp] using h2))
    case ne => exact lv_icmp_ne (tgt := tgt) hx hb hd ht (fun _ => k) (fun h2 => absurd h1 (by simpa [m_cmp] using h2))
    case lt => exact lv_icmp_lt (tgt := tgt) hx hb hd ht (fun _ => k) (fun h2 => absurd h1 (by simpa [m_cmp] using h2))
    case ge => exact lv_icmp_ge (tgt := tgt) hx hb hd ht (fun _ => k) (fun h2 => absurd h1 (by simpa [m_cmp] using h2))
    case gt => exact lv_icmp_gt (tgt := tgt) hx hb hd ht (fun _ => k) (fun h2 => absurd h1 (by simpa [m_cmp] using h2))
    case le => exact lv_icmp_le (tgt := tgt) hx hb hd ht (fun _ => k) (fun h2 => absurd h1 (by simpa [m_cmp] using h2))
  · rw [if_neg h1] at k
    cases cd
    case eq => exact lv_icmp_eq (tgt := tgt) hx hb hd ht (fun h2 => absurd (by simpa [m_cmp] using h2) h1) (fun _ => k)
    case ne => exact lv_icmp_ne (tgt := tgt) hx hb hd ht (fun h2 => absurd (by simpa [m_cmp] using h2) h1) (fun _ => k)
    case lt => exact lv_icmp_lt (tgt := tgt) hx hb hd ht (fun h2 => absurd (by simpa [m_cmp] using h2) h1) (fun _ => k)
    case ge => exact lv_icmp_ge (tgt := tgt) hx hb hd ht (fun h2 => absurd (by simpa [m_cmp] using h2) h1) (fun _ => k)
    case gt => exact lv_icmp_gt (tgt := tgt) hx hb hd ht (fun h2 => absurd (by simpa [m_cmp] using h2) h1) (fun _ => k)
    case le => exact lv_icmp_le (tgt := tgt) hx hb hd ht (fun h2 => absurd (by simpa [m_cmp] using h2) h1) (fun _ => k)
set_option maxHeartbeats 4000000 in
theorem m_pure_W (hx : p.tables.exec = Jvm.exec) (hb : c.code = cc) {i : Instr} {len : Nat} (h : m_pure i pc nL L st = some r) (hd : decode cc pc = .ok (i, len)) (hn : m_len i = len ∨ m_len i = 0) (hl : lv_has ls nL (ml_val ad L))
    (k : ∀ ls' : Array Slot, lv_has ls' nL (ml_val ad r.2.1) → W p l e R s m args below meth c H locs cells slots Q (F0 m r.1 ls' (r.2.2.map (m_val ad)))) : W p l e R s m args below meth c H locs cells slots Q (F0 m pc ls (st.map (m_val ad))) := by
  have hd1 : m_len i ≠ 0 → decode cc pc = .ok (i, m_len i) := fun h0 => by rw [hn.resolve_right h0]; exact hd
  cases i
  case iconst n =>
    cases h
    exact lv_iconst hx hb (hd1 (by simp [m_len])) rfl (k ls hl)
  case bipush n =>
    cases h
    exact lv_bipush hx hb (hd1 (by simp [m_len])) rfl (k ls hl)
  case sipush n =>
    cases h
    exact lv_sipush hx hb (hd1 (by simp [m_len])) rfl (k ls hl)
  case lconst n =>
    cases h
    exact lv_lconst hx hb (hd1 (by simp [m_len])) rfl (k ls hl)
  case aconst_null =>
    cases h
    exact lv_null hx hb (hd1 (by simp [m_len])) (k ls hl)
  case iload i =>
    obtain ⟨v, h1, h2, rfl⟩ := m_ld_ok h
    obtain ⟨x, rfl⟩ := m_isI_ok h2
    exact lv_iload hx hb (hd1 (by simp [m_len])) (m_get_at h1 hl) (k ls hl)
  case iload_n i =>
    obtain ⟨v, h1, h2, rfl⟩ := m_ld_ok h
    obtain ⟨x, rfl⟩ := m_isI_ok h2
    exact lv_iload_n hx hb (hd1 (by simp [m_len])) rfl (m_get_at h1 hl) (k ls hl)
  case lload i =>
    obtain ⟨v, h1, h2, rfl⟩ := m_ld_ok h
    obtain ⟨x, rfl⟩ := m_isL_ok h2
    exact lv_lload hx hb (hd1 (by simp [m_len])) (m_get_at h1 hl) (k ls hl)
  case lload_n i =>
    obtain ⟨v, h1, h2, rfl⟩ := m_ld_ok h
    obtain ⟨x, rfl⟩ := m_isL_ok h2
    exact lv_lload_n hx hb (hd1 (by simp [m_len])) rfl (m_get_at h1 hl) (k ls hl)
  case aload i =>
    obtain ⟨v, h1, h2, rfl⟩ := m_ld_ok h
    rcases m_isR_ok h2 with rfl | ⟨x, rfl⟩
    · exact lv_aloadN hx hb (hd1 (by simp [m_len])) (m_get_at h1 hl) (k ls hl)
    · exact lv_aload hx hb (hd1 (by simp [m_len])) (m_get_at h1 hl) (k ls hl)
  case aload_n i =>
    obtain ⟨v, h1, h2, rfl⟩ := m_ld_ok h
    rcases m_isR_ok h2 with rfl | ⟨x, rfl⟩
    · exact lv_aload_nN hx hb (hd1 (by simp [m_len])) rfl (m_get_at h1 hl) (k ls hl)
    · exact lv_aload_n hx hb (hd1 (by simp [m_len])) rfl (m_get_at h1 hl) (k ls hl)
  case istore i =>
    obtain ⟨v, rest, rfl, h2, h3, rfl⟩ := m_st1_ok h
    obtain ⟨x, rfl⟩ := m_isI_ok h2
    exact lv_istore hx hb (hd1 (by simp [m_len])) hl h3 (m_store_val ad L i (.inl x)) k
  case lstore i =>
    obtain ⟨v, rest, rfl, h2, h3, rfl⟩ := m_st2_ok h
    obtain ⟨x, rfl⟩ := m_isL_ok h2
    exact lv_lstore hx hb (hd1 (by simp [m_len])) hl h3 (m_store2_val ad L i (.inr (.inl x))) k
  case astore i =>
    obtain ⟨v, rest, rfl, h2, h3, rfl⟩ := m_st1_ok h
    rcases m_isR_ok h2 with rfl | ⟨x, rfl⟩
    · exact lv_astoreN hx hb (hd1 (by simp [m_len])) hl h3 (m_store_val ad L i (.inr (.inr none))) k
    · exact lv_astore hx hb (hd1 (by simp [m_len])) hl h3 (m_store_val ad L i (.inr (.inr (some x)))) k
  case istore_n i =>
    obtain ⟨v, rest, rfl, h2, h3, rfl⟩ := m_st1_ok h
    obtain ⟨x, rfl⟩ := m_isI_ok h2
    exact lv_istore_n hx hb (hd1 (by simp [m_len])) rfl hl h3 (m_store_val ad L (↑i) (.inl x)) k
  case lstore_n i =>
    obtain ⟨v, rest, rfl, h2, h3, rfl⟩ := m_st2_ok h
    obtain ⟨x, rfl⟩ := m_isL_ok h2
    exact lv_lstore_n hx hb (hd1 (by simp [m_len])) rfl hl h3 (m_store2_val ad L (↑i) (.inr (.inl x))) k
  case astore_n i =>
    obtain ⟨v, rest, rfl, h2, h3, rfl⟩ := m_st1_ok h
    rcases m_isR_ok h2 with rfl | ⟨x, rfl⟩
    · exact lv_astore_nN hx hb (hd1 (by simp [m_len])) rfl hl h3 (m_store_val ad L (↑i) (.inr (.inr none))) k
    · exact lv_astore_n hx hb (hd1 (by simp [m_len])) rfl hl h3 (m_store_val ad L (↑i) (.inr (.inr (some x)))) k
  case iinc i n =>
    simp only [m_pure] at h
    split at h
    · rename_i x h1
      split at h
      · rename_i h3
        cases h
        obtain ⟨q, hq⟩ := List.getElem?_of_mem (List.mem_map.mpr ⟨_, m_get_mem h1, rfl⟩ : (i, m_val ad (.inl x)) ∈ ml_val ad L)
        exact lv_iinc hx hb (hd1 (by simp [m_len])) hl hq rfl h3 (m_store_val ad L i (.inl (x + Int32.ofInt n))) k
      · cases h
    · cases h
  case iadd =>
    simp only [m_pure] at h
    obtain ⟨x, y, v, rest, rfl, hf, rfl⟩ := m_ii_ok h
    cases hf
    exact lv_iadd hx hb (hd1 (by simp [m_len])) (k ls hl)
  case isub =>
    simp only [m_pure] at h
    obtain ⟨x, y, v, rest, rfl, hf, rfl⟩ := m_ii_ok h
    cases hf
    exact lv_isub hx hb (hd1 (by simp [m_len])) (k ls hl)
  case imul =>
    simp only [m_pure] at h
    obtain ⟨x, y, v, rest, rfl, hf, rfl⟩ := m_ii_ok h
    cases hf
    exact lv_imul hx hb (hd1 (by simp [m_len])) (k ls hl)
  case iand =>
    simp only [m_pure] at h
    obtain ⟨x, y, v, rest, rfl, hf, rfl⟩ := m_ii_ok h
    cases hf
    exact lv_iand hx hb (hd1 (by simp [m_len])) (k ls hl)
  case ior =>
    simp only [m_pure] at h
    obtain ⟨x, y, v, rest, rfl, hf, rfl⟩ := m_ii_ok h
    cases hf
    exact lv_ior hx hb (hd1 (by simp [m_len])) (k ls hl)
  case ixor =>
    simp only [m_pure] at h
    obtain ⟨x, y, v, rest, rfl, hf, rfl⟩ := m_ii_ok h
    cases hf
    exact lv_ixor hx hb (hd1 (by simp [m_len])) (k ls hl)
  case ishl =>
    simp only [m_pure] at h
    obtain ⟨x, y, v, rest, rfl, hf, rfl⟩ := m_ii_ok h
    cases hf
    exact lv_ishl hx hb (hd1 (by simp [m_len])) (k ls hl)
  case ishr =>
    simp only [m_pure] at h
    obtain ⟨x, y, v, rest, rfl, hf, rfl⟩ := m_ii_ok h
    cases hf
    exact lv_ishr hx hb (hd1 (by simp [m_len])) (k ls hl)
  case idiv =>
    simp only [m_pure] at h
    obtain ⟨x, y, v, rest, rfl, hf, rfl⟩ := m_ii_ok h
    by_cases h0 : y = 0
    · simp [h0] at hf
    · simp only [h0, if_false] at hf
      cases hf
      exact lv_idiv hx hb (hd1 (by simp [m_len])) h0 (k ls hl)
  case irem =>
    simp only [m_pure] at h
    obtain ⟨x, y, v, rest, rfl, hf, rfl⟩ := m_ii_ok h
    by_cases h0 : y = 0
    · simp [h0] at hf
    · simp only [h0, if_false] at hf
      cases hf
      exact lv_irem hx hb (hd1 (by simp [m_len])) h0 (k ls hl)
  case ladd =>
    simp only [m_pure] at h
    obtain ⟨x, y, v, rest, rfl, hf, rfl⟩ := m_ll_ok h
    cases hf
    exact lv_ladd hx hb (hd1 (by simp [m_len])) (k ls hl)
  case lsub =>
    simp only [m_pure] at h
    obtain ⟨x, y, v, rest, rfl, hf, rfl⟩ := m_ll_ok h
    cases hf
    exact lv_lsub hx hb (hd1 (by simp [m_len])) (k ls hl)
  case lmul =>
    simp only [m_pure] at h
    obtain ⟨x, y, v, rest, rfl, hf, rfl⟩ := m_ll_ok h
    cases hf
    exact lv_lmul hx hb (hd1 (by simp [m_len])) (k ls hl)
  case ldiv =>
    simp only [m_pure] at h
    obtain ⟨x, y, v, rest, rfl, hf, rfl⟩ := m_ll_ok h
    by_cases h0 : y = 0
    · simp [h0] at hf
    · simp only [h0, if_false] at hf
      cases hf
      exact lv_ldiv hx hb (hd1 (by simp [m_len])) h0 (k ls hl)
  case lcmp =>
    simp only [m_pure] at h
    obtain ⟨x, y, v, rest, rfl, hf, rfl⟩ := m_ll_ok h
    cases hf
    exact W.lcmp hx hb (hd1 (by simp [m_len])) (k ls hl)
  case ineg =>
    simp only [m_pure] at h
    obtain ⟨x, rest, rfl, rfl⟩ := m_i1_ok h
    exact lv_ineg hx hb (hd1 (by simp [m_len])) (k ls hl)
  case i2l =>
    simp only [m_pure] at h
    obtain ⟨x, rest, rfl, rfl⟩ := m_i1_ok h
    exact lv_i2l hx hb (hd1 (by simp [m_len])) rfl (k ls hl)
  case i2b =>
    simp only [m_pure] at h
    obtain ⟨x, rest, rfl, rfl⟩ := m_i1_ok h
    exact lv_i2b hx hb (hd1 (by simp [m_len])) rfl (k ls hl)
  case i2s =>
    simp only [m_pure] at h
    obtain ⟨x, rest, rfl, rfl⟩ := m_i1_ok h
    exact lv_i2s hx hb (hd1 (by simp [m_len])) rfl (k ls hl)
  case l2i =>
    simp only [m_pure] at h
    obtain ⟨x, rest, rfl, rfl⟩ := m_l1_ok h
    exact lv_l2i hx hb (hd1 (by simp [m_len])) rfl (k ls hl)
  case dup =>
    simp only [m_pure] at h
    split at h
    · split at h
      · cases h
      · rename_i h2
        cases h
        exact lv_dup hx hb (hd1 (by simp [m_len])) (m_notL h2) (k ls hl)
    · cases h
  case dup2 =>
    simp only [m_pure] at h
    split at h
    · split at h
      · cases h
      · rename_i h2
        cases h
        exact lv_dup2_11 hx hb (hd1 (by simp [m_len])) (m_notL (fun q => h2 (Or.inl q))) (m_notL (fun q => h2 (Or.inr q))) (k ls hl)
    · cases h
  case goto off =>
    obtain ⟨tgt, ht, rfl⟩ := m_to_ok h
    exact lv_goto hx hb (hd1 (by simp [m_len])) ht (k ls hl)
  case ifCond cd off =>
    have h9 := m_br1_ok h
    exact m_br1_W hx hb h (hd1 (by simp [m_len])) (k ls (by obtain ⟨x, rest, tgt, -, -, rfl⟩ := h9; exact hl))
  case if_icmp cd off =>
    have h9 := m_br2_ok h
    exact m_br2_W hx hb h (hd1 (by simp [m_len])) (k ls (by obtain ⟨x, y, rest, tgt, -, -, rfl⟩ := h9; exact hl))
  case ifnull off =>
    simp only [m_pure] at h
    split at h
    · obtain ⟨tgt, ht, rfl⟩ := m_to_ok h
      exact lv_ifnullN hx hb (hd1 (by simp [m_len])) ht (k ls hl)
    · cases h
      exact lv_ifnull hx hb (hd1 (by simp [m_len])) (k ls hl)
    · cases h
  case ifnonnull off =>
    simp only [m_pure] at h
    split at h
    · cases h
      exact lv_ifnonnullN hx hb (hd1 (by simp [m_len])) (k ls hl)
    · obtain ⟨tgt, ht, rfl⟩ := m_to_ok h
      exact lv_ifnonnull hx hb (hd1 (by simp [m_len])) ht (k ls hl)
    · cases h
  case tableswitch dflt lo hi offs =>
    simp only [m_pure] at h
    split at h
    · split at h
      · rename_i h2
        obtain ⟨tgt, ht, rfl⟩ := m_to_ok h
        exact lv_tableOut hx hb hd h2 ht (k ls hl)
      · rename_i h2
        split at h
        · rename_i h3
          obtain ⟨tgt, ht, rfl⟩ := m_to_ok h
          exact lv_tableIn hx hb hd (fun q => h2 (Or.inl q)) (fun q => h2 (Or.inr q)) h3 ht (k ls hl)
        · cases h
    · cases h
  all_goals (exact absurd h (by simp [m_pure]))
end MPURE
end
section
def m_ad (base : Nat) (roa : Nat → Nat) : Nat → Nat := fun id => if id < 8 then roa id else base + (id - 8)
theorem m_ad_hi {base : Nat} {roa : Nat → Nat} {a : Nat} (h : 8 ≤ a) : m_ad base roa a = base + (a - 8) := if_neg (by omega)
theorem m_ad_lo {base : Nat} {roa : Nat → Nat} {a : Nat} (h : a < 8) : m_ad base roa a = roa a := if_pos h
/-- how a cell of the small machine lies in the heap: kinds below 100 are objects of the classes, 100 ints, 101 longs, from 102 on arrays of objects -/
def m_cell (ad : Nat → Nat) (tA : Nat → ClassId) (k : Nat × Nat) (f : Nat → MV) : va_E :=
  if k.1 < 100 then .inr (k.1, (List.range k.2).map (fun j => m_val ad (f j)))
  else .inl (tA k.1, k.2, if k.1 = 100 then .inl (fun j => m_int (f j)) else if k.1 = 101 then .inr (.inl (fun j => m_lng (f j))) else .inr (.inr (.inr (.inr (fun j => (m_ref (f j)).map ad)))))
abbrev mnx (w : MWd) : Nat := w.1
abbrev mcx (w : MWd) : Nat := w.2.1
abbrev msl (w : MWd) : Nat := w.2.2.1
abbrev msh (w : MWd) : Nat → Nat × Nat := w.2.2.2.1
abbrev mmm (w : MWd) : Nat → Nat → MV := w.2.2.2.2
def m_up (M : Nat → Nat → MV) (a j : Nat) (v : MV) : Nat → Nat → MV := fun k => if k = a then (fun i => if i = j then v else M a i) else M k
def m_wr (w : MWd) (a j : Nat) (v : MV) : MWd := (w.1, w.2.1, w.2.2.1, w.2.2.2.1, m_up w.2.2.2.2 a j v)
def m_ws (base : Nat) (roa : Nat → Nat) (tA : Nat → ClassId) (w : MWd) : va_W := (List.range (mnx w - 8)).map (fun k => (base + k, m_cell (m_ad base roa) tA (msh w (k + 8)) (mmm w (k + 8))))
theorem m_ws_at {base : Nat} {roa : Nat → Nat} {tA : Nat → ClassId} {w : MWd} {a : Nat} (h8 : 8 ≤ a) (hn : a < mnx w) : (m_ws base roa tA w)[a - 8]? = some (m_ad base roa a, m_cell (m_ad base roa) tA (msh w a) (mmm w a)) := by
  unfold m_ws
  rw [List.getElem?_map, List.getElem?_range (by omega : a - 8 < mnx w - 8)]
  simp only [Option.map_some, m_ad_hi h8]
  rw [show a - 8 + 8 = a by omega]
theorem m_ws_set {base : Nat} {roa : Nat → Nat} {tA : Nat → ClassId} {w : MWd} {a j : Nat} {v : MV} {cl : va_E} (h8 : 8 ≤ a) (hn : a < mnx w) (hc : cl = m_cell (m_ad base roa) tA (msh w a) (mmm (m_wr w a j v) a)) : (m_ws base roa tA w).set (a - 8) (m_ad base roa a, cl) = m_ws base roa tA (m_wr w a j v) := by
  subst hc
  apply List.ext_getElem?
  intro k
  by_cases hk : k = a - 8
  · subst hk
    rw [List.getElem?_set_self (by unfold m_ws; simp; omega)]
    exact (m_ws_at (w := m_wr w a j v) h8 hn).symm
  · rw [List.getElem?_set_ne (Ne.symm hk)]
    by_cases hk2 : k < mnx w - 8
    · have e1 : mmm (m_wr w a j v) (k + 8) = mmm w (k + 8) := if_neg (by omega)
      unfold m_ws
      rw [List.getElem?_map, List.getElem?_map, List.getElem?_range hk2, List.getElem?_range (show k < mnx (m_wr w a j v) - 8 from hk2)]
      simp only [Option.map_some, e1]
      rfl
    · rw [List.getElem?_eq_none (by unfold m_ws; simp; omega), List.getElem?_eq_none (by unfold m_ws; have e9 : mnx (m_wr w a j v) = mnx w := rfl; simp; omega)]
theorem m_ws_D {base : Nat} {roa : Nat → Nat} {tA : Nat → ClassId} {w : MWd} : va_D (fun q => base ≤ q) (m_ws base roa tA w) := by
  have key : ∀ (i : Nat) (p : Nat × va_E), (m_ws base roa tA w)[i]? = some p → p.1 = base + i := by
    intro i p hp
    unfold m_ws at hp
    rw [List.getElem?_map] at hp
    by_cases hi : i < mnx w - 8
    · rw [List.getElem?_range hi] at hp
      cases hp
      rfl
    · rw [List.getElem?_eq_none (by simp; omega)] at hp
      cases hp
  exact ⟨fun i j p q hp hq e => by have h1 := key i p hp; have h2 := key j q hq; omega, fun k q hq => by have h1 := key k q hq; show base ≤ q.1; omega⟩
/-- whether a value may lie in a field of this type -/
def m_fit (ty : FieldType) (v : MV) : Bool := match ty with
  | .int => m_isI v
  | .boolean => m_isI v && (m_int v == 0 || m_int v == 1)
  | .long => m_isL v
  | .object _ => m_isR v
  | .array _ => m_isR v
  | _ => false
theorem m_fit_ok {ad : Nat → Nat} {ty : FieldType} {v : MV} (h : m_fit ty v = true) : narrow ty (m_val ad v) = m_val ad v ∧ fits ty (m_val ad v) = true := by
  unfold m_fit at h
  split at h
  · obtain ⟨x, rfl⟩ := m_isI_ok h; exact ⟨rfl, rfl⟩
  · rw [Bool.and_eq_true] at h
    obtain ⟨x, rfl⟩ := m_isI_ok h.1
    have h2 := h.2
    simp only [m_int, Bool.or_eq_true, beq_iff_eq] at h2
    rcases h2 with rfl | rfl
    · exact ⟨rfl, rfl⟩
    · exact ⟨rfl, rfl⟩
  · obtain ⟨x, rfl⟩ := m_isL_ok h; exact ⟨rfl, rfl⟩
  · rcases m_isR_ok h with rfl | ⟨k, rfl⟩ <;> exact ⟨rfl, rfl⟩
  · rcases m_isR_ok h with rfl | ⟨k, rfl⟩ <;> exact ⟨rfl, rfl⟩
  · cases h
abbrev MRo : Type := Nat → Option (Nat × (Nat → Int32))
/-- what reads and writes the heap -/
def m_heap (ro : MRo) (mid : Nat) (i : Instr) (st : List MV) (w : MWd) : Option (List MV × MWd) := match i with
  | .getfield idx => match q_f mid idx, st with
    | some (ci, k), .inr (.inr (some a)) :: r => if 8 ≤ a ∧ a < mnx w ∧ msh w a = (ci, q_nf ci) then some (mmm w a k :: r, w) else none
    | _, _ => none
  | .putfield idx => match q_f mid idx, st with
    | some (ci, k), v :: .inr (.inr (some a)) :: r => if 8 ≤ a ∧ a < mnx w ∧ msh w a = (ci, q_nf ci) ∧ q_pf mid idx = true ∧ m_fit (q_ty ci k) v = true then some (r, m_wr w a k v) else none
    | _, _ => none
  | .iaload => match st with
    | .inl j :: .inr (.inr (some a)) :: r => if a < 8 then match ro a with
        | some (n, f) => if ¬ j < 0 ∧ j.toNatClampNeg < n then some (.inl (f j.toNatClampNeg) :: r, w) else none
        | none => none
      else if a < mnx w ∧ (msh w a).1 = 100 ∧ ¬ j < 0 ∧ j.toNatClampNeg < (msh w a).2 then some (.inl (m_int (mmm w a j.toNatClampNeg)) :: r, w) else none
    | _ => none
  | .iastore => match st with
    | .inl x :: .inl j :: .inr (.inr (some a)) :: r => if 8 ≤ a ∧ a < mnx w ∧ (msh w a).1 = 100 ∧ ¬ j < 0 ∧ j.toNatClampNeg < (msh w a).2 then some (r, m_wr w a j.toNatClampNeg (.inl x)) else none
    | _ => none
  | .laload => match st with
    | .inl j :: .inr (.inr (some a)) :: r => if 8 ≤ a ∧ a < mnx w ∧ (msh w a).1 = 101 ∧ ¬ j < 0 ∧ j.toNatClampNeg < (msh w a).2 then some (.inr (.inl (m_lng (mmm w a j.toNatClampNeg))) :: r, w) else none
    | _ => none
  | .lastore => match st with
    | .inr (.inl x) :: .inl j :: .inr (.inr (some a)) :: r => if 8 ≤ a ∧ a < mnx w ∧ (msh w a).1 = 101 ∧ ¬ j < 0 ∧ j.toNatClampNeg < (msh w a).2 then some (r, m_wr w a j.toNatClampNeg (.inr (.inl x))) else none
    | _ => none
  | .aaload => match st with
    | .inl j :: .inr (.inr (some a)) :: r => if 8 ≤ a ∧ a < mnx w ∧ 102 ≤ (msh w a).1 ∧ q_ra ((msh w a).1 - 102) = true ∧ ¬ j < 0 ∧ j.toNatClampNeg < (msh w a).2 then some (.inr (.inr (m_ref (mmm w a j.toNatClampNeg))) :: r, w) else none
    | _ => none
  | .aastore => match st with
    | .inr (.inr (some b)) :: .inl j :: .inr (.inr (some a)) :: r => if 8 ≤ a ∧ a < mnx w ∧ 102 ≤ (msh w a).1 ∧ q_ra ((msh w a).1 - 102) = true ∧ ¬ j < 0 ∧ j.toNatClampNeg < (msh w a).2 ∧ 8 ≤ b ∧ b < mnx w ∧ (msh w b).1 + 102 = (msh w a).1 ∧ (msh w b).1 < 100 then some (r, m_wr w a j.toNatClampNeg (.inr (.inr (some b)))) else none
    | _ => none
  | .arraylength => match st with
    | .inr (.inr (some a)) :: r => if a < 8 then match ro a with
        | some (n, _) => some (.inl (Int32.ofNat n) :: r, w)
        | none => none
      else if a < mnx w ∧ 100 ≤ (msh w a).1 ∧ ((msh w a).1 ≤ 101 ∨ q_ra ((msh w a).1 - 102) = true) then some (.inl (Int32.ofNat (msh w a).2) :: r, w) else none
    | _ => none
  | _ => none
section MHEAP
variable {p : Program} {l : Launch} {e : Env} {R : Room} {s : State} {m : MethodId} {args : Array Value} {below : List Frame} {meth : Method} {c : Code} {H : Heap} {locs : List Loc} {cells slots : Nat} {Q : State → Prop} {cc : ByteArray} {pc : Nat} {ls : Array Slot}
variable {base : Nat} {roa : Nat → Nat} {ro : MRo} {tA : Nat → ClassId} {D : va_G} {tys : List (ClassId × FieldType)}
/-- the array classes of the small machine's kinds -/
def m_tys (tA : Nat → ClassId) (tys : List (ClassId × FieldType)) : Prop :=
  tys[0]? = some (tA 100, .int) ∧ tys[1]? = some (tA 101, .long) ∧ ∀ ci : Nat, q_ra ci = true → ∃ (t0 : Nat) (C : String) (T : u_T) (N : Nat), vwCl[ci]? = some (C, T, N) ∧ tys[t0]? = some (tA (102 + ci), .object C)
theorem m_fld_cell {ad : Nat → Nat} {ci n : Nat} {f : Nat → MV} (h : ci < 100) : m_cell ad tA (ci, n) f = .inr (ci, (List.range n).map (fun j => m_val ad (f j))) := if_pos h
theorem m_fld_at {ad : Nat → Nat} {n k : Nat} {f : Nat → MV} (h : k < n) : ((List.range n).map (fun j => m_val ad (f j)))[k]? = some (m_val ad (f k)) := by
  rw [List.getElem?_map, List.getElem?_range h]; rfl
theorem m_fld_set {ad : Nat → Nat} {n k : Nat} {f : Nat → MV} {v : MV} : ((List.range n).map (fun j => m_val ad (f j))).set k (m_val ad v) = (List.range n).map (fun j => m_val ad (if j = k then v else f j)) := by
  apply List.ext_getElem?
  intro q
  by_cases hq : q < n
  · by_cases hk : q = k
    · subst hk
      rw [List.getElem?_set_self (by simp; exact hq), m_fld_at hq, if_pos rfl]
    · rw [List.getElem?_set_ne (Ne.symm hk), m_fld_at hq, m_fld_at hq, if_neg hk]
  · rw [List.getElem?_eq_none (by simp; omega), List.getElem?_eq_none (by simp; omega)]
theorem m_cell_i {ad : Nat → Nat} {k : Nat × Nat} {f : Nat → MV} (h : k.1 = 100) : m_cell ad tA k f = .inl (tA 100, k.2, .inl (fun j => m_int (f j))) := by
  unfold m_cell
  rw [if_neg (by omega), if_pos h, h]
theorem m_cell_l {ad : Nat → Nat} {k : Nat × Nat} {f : Nat → MV} (h : k.1 = 101) : m_cell ad tA k f = .inl (tA 101, k.2, .inr (.inl (fun j => m_lng (f j)))) := by
  unfold m_cell
  rw [if_neg (by omega), if_neg (by omega), if_pos h, h]
theorem m_cell_q {ad : Nat → Nat} {k : Nat × Nat} {f : Nat → MV} (h : 102 ≤ k.1) : m_cell ad tA k f = .inl (tA (102 + (k.1 - 102)), k.2, .inr (.inr (.inr (.inr (fun j => (m_ref (f j)).map ad))))) := by
  unfold m_cell
  rw [if_neg (by omega), if_neg (by omega), if_neg (by omega), show 102 + (k.1 - 102) = k.1 by omega]
theorem m_rf {ad : Nat → Nat} (o : Option Nat) : va_rf (o.map ad) = m_val ad (.inr (.inr o)) := by cases o <;> rfl
set_option maxHeartbeats 4000000 in
theorem m_heap_W (hx : p.tables.exec = Jvm.exec) (hb : c.code = cc) {mid : Nat} (hown : s.vm.findClass (q_y mid).cls = some m.cls) (hts : ∀ w ∈ q_W, w.before args s = true) (hin : (q_y mid).name = "<init>" → meth.name = "<init>")
    (hK : va_K D vwCl tys s) (hA : m_tys tA tys) (hro : ∀ a n f, a < 8 → ro a = some (n, f) → va_X (roa a) n f s s.heap ∧ roa a < s.heap.size ∧ ¬ base ≤ roa a)
    {i : Instr} {len : Nat} {st st' : List MV} {w w' : MWd} (h : m_heap ro mid i st w = some (st', w')) (hd : decode cc pc = .ok (i, len)) (hn : m_len i = len ∨ m_len i = 0)
    (hP : va_P D vwCl (m_ws base roa tA w) H) (hS : va_S (fun q => base ≤ q) s.heap H locs)
    (k : ∀ (H1 : Heap) (locs1 : List Loc), va_P D vwCl (m_ws base roa tA w') H1 → va_S (fun q => base ≤ q) s.heap H1 locs1 → W p l e R s m args below meth c H1 locs1 cells slots Q (F0 m (pc + len) ls (st'.map (m_val (m_ad base roa))))) :
    W p l e R s m args below meth c H locs cells slots Q (F0 m pc ls (st.map (m_val (m_ad base roa)))) := by
  have hd1 : m_len i ≠ 0 → decode cc pc = .ok (i, m_len i) ∧ len = m_len i := fun h0 => by rw [hn.resolve_right h0]; exact ⟨hd, rfl⟩
  cases i
  case getfield idx =>
    obtain ⟨hd2, rfl⟩ := hd1 (by simp [m_len])
    simp only [m_heap] at h
    split at h
    · rename_i ci kf a r hf
      split at h
      · rename_i hc
        obtain ⟨h8, hlt, hsh⟩ := hc
        cases h
        obtain ⟨C, T, N, hcl, hk, hl⟩ := q_f_ok hf
        obtain ⟨h100, hN, hws, hty, hnm, -⟩ := q_cl_ok hcl
        have he := m_ws_at (base := base) (roa := roa) (tA := tA) h8 hlt
        rw [hsh, m_fld_cell h100] at he
        exact va_get (D := D) (ci := ci) (C := C) (T := T) (N := N) hx hb hts hws hown hK hP (a - 8) he hcl kf hk (hts _ hl) (fun _ h9 => h9) (m_fld_at (by rw [hN]; exact hk)) hd2 (k H locs hP hS)
      · cases h
    · cases h
  case putfield idx =>
    obtain ⟨hd2, rfl⟩ := hd1 (by simp [m_len])
    simp only [m_heap] at h
    split at h
    · rename_i ci kf v a r hf
      split at h
      · rename_i hc
        obtain ⟨h8, hlt, hsh, hpf, hfit⟩ := hc
        cases h
        obtain ⟨C, T, N, hcl, hk, hl⟩ := q_f_ok hf
        obtain ⟨h100, hN, hws, hty, hnm, -⟩ := q_cl_ok hcl
        have he := m_ws_at (base := base) (roa := roa) (tA := tA) h8 hlt
        rw [hsh, m_fld_cell h100] at he
        have hset : (m_ws base roa tA w).set (a - 8) (m_ad base roa a, .inr (ci, ((List.range (q_nf ci)).map (fun j => m_val (m_ad base roa) (mmm w a j))).set kf (m_val (m_ad base roa) v))) = m_ws base roa tA (m_wr w a kf v) := by
          refine m_ws_set h8 hlt ?_
          rw [hsh, m_fld_cell h100, m_fld_set]
          congr 3
          funext j
          show _ = m_val _ (m_up _ _ _ _ a j)
          unfold m_up
          rw [if_pos rfl]
        rcases q_pf_ok hf hpf hcl with hfin | ⟨hfin, hini, hdecl⟩
        · refine va_put (D := D) (ci := ci) (C := C) (T := T) (N := N) hx hb hts hws (q_ty ci) hty hnm hown hK hP m_ws_D hS (a - 8) he hcl kf hk (hts _ hl) (fun _ h9 => h9) hfin (hty kf hk) (m_fit_ok hfit).1 (m_fit_ok hfit).2 (by simp; omega) hd2 (fun H1 locs1 hP1 hD1 hS1 => ?_)
          rw [hset] at hP1
          exact k H1 locs1 hP1 hS1
        · refine va_putF (D := D) (ci := ci) (C := C) (T := T) (N := N) hx hb hts hws (q_ty ci) hty hnm hown hK hP m_ws_D hS (a - 8) he hcl kf hk (hts _ hl) (fun _ h9 => h9) hfin (hin hini) hdecl (hty kf hk) (m_fit_ok hfit).1 (m_fit_ok hfit).2 (by simp; omega) hd2 (fun H1 locs1 hP1 hD1 hS1 => ?_)
          rw [hset] at hP1
          exact k H1 locs1 hP1 hS1
      · cases h
    · cases h
  case iaload =>
    obtain ⟨hd2, rfl⟩ := hd1 (by simp [m_len])
    simp only [m_heap] at h
    split at h
    · rename_i j a r
      split at h
      · rename_i h8
        split at h
        · rename_i n f hr
          split at h
          · rename_i hc
            cases h
            obtain ⟨g1, g2, g3⟩ := hro _ _ _ h8 hr
            show W _ _ _ _ _ _ _ _ _ _ _ _ _ _ _ (F0 m pc ls (.int j :: .ref (m_ad base roa a) :: _))
            rw [m_ad_lo h8]
            exact va_sld hx hb g1 g2 g3 hS (fun q => q.elim hc.1 (fun q => absurd hc.2 (Nat.not_lt.mpr q))) hd2 (k H locs hP hS)
          · cases h
        · cases h
      · rename_i h8
        split at h
        · rename_i hc
          obtain ⟨hlt, hki, hj0, hjl⟩ := hc
          cases h
          have he := m_ws_at (base := base) (roa := roa) (tA := tA) (Nat.le_of_not_lt h8) hlt
          rw [m_cell_i hki] at he
          exact va_iald hx hb hK hP (a - 8) 0 he hA.1 (fun q => q.elim hj0 (fun q => absurd hjl (Nat.not_lt.mpr q))) hd2 (k H locs hP hS)
        · cases h
    · cases h
  case iastore =>
    obtain ⟨hd2, rfl⟩ := hd1 (by simp [m_len])
    simp only [m_heap] at h
    split at h
    · rename_i x j a r
      split at h
      · rename_i hc
        obtain ⟨h8, hlt, hki, hj0, hjl⟩ := hc
        cases h
        have he := m_ws_at (base := base) (roa := roa) (tA := tA) h8 hlt
        rw [m_cell_i hki] at he
        refine va_iast hx hb hK hP m_ws_D hS (a - 8) 0 he hA.1 (fun q => q.elim hj0 (fun q => absurd hjl (Nat.not_lt.mpr q))) hd2 (fun H1 locs1 hP1 hD1 hS1 => ?_)
        rw [m_ws_set (j := j.toNatClampNeg) (v := .inl x) h8 hlt (by
          rw [m_cell_i hki]
          congr 4
          funext q
          show upd _ _ _ q = m_int (m_up _ _ _ _ a q)
          unfold m_up upd
          rw [if_pos rfl]
          by_cases hq : q = j.toNatClampNeg
          · rw [if_pos hq, if_pos hq]; rfl
          · rw [if_neg hq, if_neg hq])] at hP1
        exact k H1 locs1 hP1 hS1
      · cases h
    · cases h
  case laload =>
    obtain ⟨hd2, rfl⟩ := hd1 (by simp [m_len])
    simp only [m_heap] at h
    split at h
    · rename_i j a r
      split at h
      · rename_i hc
        obtain ⟨h8, hlt, hki, hj0, hjl⟩ := hc
        cases h
        have he := m_ws_at (base := base) (roa := roa) (tA := tA) h8 hlt
        rw [m_cell_l hki] at he
        exact va_lald hx hb hK hP (a - 8) 1 he hA.2.1 (fun q => q.elim hj0 (fun q => absurd hjl (Nat.not_lt.mpr q))) hd2 (k H locs hP hS)
      · cases h
    · cases h
  case lastore =>
    obtain ⟨hd2, rfl⟩ := hd1 (by simp [m_len])
    simp only [m_heap] at h
    split at h
    · rename_i x j a r
      split at h
      · rename_i hc
        obtain ⟨h8, hlt, hki, hj0, hjl⟩ := hc
        cases h
        have he := m_ws_at (base := base) (roa := roa) (tA := tA) h8 hlt
        rw [m_cell_l hki] at he
        refine va_last hx hb hK hP m_ws_D hS (a - 8) 1 he hA.2.1 (fun q => q.elim hj0 (fun q => absurd hjl (Nat.not_lt.mpr q))) hd2 (fun H1 locs1 hP1 hD1 hS1 => ?_)
        rw [m_ws_set (j := j.toNatClampNeg) (v := .inr (.inl x)) h8 hlt (by
          rw [m_cell_l hki]
          congr 5
          funext q
          show vp_updL _ _ _ q = m_lng (m_up _ _ _ _ a q)
          unfold m_up vp_updL
          rw [if_pos rfl]
          by_cases hq : q = j.toNatClampNeg
          · rw [if_pos hq, if_pos hq]; rfl
          · rw [if_neg hq, if_neg hq])] at hP1
        exact k H1 locs1 hP1 hS1
      · cases h
    · cases h
  case aaload =>
    obtain ⟨hd2, rfl⟩ := hd1 (by simp [m_len])
    simp only [m_heap] at h
    split at h
    · rename_i j a r
      split at h
      · rename_i hc
        obtain ⟨h8, hlt, hki, hra, hj0, hjl⟩ := hc
        cases h
        obtain ⟨t0, C, T, N, hcl, ht0⟩ := hA.2.2 _ hra
        have he := m_ws_at (base := base) (roa := roa) (tA := tA) h8 hlt
        rw [m_cell_q hki] at he
        refine va_aldq hx hb hK hP (a - 8) t0 he ht0 (fun q => q.elim hj0 (fun q => absurd hjl (Nat.not_lt.mpr q))) hd2 ?_
        rw [m_rf]
        exact k H locs hP hS
      · cases h
    · cases h
  case aastore =>
    obtain ⟨hd2, rfl⟩ := hd1 (by simp [m_len])
    simp only [m_heap] at h
    split at h
    · rename_i b j a r
      split at h
      · rename_i hc
        obtain ⟨h8, hlt, hki, hra, hj0, hjl, hb8, hbl, hbk, hb1⟩ := hc
        cases h
        obtain ⟨t0, C, T, N, hcl, ht0⟩ := hA.2.2 _ hra
        have he := m_ws_at (base := base) (roa := roa) (tA := tA) h8 hlt
        rw [m_cell_q hki] at he
        have he2 := m_ws_at (base := base) (roa := roa) (tA := tA) hb8 hbl
        have hbc : (msh w a).1 - 102 = (msh w b).1 := by omega
        rw [show msh w b = ((msh w b).1, (msh w b).2) from rfl, m_fld_cell hb1] at he2
        rw [hbc] at hcl
        refine va_astq hx hb hK hP m_ws_D hS (a - 8) t0 (b - 8) (msh w b).1 (r := (C, T, N)) he ht0 he2 hcl (fun q => q.elim hj0 (fun q => absurd hjl (Nat.not_lt.mpr q))) hd2 (fun H1 locs1 hP1 hD1 hS1 => ?_)
        rw [m_ws_set (j := j.toNatClampNeg) (v := .inr (.inr (some b))) h8 hlt (by
          rw [m_cell_q hki]
          congr 7
          funext q
          show va_up _ _ _ q = (m_ref (m_up _ _ _ _ a q)).map _
          unfold m_up va_up
          rw [if_pos rfl]
          by_cases hq : q = j.toNatClampNeg
          · rw [if_pos hq, if_pos hq]; rfl
          · rw [if_neg hq, if_neg hq])] at hP1
        exact k H1 locs1 hP1 hS1
      · cases h
    · cases h
  case arraylength =>
    obtain ⟨hd2, rfl⟩ := hd1 (by simp [m_len])
    simp only [m_heap] at h
    split at h
    · rename_i a r
      split at h
      · rename_i h8
        split at h
        · rename_i n f hr
          cases h
          obtain ⟨g1, g2, g3⟩ := hro _ _ _ h8 hr
          show W _ _ _ _ _ _ _ _ _ _ _ _ _ _ _ (F0 m pc ls (.ref (m_ad base roa a) :: _))
          rw [m_ad_lo h8]
          exact va_slen hx hb g1 g2 g3 hS hd2 (k H locs hP hS)
        · cases h
      · rename_i h8
        split at h
        · rename_i hc
          obtain ⟨hlt, hki, hkk⟩ := hc
          cases h
          have he := m_ws_at (base := base) (roa := roa) (tA := tA) (Nat.le_of_not_lt h8) hlt
          by_cases h0 : (msh w a).1 = 100
          · rw [m_cell_i h0] at he
            exact va_alen hx hb hK hP (a - 8) 0 he hA.1 rfl hd2 (k H locs hP hS)
          · by_cases h1 : (msh w a).1 = 101
            · rw [m_cell_l h1] at he
              exact va_alen hx hb hK hP (a - 8) 1 he hA.2.1 rfl hd2 (k H locs hP hS)
            · obtain ⟨t0, C, T, N, hcl, ht0⟩ := hA.2.2 _ (hkk.resolve_left (by omega))
              rw [m_cell_q (by omega)] at he
              exact va_alen hx hb hK hP (a - 8) t0 he ht0 rfl hd2 (k H locs hP hS)
        · cases h
    · cases h
  all_goals (exact absurd h (by simp [m_heap]))
end MHEAP
end
section
def m_cats (st : List MV) : Nat := (st.map (fun v => if m_isL v = true then 2 else 1)).sum
theorem m_cats_val (ad : Nat → Nat) (st : List MV) : ((st.map (m_val ad)).map fun v => v.category).sum = m_cats st := by
  unfold m_cats
  rw [List.map_map]
  congr 1
  apply List.map_congr_left
  intro v _
  rcases v with x | x | x | x <;> rfl
def m_ent : Nat → List MV → ML
  | _, [] => []
  | i, v :: vs => (i, v) :: m_ent (if m_isL v = true then i + 2 else i + 1) vs
theorem m_ent_val (ad : Nat → Nat) : ∀ (i : Nat) (As : List MV), lv_args i (As.map (m_val ad)) = ml_val ad (m_ent i As)
  | _, [] => rfl
  | i, v :: vs => by
    have h := m_ent_val ad (if m_isL v = true then i + 2 else i + 1) vs
    have hc : (if (m_val ad v).category = 2 then i + 2 else i + 1) = (if m_isL v = true then i + 2 else i + 1) := by
      rcases v with x | x | x | x <;> rfl
    show (i, m_val ad v) :: lv_args (if (m_val ad v).category = 2 then i + 2 else i + 1) (vs.map (m_val ad)) = _
    rw [hc, h]
    rfl
theorem m_sl_len (ad : Nat → Nat) : ∀ As : List MV, (lg_sl (As.map (m_val ad))).length = m_cats As
  | [] => rfl
  | v :: vs => by
    have h := m_sl_len ad vs
    have h2 : lg_sl ((v :: vs).map (m_val ad)) = (if (m_val ad v).category = 2 then [.val (m_val ad v), .second] else [.val (m_val ad v)]) ++ lg_sl (vs.map (m_val ad)) := by
      simp [lg_sl]
    rw [h2, List.length_append, h]
    rcases v with x | x | x | x <;> rfl
def m_thr (w : MWd) : MWd := (w.1, w.2.1 + 1, w.2.2.1 + 6, w.2.2.2)
def m_def (ty : FieldType) : MV := match ty with
  | .long => .inr (.inl 0)
  | .object _ => .inr (.inr none)
  | .array _ => .inr (.inr none)
  | _ => .inl 0
def m_mk (w : MWd) (k : Nat × Nat) (f : Nat → MV) : MWd := (w.1 + 1, w.2.1 + 1, w.2.2.1 + k.2, (fun a => if a = w.1 then k else w.2.2.2.1 a), (fun a => if a = w.1 then f else w.2.2.2.2 a))
/-- what makes a cell -/
def m_new (mid : Nat) (i : Instr) (st : List MV) (w : MWd) : Option (List MV × MWd) := if mcx w + 8 = mnx w then (match i with
  | .new idx => match q_c mid idx with
    | some ci => some (.inr (.inr (some (mnx w))) :: st, m_mk w (ci, q_nf ci) (fun j => m_def (q_ty ci j)))
    | none => none
  | .newarray t => match st with
    | .inl n :: r => if ¬ n < 0 ∧ n.toNatClampNeg ≤ 60000 then (match t with
      | .int => some (.inr (.inr (some (mnx w))) :: r, m_mk w (100, n.toNatClampNeg) (fun _ => .inl 0))
      | .long => some (.inr (.inr (some (mnx w))) :: r, m_mk w (101, n.toNatClampNeg) (fun _ => .inr (.inl 0)))
      | _ => none) else none
    | _ => none
  | .anewarray idx => match st with
    | .inl n :: r => if ¬ n < 0 ∧ n.toNatClampNeg ≤ 60000 then (match q_ca mid idx with
      | some ci => some (.inr (.inr (some (mnx w))) :: r, m_mk w (102 + ci, n.toNatClampNeg) (fun _ => .inr (.inr none)))
      | none => none) else none
    | _ => none
  | _ => none) else none
/-- the end of a frame -/
def m_ret (mid : Nat) (i : Instr) (st : List MV) : Option (Option MV) := match i with
  | .return_ => match st, q_rt mid with
    | [], none => some none
    | _, _ => none
  | .ireturn => match st, q_rt mid with
    | [.inl x], some .int => some (some (.inl x))
    | [.inl x], some .boolean => if x = 0 ∨ x = 1 then some (some (.inl x)) else none
    | _, _ => none
  | .lreturn => match st, q_rt mid with
    | [.inr (.inl x)], some .long => some (some (.inr (.inl x)))
    | _, _ => none
  | .areturn => match st, q_rt mid with
    | [.inr (.inr x)], some (.object _) => some (some (.inr (.inr x)))
    | [.inr (.inr x)], some (.array _) => some (some (.inr (.inr x)))
    | _, _ => none
  | _ => none
/-- Object.<init> -/
def m_obj (mid : Nat) (i : Instr) (st : List MV) : Option (List MV) := match i with
  | .invokespecial idx => match q_m mid idx, st with
    | some (_, 5), .inr (.inr (some _)) :: r => if m_cats r ≤ 8 then some r else none
    | _, _ => none
  | _ => none
def m_con (mid : Nat) (i : Instr) : Option MV := match i with
  | .ldc idx => match q_k mid idx with
    | some (.inl x) => some (.inl x)
    | _ => none
  | .ldc_w idx => match q_k mid idx with
    | some (.inl x) => some (.inl x)
    | _ => none
  | .ldc2_w idx => match q_k mid idx with
    | some (.inr (.inl x)) => some (.inr (.inl x))
    | _ => none
  | _ => none
/-- a call: the method, its arguments, what is left on the stack -/
def m_call (mid : Nat) (i : Instr) (st : List MV) (w : MWd) : Option (Nat × List MV × List MV) := match i with
  | .invokestatic idx => match q_m mid idx with
    | some (cm, kd) => if (kd = 1 ∨ kd = 3 ∨ kd = 7) ∧ q_np cm ≤ st.length ∧ m_cats (st.drop (q_np cm)) ≤ 8 ∧ m_cats ((st.take (q_np cm)).reverse) ≤ q_nl cm then some (cm, (st.take (q_np cm)).reverse, st.drop (q_np cm)) else none
    | none => none
  | .invokevirtual idx => match q_m mid idx with
    | some (cm, kd) => match st.drop (q_np cm) with
      | .inr (.inr (some a)) :: r => if kd = 0 ∧ q_np cm ≤ st.length ∧ m_cats r ≤ 8 ∧ m_cats (.inr (.inr (some a)) :: (st.take (q_np cm)).reverse) ≤ q_nl cm ∧ 8 ≤ a ∧ a < mnx w ∧ (msh w a).1 < 100 ∧ q_rc cm = some (msh w a).1 then some (cm, .inr (.inr (some a)) :: (st.take (q_np cm)).reverse, r) else none
      | _ => none
    | none => none
  | .invokespecial idx => match q_m mid idx with
    | some (cm, kd) => match st.drop (q_np cm) with
      | .inr (.inr (some a)) :: r => if (kd = 2 ∨ kd = 6) ∧ q_np cm ≤ st.length ∧ m_cats r ≤ 8 ∧ m_cats (.inr (.inr (some a)) :: (st.take (q_np cm)).reverse) ≤ q_nl cm then some (cm, .inr (.inr (some a)) :: (st.take (q_np cm)).reverse, r) else none
      | _ => none
    | none => none
  | _ => none
def m_drop (L : ML) (k : Nat) : ML := L.filter (fun q => !(q.1 == k) && !(q.1 + 1 == k && m_isL q.2))
/-- THE SMALL MACHINE: n steps at most, calls d deep -/
def m_run (ro : MRo) : Nat → Nat → Nat → Nat → ML → List MV → MWd → Option (MOut × MWd)
  | 0, _, _, _, _, _, _ => none
  | n + 1, d, mid, pc, L, st, w => match q_th mid pc with
    | some E => if 10 ≤ d ∧ st = [] then some (.inr E, m_thr w) else none
    | none => match q_i mid pc with
      | none => none
      | some i => match m_pure i pc (q_nl mid) L st with
        | some r => m_run ro n d mid r.1 r.2.1 r.2.2 w
        | none => match m_heap ro mid i st w with
          | some r => m_run ro n d mid (pc + m_len i) L r.1 r.2
          | none => match m_new mid i st w with
            | some r => m_run ro n d mid (pc + m_len i) L r.1 r.2
            | none => match m_ret mid i st with
              | some v => some (.inl v, w)
              | none => match m_obj mid i st with
                | some st' => if d = 0 then none else m_run ro n d mid (pc + 3) L st' w
                | none => match m_con mid i with
                  | some v => m_run ro n d mid (pc + m_len i) L (v :: st) w
                  | none => match m_call mid i st w with
                    | none => none
                    | some z => match d with
                      | 0 => none
                      | d' + 1 => match m_run ro n d' z.1 0 (m_ent 0 z.2.1) [] w with
                        | none => none
                        | some (.inl v, w1) => m_run ro n (d' + 1) mid (pc + 3) L (v.toList ++ z.2.2) w1
                        | some (.inr E, w1) => match q_h mid pc E with
                          | none => none
                          | some hh => m_run ro n (d' + 1) mid hh.1 (m_drop L hh.2) [] w1
/-- what grows: the numbers, the cells (no slower than the numbers), the slots -/
def m_gr (w w' : MWd) : Prop := mnx w ≤ mnx w' ∧ mnx w' + mcx w ≤ mnx w + mcx w' ∧ mcx w ≤ mcx w' ∧ msl w ≤ msl w'
theorem m_gr_rf (w : MWd) : m_gr w w := ⟨Nat.le_refl _, Nat.le_refl _, Nat.le_refl _, Nat.le_refl _⟩
theorem m_gr_tr {w w1 w2 : MWd} (h : m_gr w w1) (k : m_gr w1 w2) : m_gr w w2 := by
  obtain ⟨a1, a2, a3, a4⟩ := h
  obtain ⟨b1, b2, b3, b4⟩ := k
  exact ⟨by omega, by omega, by omega, by omega⟩
theorem m_heap_gr {ro : MRo} {mid : Nat} {i : Instr} {st : List MV} {w : MWd} {r : List MV × MWd} (h : m_heap ro mid i st w = some r) : m_gr w r.2 := by
  unfold m_heap at h
  repeat' split at h
  all_goals (first | (cases h; exact m_gr_rf _) | cases h)
theorem m_mk_gr (w : MWd) (k : Nat × Nat) (f : Nat → MV) : m_gr w (m_mk w k f) := ⟨Nat.le_succ _, by show w.1 + 1 + w.2.1 ≤ w.1 + (w.2.1 + 1); omega, Nat.le_succ _, Nat.le_add_right _ _⟩
theorem m_new_gr {mid : Nat} {i : Instr} {st : List MV} {w : MWd} {r : List MV × MWd} (h : m_new mid i st w = some r) : m_gr w r.2 := by
  unfold m_new at h
  repeat' split at h
  all_goals (first | (cases h; exact m_mk_gr _ _ _) | cases h)
theorem m_run_gr (ro : MRo) : ∀ (n d mid pc : Nat) (L : ML) (st : List MV) (w : MWd) (r : MOut × MWd), m_run ro n d mid pc L st w = some r → m_gr w r.2 := by
  intro n
  induction n with
  | zero => intro d mid pc L st w r h; cases h
  | succ n ih =>
    intro d mid pc L st w r h
    unfold m_run at h
    split at h
    · split at h
      · cases h
        exact ⟨Nat.le_refl _, by show w.1 + w.2.1 ≤ w.1 + (w.2.1 + 1); omega, Nat.le_succ _, Nat.le_add_right _ _⟩
      · cases h
    split at h
    · cases h
    split at h
    · exact ih _ _ _ _ _ _ _ h
    split at h
    · rename_i h1
      exact m_gr_tr (m_heap_gr h1) (ih _ _ _ _ _ _ _ h)
    split at h
    · rename_i h1
      exact m_gr_tr (m_new_gr h1) (ih _ _ _ _ _ _ _ h)
    split at h
    · cases h; exact m_gr_rf _
    split at h
    · split at h
      · cases h
      · exact ih _ _ _ _ _ _ _ h
    split at h
    · exact ih _ _ _ _ _ _ _ h
    split at h
    · cases h
    split at h
    · cases h
    split at h
    · cases h
    · rename_i h1
      exact m_gr_tr (ih _ _ _ _ _ _ _ h1) (ih _ _ _ _ _ _ _ h)
    · rename_i h1
      split at h
      · cases h
      · exact m_gr_tr (ih _ _ _ _ _ _ _ h1) (ih _ _ _ _ _ _ _ h)
end
section
section MMAKE
variable {p : Program} {l : Launch} {e : Env} {R : Room} {s : State} {m : MethodId} {args : Array Value} {below : List Frame} {meth : Method} {c : Code} {H : Heap} {locs : List Loc} {cells slots : Nat} {Q : State → Prop} {cc : ByteArray} {pc : Nat} {ls : Array Slot}
variable {base : Nat} {roa : Nat → Nat} {ro : MRo} {tA : Nat → ClassId} {D : va_G} {tys : List (ClassId × FieldType)}
/-- the heap is no longer than what was made allows -/
theorem m_le {g : JFrame} (k : H.size ≤ s.heap.size + cells → W p l e R s m args below meth c H locs cells slots Q g) : W p l e R s m args below meth c H locs cells slots Q g := fun T hT X => k (by rw [← hT]; exact X.heapSize) T hT X
theorem m_ge {w : MWd} (hP : va_P D vwCl (m_ws base roa tA w) H) (hb : base ≤ H.size) : base + (mnx w - 8) ≤ H.size := by
  by_cases h : mnx w ≤ 8
  · omega
  · have h1 := hP _ _ (m_ws_at (base := base) (roa := roa) (tA := tA) (w := w) (a := mnx w - 1) (by omega) (by omega))
    have h2 := h1.lt
    rw [m_ad_hi (by omega)] at h2
    have h3 : base + (mnx w - 1 - 8) < H.size := h2
    omega
theorem m_ws_mk {w : MWd} {k : Nat × Nat} {f : Nat → MV} (h8 : 8 ≤ mnx w) : m_ws base roa tA (m_mk w k f) = m_ws base roa tA w ++ [(base + (mnx w - 8), m_cell (m_ad base roa) tA k f)] := by
  have e1 : mnx (m_mk w k f) - 8 = (mnx w - 8) + 1 := by show w.1 + 1 - 8 = w.1 - 8 + 1; have : 8 ≤ w.1 := h8; omega
  unfold m_ws
  rw [e1, List.range_succ, List.map_append]
  congr 1
  · apply List.map_congr_left
    intro x hx
    have hx2 : x < mnx w - 8 := List.mem_range.mp hx
    have n1 : ¬ x + 8 = w.1 := by have : x < w.1 - 8 := hx2; omega
    show (base + x, m_cell _ tA (if x + 8 = w.1 then k else msh w (x + 8)) (if x + 8 = w.1 then f else mmm w (x + 8))) = _
    rw [if_neg n1, if_neg n1]
  · have n1 : mnx w - 8 + 8 = w.1 := by have : 8 ≤ w.1 := h8; show w.1 - 8 + 8 = w.1; omega
    show [(base + (mnx w - 8), m_cell _ tA (if mnx w - 8 + 8 = w.1 then k else _) (if mnx w - 8 + 8 = w.1 then f else _))] = _
    rw [if_pos n1, if_pos n1]
theorem m_grow {w : MWd} {k : Nat × Nat} {f : Nat → MV} {H1 : Heap} (h8 : 8 ≤ mnx w) (hP : va_P D vwCl (m_ws base roa tA w) H) (o1 : ∀ q, q < H.size → H1[q]? = H[q]?) (hn : va_at D vwCl (base + (mnx w - 8), m_cell (m_ad base roa) tA k f) H1) : va_P D vwCl (m_ws base roa tA (m_mk w k f)) H1 := by
  rw [m_ws_mk h8]
  refine (hP.kept (fun q x hx => o1 x.1 ((hP q x hx).lt))).app (fun q x hx => ?_)
  have hz : q < 1 := (List.getElem?_eq_some_iff.mp hx).1
  rw [show q = 0 by omega] at hx
  cases hx
  exact hn
theorem m_S_grow {A : Nat → Prop} {H0 H1 : Heap} (hS : va_S A H0 H locs) (z : H1.size = H.size + 1) (o1 : ∀ q, q < H.size → H1[q]? = H[q]?) : va_S A H0 H1 locs :=
  ⟨Nat.le_trans hS.1 (by omega), fun x h1 h2 => (o1 x (Nat.lt_of_lt_of_le h1 hS.1)).trans (hS.2.1 x h1 h2), hS.2.2⟩
theorem m_def_val (ad : Nat → Nat) {d : String} {ty : FieldType} (h : parseFieldDescriptor d = some ty) (hf : q_tyok ty = true) : defaultValue ty = m_val ad (m_def ty) := by
  cases ty <;> first | rfl | (exact absurd hf (by simp [q_tyok]))
set_option maxHeartbeats 4000000 in
theorem m_new_W (hx : p.tables.exec = Jvm.exec) (hb : c.code = cc) {mid : Nat} (hown : s.vm.findClass (q_y mid).cls = some m.cls) (hts : ∀ w ∈ q_W, w.before args s = true)
    (hK : va_K D vwCl tys s) (hA : m_tys tA tys) (hAO : ∀ (ci : Nat) (C : String) (T : u_T) (N : Nat), q_ra ci = true → vwCl[ci]? = some (C, T, N) → va_AO C s)
    {i : Instr} {len : Nat} {st st' : List MV} {w w' : MWd} (h : m_new mid i st w = some (st', w')) (hd : decode cc pc = .ok (i, len)) (hn : m_len i = len ∨ m_len i = 0)
    (hP : va_P D vwCl (m_ws base roa tA w) H) (hS : va_S (fun q => base ≤ q) s.heap H locs) (h8 : 8 ≤ mnx w) (hbs : base ≤ s.heap.size) (hfr : mcx w + 8 = mnx w → s.heap.size + cells ≤ base + mcx w)
    (hcells : cells + (mcx w' - mcx w) ≤ R.cells) (hslots : slots + (msl w' - msl w) ≤ R.slots)
    (k : ∀ H1 : Heap, va_P D vwCl (m_ws base roa tA w') H1 → va_S (fun q => base ≤ q) s.heap H1 locs → W p l e R s m args below meth c H1 locs (cells + (mcx w' - mcx w)) (slots + (msl w' - msl w)) Q (F0 m (pc + len) ls (st'.map (m_val (m_ad base roa))))) :
    W p l e R s m args below meth c H locs cells slots Q (F0 m pc ls (st.map (m_val (m_ad base roa)))) := by
  have hd1 : m_len i ≠ 0 → decode cc pc = .ok (i, m_len i) ∧ len = m_len i := fun h0 => by rw [hn.resolve_right h0]; exact ⟨hd, rfl⟩
  refine m_le fun hle => ?_
  unfold m_new at h
  split at h
  rotate_left
  · cases h
  rename_i hfresh
  have hsz : H.size = base + (mnx w - 8) := by
    have h1 := m_ge hP (Nat.le_trans hbs hS.1)
    have h2 := hfr hfresh
    omega
  have had : m_ad base roa (mnx w) = H.size := by rw [m_ad_hi h8, hsz]
  have ec : ∀ (kk : Nat × Nat) (f : Nat → MV), mcx (m_mk w kk f) - mcx w = 1 := fun kk f => by show w.2.1 + 1 - w.2.1 = 1; omega
  have es : ∀ (kk : Nat × Nat) (f : Nat → MV), msl (m_mk w kk f) - msl w = kk.2 := fun kk f => by show w.2.2.1 + kk.2 - w.2.2.1 = kk.2; omega
  cases i
  case new idx =>
    obtain ⟨hd2, rfl⟩ := hd1 (by simp [m_len])
    dsimp only at h
    split at h
    · rename_i ci hq
      cases h
      obtain ⟨C, T, N, hcl, hl1, hl2, hl3⟩ := q_c_ok hq
      obtain ⟨h100, hN, hws, hty, hnm, hdf⟩ := q_cl_ok hcl
      have hKn := hK.1 ci _ hcl
      rw [ec] at hcells; rw [es] at hslots; rw [ec, es] at k
      subst hN
      refine W.newcK hx hb hown (hts _ hl1) (hts _ hl2) (hts _ hl3) rfl hd2 (by omega) (by omega) hKn.2.1 rfl fun H1 kC hkC e1 z1 o1 => ?_
      have hk := k H1 (m_grow h8 hP o1 (by
        rw [m_fld_cell h100]
        refine ⟨_, hcl, (u_born (q_ty ci) hts hws hKn hkC (by rw [← hsz]; exact e1) hty).to (fun j hj => ?_)⟩
        show _ = vp_V _ j
        unfold vp_V
        rw [List.getD_eq_getElem?_getD, m_fld_at hj]
        exact m_def_val (m_ad base roa) (hty j hj) (hdf j hj))) (m_S_grow hS z1 o1)
      rw [List.map_cons] at hk
      show W _ _ _ _ _ _ _ _ _ _ _ _ _ _ _ (F0 m (pc + 3) ls (.ref H.size :: _))
      rw [← had]
      exact hk
    · cases h
  case newarray t =>
    obtain ⟨hd2, rfl⟩ := hd1 (by simp [m_len])
    dsimp only at h
    split at h
    · rename_i n r
      split at h
      · rename_i hc
        obtain ⟨hc1, hc2⟩ := hc
        split at h
        · cases h
          rw [ec] at hcells; rw [es] at hslots; rw [ec, es] at k
          refine va_newaK hx hb (atype := .int) (hts _ q_ai_ok.1) rfl hd2 rfl hc1 rfl (by show n.toNatClampNeg * 4 ≤ _; omega) (by omega) hslots rfl fun H1 cA e1 z1 o1 hAr hNm => ?_
          have hcA : cA = tA 100 := Option.some.inj (hNm.symm.trans (hK.2 0 _ hA.1).2)
          subst hcA
          have hk := k H1 (m_grow h8 hP o1 (by
            rw [m_cell_i rfl]
            show H1[base + (mnx w - 8)]? = some (vp_cell _ _)
            rw [← hsz, vp_cell_i]
            exact e1)) (m_S_grow hS z1 o1)
          rw [List.map_cons] at hk
          show W _ _ _ _ _ _ _ _ _ _ _ _ _ _ _ (F0 m (pc + 2) ls (.ref H.size :: _))
          rw [← had]
          exact hk
        · cases h
          rw [ec] at hcells; rw [es] at hslots; rw [ec, es] at k
          refine va_newaK hx hb (atype := .long) (hts _ q_ai_ok.2) rfl hd2 rfl hc1 rfl (by show n.toNatClampNeg * 8 ≤ _; omega) (by omega) hslots rfl fun H1 cA e1 z1 o1 hAr hNm => ?_
          have hcA : cA = tA 101 := Option.some.inj (hNm.symm.trans (hK.2 1 _ hA.2.1).2)
          subst hcA
          have hk := k H1 (m_grow h8 hP o1 (by
            rw [m_cell_l rfl]
            show H1[base + (mnx w - 8)]? = some (vp_cell _ _)
            rw [← hsz, vp_cell_l]
            exact e1)) (m_S_grow hS z1 o1)
          rw [List.map_cons] at hk
          show W _ _ _ _ _ _ _ _ _ _ _ _ _ _ _ (F0 m (pc + 2) ls (.ref H.size :: _))
          rw [← had]
          exact hk
        · cases h
      · cases h
    · cases h
  case anewarray idx =>
    obtain ⟨hd2, rfl⟩ := hd1 (by simp [m_len])
    dsimp only at h
    split at h
    · rename_i n r
      split at h
      · rename_i hc
        obtain ⟨hc1, hc2⟩ := hc
        split at h
        · rename_i ci hq
          cases h
          obtain ⟨hra, C, T, N, hcl, hl1⟩ := q_ca_ok hq
          rw [ec] at hcells; rw [es] at hslots; rw [ec, es] at k
          refine W.anew hx hb hown (hts _ hl1) (va_AO.use (hAO ci C T N hra hcl)) rfl hd2 rfl hc1 (by omega) (by omega) hslots fun cA kA comp f1 f2 f3 f4 => ?_
          obtain ⟨t0, C', T', N', hcl', ht0⟩ := hA.2.2 _ hra
          rw [hcl] at hcl'
          cases hcl'
          obtain ⟨-, kA', comp', g1, g2, g3, g4⟩ := hK.2 t0 _ ht0
          have hcA : cA = tA (102 + ci) := Option.some.inj (f1.symm.trans g4)
          generalize hH1 : H.push ({ cls := cA, slots := Array.replicate n.toNatClampNeg .null, vm := .none } : Cell) = H1
          have z1 : H1.size = H.size + 1 := by rw [← hH1, Array.size_push]
          have e1 : H1[H.size]? = some (arrV cA n.toNatClampNeg (fun _ => .null)) := by rw [← hH1, Array.getElem?_push_size, ← arrV_new]
          have o1 : ∀ q : Nat, q < H.size → H1[q]? = H[q]? := fun q hq => by rw [← hH1, Array.getElem?_push, if_neg (Nat.ne_of_lt hq)]
          subst hcA
          have hk := k H1 (m_grow h8 hP o1 (by
            rw [m_cell_q (by show 102 ≤ 102 + ci; omega)]
            show H1[base + (mnx w - 8)]? = some (vp_cell _ _)
            rw [← hsz, vp_cell_q]
            show _ = some (arrV (tA (102 + (102 + ci - 102))) _ _)
            rw [show 102 + (102 + ci - 102) = 102 + ci by omega]
            exact e1)) (m_S_grow hS z1 o1)
          rw [List.map_cons] at hk
          show W _ _ _ _ _ _ _ _ _ _ _ _ _ _ _ (F0 m (pc + 3) ls (.ref H.size :: _))
          rw [← had]
          exact hk
        · cases h
      · cases h
    · cases h
  all_goals (exact absurd h (by simp))
theorem m_ret_W {Qc : Array Value → State → Outcome → State → Prop} {free : Addr → Prop} {ad : Nat → Nat} (hx : p.tables.exec = Jvm.exec) (hb : c.code = cc) {mid : Nat} (hr : meth.sig.returnType = q_rt mid) (hlocks : meth.locks = false) {i : Instr} {len : Nat} {st : List MV} {v : Option MV} (h : m_ret mid i st = some v) (hd : decode cc pc = .ok (i, len)) (hn : m_len i = len ∨ m_len i = 0)
    (hq : ∀ t : State, t.heap = H → s.WarmedH t.vm → Qc args s (.returned (v.map (m_val ad))) t) (hf : ∀ q ∈ locs, free q.base) : W p l e R s m args below meth c H locs cells slots (MQ below Qc args s cells slots free) (F0 m pc ls (st.map (m_val ad))) := by
  have hd1 : m_len i ≠ 0 → decode cc pc = .ok (i, m_len i) := fun h0 => by rw [hn.resolve_right h0]; exact hd
  unfold m_ret at h
  split at h
  · split at h
    · rename_i hrt
      cases h
      exact W.vret hx hb (hr.trans hrt) hq hf (hd1 (by simp [m_len]))
    · cases h
  · split at h
    · rename_i x hrt
      cases h
      exact W.iret hx hb (hr.trans hrt) hq hf (hd1 (by simp [m_len]))
    · rename_i x hrt
      split at h
      · rename_i h01
        cases h
        exact W.zret hx hb (hr.trans hrt) (by rcases h01 with rfl | rfl <;> rfl) hq hf (hd1 (by simp [m_len]))
      · cases h
    · cases h
  · split at h
    · rename_i x hrt
      cases h
      exact W.lret hx hb (hr.trans hrt) hq hf (hd1 (by simp [m_len]))
    · cases h
  · split at h
    · rename_i x n hrt
      cases h
      refine W.aret hx hb (hr.trans hrt) (Or.inl ⟨_, rfl⟩) ?_ hq hf (hd1 (by simp [m_len]))
      rcases x with _ | x
      · exact Or.inl rfl
      · exact Or.inr ⟨_, rfl⟩
    · rename_i x n hrt
      cases h
      refine W.aret hx hb (hr.trans hrt) (Or.inr ⟨_, rfl⟩) ?_ hq hf (hd1 (by simp [m_len]))
      rcases x with _ | x
      · exact Or.inl rfl
      · exact Or.inr ⟨_, rfl⟩
    · cases h
  · cases h
end MMAKE
end
section
section MWALK
variable (l : Launch) (base : Nat) (roa : Nat → Nat) (ro : MRo) (tA : Nat → ClassId) (D : va_G) (tys : List (ClassId × FieldType)) (XF : State → Heap → Prop)
/-- what holds of the machine at every frame -/
def m_G (U : State) (H : Heap) : Prop :=
  va_K D vwCl tys U ∧ m_tys tA tys ∧ (∀ a n f, a < 8 → ro a = some (n, f) → va_X (roa a) n f U H ∧ roa a < H.size ∧ ¬ base ≤ roa a) ∧ (∀ q ∈ q_N, va_Nw (.methodLinkNest q.1 q.2.1 q.2.2.1 q.2.2.2) U) ∧
  (∀ (ci : Nat) (C : String) (T : u_T) (N : Nat), q_ra ci = true → vwCl[ci]? = some (C, T, N) → va_AO C U) ∧ XF U H ∧ base ≤ H.size
def m_X3 : Prop := (∀ (u U : State) (H : Heap), u.WarmedH U.vm → XF u H → XF U H) ∧ (∀ (u U : State) (H : Heap), u.vm = U.vm → XF u H → XF U H) ∧ (∀ (U : State) (H H1 : Heap), (∀ a, a < base → H1[a]? = H[a]?) → H.size ≤ H1.size → XF U H → XF U H1)
theorem m_G_warm (hX : m_X3 base XF) {s U : State} {H : Heap} (hW : s.WarmedH U.vm) (h : m_G base roa ro tA D tys XF s H) : m_G base roa ro tA D tys XF U H := by
  obtain ⟨h1, h2, h3, h4, h5, h6, h7⟩ := h
  exact ⟨va_K.moved hW.alike h1, h2, fun a n f ha hf => by obtain ⟨g1, g2, g3⟩ := h3 a n f ha hf; exact ⟨g1.moved hW.alike, g2, g3⟩, fun q hq => va_Nw.warmM hW (h4 q hq), fun ci C T N ha hc => (h5 ci C T N ha hc).moved hW.alike, hX.1 s U H hW h6, h7⟩
theorem m_G_same (hX : m_X3 base XF) {s U : State} {H : Heap} (hv : s.vm = U.vm) (h : m_G base roa ro tA D tys XF s H) : m_G base roa ro tA D tys XF U H := by
  obtain ⟨h1, h2, h3, h4, h5, h6, h7⟩ := h
  have hA : s.vm.Alike U.vm := by rw [hv]; exact Vm.Alike.refl _
  exact ⟨va_K.moved hA h1, h2, fun a n f ha hf => by obtain ⟨g1, g2, g3⟩ := h3 a n f ha hf; exact ⟨g1.moved hA, g2, g3⟩, fun q hq => va_Nw.same rfl hv (h4 q hq), fun ci C T N ha hc => (h5 ci C T N ha hc).moved hA, hX.2.1 s U H hv h6, h7⟩
theorem m_G_kept (hX : m_X3 base XF) {U : State} {H H1 : Heap} (ho : ∀ a, a < base → H1[a]? = H[a]?) (hs : H.size ≤ H1.size) (h : m_G base roa ro tA D tys XF U H) : m_G base roa ro tA D tys XF U H1 := by
  obtain ⟨h1, h2, h3, h4, h5, h6, h7⟩ := h
  exact ⟨h1, h2, fun a n f ha hf => by obtain ⟨g1, g2, g3⟩ := h3 a n f ha hf; exact ⟨g1.kept (ho _ (Nat.lt_of_not_le g3)), Nat.lt_of_lt_of_le g2 hs, g3⟩, h4, h5, hX.2.2 U H H1 ho hs h6, Nat.le_trans h7 hs⟩
def m_Pc (w : MWd) (As : List MV) : Array Value → State → Prop := va_Pc (As.map (m_val (m_ad base roa))) (fun U => va_P D vwCl (m_ws base roa tA w) U.heap ∧ m_G base roa ro tA D tys XF U U.heap ∧ (mcx w + 8 = mnx w → U.heap.size ≤ base + mcx w))
def m_Qc (v : Option MV) (w1 : MWd) : Array Value → State → Outcome → State → Prop := fun _ st o t => o = .returned (v.map (m_val (m_ad base roa))) ∧ va_P D vwCl (m_ws base roa tA w1) t.heap ∧ va_F (fun q => base ≤ q) st t
def m_XC (E0 : String) (w1 : MWd) : String → State → State → Prop := fun E st t => E = E0 ∧ va_P D vwCl (m_ws base roa tA w1) t.heap ∧ va_F (fun q => base ≤ q) st t
def m_rm (d : Nat) (w w1 : MWd) : Room := { frames := d, cells := mcx w1 - mcx w, slots := msl w1 - msl w, locals := 64 * d }
def m_wd (cm : Nat) : List Cond := Cond.code (q_y cm) (q_b cm) (q_nl cm) (q_rt cm) :: q_W
/-- the Java machine, at this frame, comes where the small one comes -/
def m_Ok (d mid pc : Nat) (L : ML) (st : List MV) (w : MWd) (o : MOut) (w' : MWd) : Prop :=
  ∀ (p : Program) (e : Env) (R : Room) (s : State) (m : MethodId) (args : Array Value) (below : List Frame) (meth : Method) (c : Code) (H : Heap) (locs : List Loc) (cells slots kc ks : Nat) (Z : State → Prop) (ls : Array Slot),
    p.tables.exec = Jvm.exec → c.code = q_b mid → c.maxLocals = q_nl mid → s.vm.findClass (q_y mid).cls = some m.cls → (∀ w ∈ q_W, w.before args s = true) → ((q_y mid).name = "<init>" → meth.name = "<init>") →
    m_G base roa ro tA D tys XF s s.heap → lv_has ls (q_nl mid) (ml_val (m_ad base roa) L) → va_P D vwCl (m_ws base roa tA w) H → va_S (fun q => base ≤ q) s.heap H locs → 8 ≤ mnx w → mnx w ≤ mcx w + 8 → (mcx w + 8 = mnx w → s.heap.size + cells ≤ base + mcx w) →
    d ≤ R.frames → 64 * d ≤ R.locals → kc ≤ R.cells → ks ≤ R.slots → cells + (mcx w' - mcx w) = kc → slots + (msl w' - msl w) = ks →
    (∀ v, o = .inl v → ∀ (i : Instr) (len pc : Nat) (ls : Array Slot) (H : Heap) (locs : List Loc) (st : List MV), m_ret mid i st = some v → decode (q_b mid) pc = .ok (i, len) → (m_len i = len ∨ m_len i = 0) → va_P D vwCl (m_ws base roa tA w') H → va_S (fun q => base ≤ q) s.heap H locs → W p l e R s m args below meth c H locs kc ks Z (F0 m pc ls (st.map (m_val (m_ad base roa))))) →
    (∀ E, o = .inr E → ∀ (pc : Nat) (ls : Array Slot) (H : Heap) (locs : List Loc) (w2 : MWd), q_th mid pc = some E → w' = m_thr w2 → ls.size = c.maxLocals → 10 ≤ R.frames → 640 ≤ R.locals → 1 ≤ kc → 6 ≤ ks → va_P D vwCl (m_ws base roa tA w2) H → va_S (fun q => base ≤ q) s.heap H locs → W p l e R s m args below meth c H locs (kc - 1) (ks - 6) Z (F0 m pc ls [])) →
    (∀ (pc : Nat) (E : String) (hh : Nat × Nat), q_h mid pc E = some hh → ∀ (H : Heap) (locs : List Loc) (cells slots : Nat) (L : ML) (ls : Array Slot) (rest : List Value) (q : Addr) (ce : Cell), lv_has ls (q_nl mid) (ml_val (m_ad base roa) L) → H[q]? = some ce → ce.vm = .none → s.vm.findClass E = some ce.cls →
      (∀ ls' : Array Slot, lv_has ls' (q_nl mid) (ml_val (m_ad base roa) (m_drop L hh.2)) → W p l e R s m args below meth c H locs cells slots Z (F0 m hh.1 ls' [])) → vx_W p l e R s m args below meth c H locs cells slots Z (F0 m pc ls rest) q) →
    W p l e R s m args below meth c H locs cells slots Z (F0 m pc ls (st.map (m_val (m_ad base roa))))
variable {l base roa ro tA D tys XF}
theorem m_ent_has {cm : Nat} {As : List MV} (h : m_cats As ≤ q_nl cm) : lv_has ((lg_sl (As.map (m_val (m_ad base roa))) ++ List.replicate (q_nl cm - (lg_sl (As.map (m_val (m_ad base roa)))).length) Slot.unset).toArray) (q_nl cm) (ml_val (m_ad base roa) (m_ent 0 As)) := by
  have h1 := lv_entry (As.map (m_val (m_ad base roa))) (n := q_nl cm) (by rw [m_sl_len]; exact h)
  rw [m_ent_val] at h1
  exact h1
/-- a callee that returns -/
theorem m_met {cm d : Nat} {As : List MV} {v : Option MV} {w w1 : MWd} (hc : q_good cm) (hcats : m_cats As ≤ q_nl cm) (h8 : 8 ≤ mnx w) (hnc : mnx w ≤ mcx w + 8) (hnoh : ∀ pc E, q_h cm pc E = none)
    (h : m_Ok l base roa ro tA D tys XF d cm 0 (m_ent 0 As) [] w (.inl v) w1) :
    Met l (q_y cm) (m_wd cm) (m_rm d w w1) (m_Pc base roa ro tA D tys XF w As) (m_Qc base roa tA D v w1) (mcx w1 - mcx w) (msl w1 - msl w) (fun q => base ≤ q) := by
  refine Met.ofW (cc := q_b cm) (maxL := q_nl cm) (ret := q_rt cm) hc.2.2.1 rfl ?_
  intro p e s m args below meth c s₁ B hml hv
  obtain ⟨rfl, hP, hG, hfr⟩ := hv
  have hx := B.exec
  have hb := B.bytes
  have hr := B.returns
  have hts := atoms_spec (ws := m_wd cm) B.pre
  have hown : s.vm.findClass (q_y cm).cls = some m.cls := findClass_of_methodNamed B.named
  have hlocks := B.notSynchronized
  have hname : meth.name = (q_y cm).name := (name_of_methodNamed B.named B.method).1
  rw [lg_entry_eq]
  refine h p e _ s m _ below meth c s.heap [] 0 0 (mcx w1 - mcx w) (msl w1 - msl w) _ _ hx hb hml hown (fun w' hw' => hts w' (List.mem_cons_of_mem _ hw')) (fun hi => hname.trans hi) hG (m_ent_has hcats) hP va_S.rf h8 hnc (fun hf => by rw [Nat.add_zero]; exact hfr hf) (Nat.le_refl _) (Nat.le_refl _) (Nat.le_refl _) (Nat.le_refl _) (Nat.zero_add _) (Nat.zero_add _) ?_ ?_ ?_
  · intro v' hv' i len pc ls H locs st hret hd hn hP1 hS1
    cases hv'
    exact m_ret_W hx hb hr hlocks hret hd hn (fun t ht hW => ⟨rfl, by rw [ht]; exact hP1, hS1.F ht⟩) (fun q hq => hS1.2.2 q hq)
  · intro E hE
    cases hE
  · intro pc E hh hq
    rw [hnoh pc E] at hq
    cases hq
end MWALK
end
section
section MCALL
variable {l : Launch} {base : Nat} {roa : Nat → Nat} {ro : MRo} {tA : Nat → ClassId} {D : va_G} {tys : List (ClassId × FieldType)} {XF : State → Heap → Prop}
/-- a throw of its own leaves the frame -/
def m_Throw (l : Launch) (base : Nat) (XF : State → Heap → Prop) : Prop :=
  ∀ (mid pc : Nat) (E : String), q_th mid pc = some E → ∀ (p : Program) (e : Env) (R : Room) (s : State) (m : MethodId) (args : Array Value) (below : List Frame) (meth : Method) (c : Code) (H : Heap) (locs : List Loc) (mc ms : Nat) (ls : Array Slot) (Qc : Array Value → State → Outcome → State → Prop) (XC : String → State → State → Prop),
    p.tables.exec = Jvm.exec → c.code = q_b mid → s.vm.findClass (q_y mid).cls = some m.cls → (∀ w ∈ q_W, w.before args s = true) → XF s s.heap → base ≤ s.heap.size → (∀ x ∈ c.exceptionTable.toList, False) → meth.locks = false →
    10 ≤ R.frames → 640 ≤ R.locals → mc ≤ R.cells → ms ≤ R.slots → 1 ≤ mc → 6 ≤ ms → ls.size = c.maxLocals → va_S (fun q => base ≤ q) s.heap H locs →
    (∀ t : State, s.vm.Alike t.vm → H.size ≤ t.heap.size → (∀ q : Nat, q < H.size → t.heap[q]? = H[q]?) → XC E s t) →
    W p l e R s m args below meth c H locs (mc - 1) (ms - 6) (vx_MQ below Qc XC args s mc ms (fun q => base ≤ q)) (F0 m pc ls [])
/-- a throw of a callee's is caught by this method's table -/
def m_Catch (l : Launch) (XF : State → Heap → Prop) : Prop :=
  ∀ (mid pc : Nat) (E : String) (hh : Nat × Nat), q_h mid pc E = some hh → ∀ (p : Program) (e : Env) (R : Room) (s : State) (m : MethodId) (args : Array Value) (below : List Frame) (meth : Method) (c : Code) (H : Heap) (locs : List Loc) (cells slots : Nat) (Z : State → Prop) (ls : Array Slot) (rest : List Value) (q : Addr) (ce : Cell) (L : ML) (ad : Nat → Nat),
    p.tables.exec = Jvm.exec → c.code = q_b mid → s.vm.findClass (q_y mid).cls = some m.cls → (∀ w ∈ q_W, w.before args s = true) → XF s s.heap → c.exceptionTable.toList = tableOf (q_hh mid) →
    lv_has ls (q_nl mid) (ml_val ad L) → H[q]? = some ce → ce.vm = .none → s.vm.findClass E = some ce.cls →
    (∀ ls' : Array Slot, lv_has ls' (q_nl mid) (ml_val ad (m_drop L hh.2)) → W p l e R s m args below meth c H locs cells slots Z (F0 m hh.1 ls' [])) →
    vx_W p l e R s m args below meth c H locs cells slots Z (F0 m pc ls rest) q
def m_wd7 (cm : Nat) : List Cond := Cond.codeWith (q_y cm) (q_b cm) (q_nl cm) (q_rt cm) (q_hh cm) :: q_W
/-- a callee that throws -/
theorem m_metx (hT : m_Throw l base XF) {cm d : Nat} {As : List MV} {E : String} {w w1 : MWd} (hc : q_good cm) (hcats : m_cats As ≤ q_nl cm) (h8 : 8 ≤ mnx w) (hnc : mnx w ≤ mcx w + 8) (hnoh : ∀ pc E, q_h cm pc E = none) (hg : m_gr w w1)
    (h : m_Ok l base roa ro tA D tys XF d cm 0 (m_ent 0 As) [] w (.inr E) w1) (Qc : Array Value → State → Outcome → State → Prop) :
    vx_Met l (q_y cm) (m_wd cm) (m_rm d w w1) (m_Pc base roa ro tA D tys XF w As) Qc (m_XC base roa tA D E w1) (mcx w1 - mcx w) (msl w1 - msl w) (fun q => base ≤ q) := by
  refine vx_ofW (cc := q_b cm) (maxL := q_nl cm) (ret := q_rt cm) hc.2.2.1 rfl ?_
  intro p e s m args below meth c s₁ B hml hnt hv
  obtain ⟨rfl, hP, hG, hfr⟩ := hv
  have hx := B.exec
  have hb := B.bytes
  have hts := atoms_spec (ws := m_wd cm) B.pre
  have hts2 : ∀ w ∈ q_W, w.before _ s = true := fun w' hw' => hts w' (List.mem_cons_of_mem _ hw')
  have hown : s.vm.findClass (q_y cm).cls = some m.cls := findClass_of_methodNamed B.named
  have hlocks := B.notSynchronized
  have hname : meth.name = (q_y cm).name := (name_of_methodNamed B.named B.method).1
  rw [lg_entry_eq]
  refine h p e _ s m _ below meth c s.heap [] 0 0 (mcx w1 - mcx w) (msl w1 - msl w) _ _ hx hb hml hown hts2 (fun hi => hname.trans hi) hG (m_ent_has hcats) hP va_S.rf h8 hnc (fun hf => by rw [Nat.add_zero]; exact hfr hf) (Nat.le_refl _) (Nat.le_refl _) (Nat.le_refl _) (Nat.le_refl _) (Nat.zero_add _) (Nat.zero_add _) ?_ ?_ ?_
  · intro v' hv'
    cases hv'
  · intro E' hE pc ls H locs w2 hth hw2 hsz hf10 hl640 hk1 hk6 hP1 hS1
    cases hE
    refine hT cm pc E hth p e _ s m _ below meth c H locs _ _ ls Qc _ hx hb hown hts2 hG.2.2.2.2.2.1 hG.2.2.2.2.2.2 hnt hlocks hf10 hl640 (Nat.le_refl _) (Nat.le_refl _) hk1 hk6 hsz hS1 (fun t hA hs hq => ⟨rfl, ?_, Nat.le_trans hS1.1 hs, fun q h1 h2 => (hq q (Nat.lt_of_lt_of_le h1 hS1.1)).trans (hS1.2.1 q h1 h2)⟩)
    rw [hw2]
    exact hP1.kept (fun k q hk => hq q.1 ((hP1 k q hk).lt))
  · intro pc E hh hq
    rw [hnoh pc E] at hq
    cases hq
/-- a callee with a table of its own -/
theorem m_met7 (hC : m_Catch l XF) {cm d : Nat} {As : List MV} {v : Option MV} {w w1 : MWd} (hc : q_good cm) (hcats : m_cats As ≤ q_nl cm) (h8 : 8 ≤ mnx w) (hnc : mnx w ≤ mcx w + 8)
    (h : m_Ok l base roa ro tA D tys XF d cm 0 (m_ent 0 As) [] w (.inl v) w1) :
    Met l (q_y cm) (m_wd7 cm) (m_rm d w w1) (m_Pc base roa ro tA D tys XF w As) (m_Qc base roa tA D v w1) (mcx w1 - mcx w) (msl w1 - msl w) (fun q => base ≤ q) := by
  have hM : vx_Met l (q_y cm) (m_wd7 cm) (m_rm d w w1) (m_Pc base roa ro tA D tys XF w As) (m_Qc base roa tA D v w1) (fun _ _ _ => False) (mcx w1 - mcx w) (msl w1 - msl w) (fun q => base ≤ q) := by
    refine vx_ofWH (cc := q_b cm) (maxL := q_nl cm) (ret := q_rt cm) (hh := q_hh cm) hc.2.2.1 rfl ?_
    intro p e s m args below meth c s₁ B hml hv
    obtain ⟨rfl, hP, hG, hfr⟩ := hv
    have hx := B.exec
    have hb := B.bytes
    have hr := B.returns
    have hts := atoms_spec (ws := m_wd7 cm) B.pre
    have hts2 : ∀ w ∈ q_W, w.before _ s = true := fun w' hw' => hts w' (List.mem_cons_of_mem _ hw')
    have hown : s.vm.findClass (q_y cm).cls = some m.cls := findClass_of_methodNamed B.named
    have hlocks := B.notSynchronized
    have hname : meth.name = (q_y cm).name := (name_of_methodNamed B.named B.method).1
    have htab := vx_table (x := q_y cm) B (hts _ List.mem_cons_self)
    rw [lg_entry_eq]
    refine h p e _ s m _ below meth c s.heap [] 0 0 (mcx w1 - mcx w) (msl w1 - msl w) _ _ hx hb hml hown hts2 (fun hi => hname.trans hi) hG (m_ent_has hcats) hP va_S.rf h8 hnc (fun hf => by rw [Nat.add_zero]; exact hfr hf) (Nat.le_refl _) (Nat.le_refl _) (Nat.le_refl _) (Nat.le_refl _) (Nat.zero_add _) (Nat.zero_add _) ?_ ?_ ?_
    · intro v' hv' i len pc ls H locs st hret hd hn hP1 hS1
      cases hv'
      exact vx_ret (m_ret_W hx hb hr hlocks hret hd hn (fun t ht hW => ⟨rfl, by rw [ht]; exact hP1, hS1.F ht⟩) (fun q hq => hS1.2.2 q hq))
    · intro E hE
      cases hE
    · intro pc E hh hq H locs cells slots L ls rest q ce hl hce hcv hcl kk
      exact hC cm pc E hh hq p e _ s m _ below meth c H locs cells slots _ ls rest q ce L _ hx hb hown hts2 hG.2.2.2.2.2.1 htab hl hce hcv hcl kk
  refine MetFree.mono hM (fun _ _ h => h) (fun _ _ _ _ _ h => h) (fun a st o t _ hq => ?_)
  rcases hq with hq | ⟨q, -, E, ce, L, hF, -⟩
  · exact hq
  · exact hF.elim
section
variable {p : Program} {e : Env} {R : Room} {s : State} {m : MethodId} {args : Array Value} {below : List Frame} {meth : Method} {c : Code} {H : Heap} {locs : List Loc} {cells slots : Nat} {Q : State → Prop} {pc : Nat} {ls : Array Slot} {mc ms : Nat}
theorem m_callr {v : Option MV} {w1 : MWd} {a : Array Value} {st0 rest : List Value} (hr : va_Run p l e R s m args below meth c H locs cells slots mc ms (F0 m pc ls st0) rest (m_Qc base roa tA D v w1 a) (fun q => base ≤ q)) (hS : va_S (fun q => base ≤ q) s.heap H locs)
    (kk : ∀ (H1 : Heap) (locs1 : List Loc), va_P D vwCl (m_ws base roa tA w1) H1 → va_S (fun q => base ≤ q) s.heap H1 locs1 → W p l e R s m args below meth c H1 locs1 (cells + mc) (slots + ms) Q (F0 m (pc + 3) ls ((v.map (m_val (m_ad base roa))).toList ++ rest))) : W p l e R s m args below meth c H locs cells slots Q (F0 m pc ls st0) := by
  intro T hT X
  obtain ⟨v', st₀, t, T', L, h0, X', hL, e1, e2, ⟨hv, hP1, hF⟩, st⟩ := hr T hT X
  cases hv
  obtain ⟨k1, k2, k3⟩ := vx_keep h0 e1 hS (fun q _ h => h) (fun q h => h) hL hF
  obtain ⟨t2, a1, b1⟩ := kk T'.heap (locs ++ L) (by rw [e1]; exact hP1) k3 T' rfl X'
  exact ⟨t2, st t2 a1, b1⟩
theorem m_callx {E : String} {w1 : MWd} {st0 rest : List Value} (hr : vx_Run p l e R s m args below meth c H locs cells slots mc ms (F0 m pc ls st0) rest (fun _ _ _ => False) (m_XC base roa tA D E w1) (fun q => base ≤ q)) (hS : va_S (fun q => base ≤ q) s.heap H locs)
    (kk : ∀ (H1 : Heap) (locs1 : List Loc) (q : Addr) (ce : Cell), va_P D vwCl (m_ws base roa tA w1) H1 → va_S (fun q => base ≤ q) s.heap H1 locs1 → H1[q]? = some ce → ce.vm = .none → s.vm.findClass E = some ce.cls → vx_W p l e R s m args below meth c H1 locs1 (cells + mc) (slots + ms) Q (F0 m pc ls rest) q) : W p l e R s m args below meth c H locs cells slots Q (F0 m pc ls st0) := by
  intro T hT X
  rcases hr T hT X with ⟨v, st₀, t, T', L, h0, X', hL, e1, e2, hq, st⟩ | ⟨q, st₀, t, T', L, E', ce, h0, X', hL, e1, e2, ⟨hE, hP1, hF⟩, hce, hcv, hcl, st⟩
  · exact hq.elim
  · subst hE
    obtain ⟨k1, k2, k3⟩ := vx_keep h0 e1 hS (fun q _ h => h) (fun q h => h) hL hF
    obtain ⟨t2, a1, b1⟩ := kk T'.heap (locs ++ L) q ce (by rw [e1]; exact hP1) k3 (by rw [e1]; exact hce) hcv hcl T' rfl X'
    exact ⟨t2, st.trans a1, b1⟩
end
theorem m_Pc_blind (hX : m_X3 base XF) {w : MWd} {As : List MV} : FrameBlind (m_Pc base roa ro tA D tys XF w As) := by
  intro a U g mk q
  obtain ⟨q0, q1, q2, q3⟩ := q
  exact ⟨q0, q1, m_G_same base roa ro tA D tys XF hX (s := U) (U := U.calling g mk a) rfl q2, q3⟩
end MCALL
end
section
theorem q_goodIn {ws : List Cond} (h : ∀ w ∈ ws, w ∈ q_W) : GoodIn q_W ws := fun w hw => ⟨h w hw, good_of_word (List.mem_filter.mp (h w hw)).2⟩
theorem m_len0 {i : Instr} (h : m_len i = 0) : ∃ a b c d, i = .tableswitch a b c d := by
  cases i
  case tableswitch a b c d => exact ⟨a, b, c, d, rfl⟩
  all_goals (exact absurd h (by simp [m_len]))
theorem m_heap_len {ro : MRo} {mid : Nat} {i : Instr} {st : List MV} {w : MWd} {r : List MV × MWd} {len : Nat} (h : m_heap ro mid i st w = some r) (hn : m_len i = len ∨ m_len i = 0) : len = m_len i := by
  rcases hn with hn | hn
  · exact hn.symm
  · obtain ⟨a, b, c, d, rfl⟩ := m_len0 hn
    cases h
theorem m_new_len {mid : Nat} {i : Instr} {st : List MV} {w : MWd} {r : List MV × MWd} {len : Nat} (h : m_new mid i st w = some r) (hn : m_len i = len ∨ m_len i = 0) : len = m_len i := by
  rcases hn with hn | hn
  · exact hn.symm
  · obtain ⟨a, b, c, d, rfl⟩ := m_len0 hn
    unfold m_new at h
    split at h <;> cases h
theorem m_heap_same {ro : MRo} {mid : Nat} {i : Instr} {st : List MV} {w : MWd} {r : List MV × MWd} (h : m_heap ro mid i st w = some r) : mnx r.2 = mnx w ∧ mcx r.2 = mcx w ∧ msl r.2 = msl w := by
  unfold m_heap at h
  repeat' split at h
  all_goals (first | (cases h; exact ⟨rfl, rfl, rfl⟩) | cases h)
theorem m_new_fresh {mid : Nat} {i : Instr} {st : List MV} {w : MWd} {r : List MV × MWd} (h : m_new mid i st w = some r) : mcx w + 8 = mnx w := by
  unfold m_new at h
  split at h
  · assumption
  · cases h
theorem m_obj_ok {mid : Nat} {i : Instr} {st r : List MV} (h : m_obj mid i st = some r) : ∃ idx cm a, i = .invokespecial idx ∧ q_m mid idx = some (cm, 5) ∧ st = .inr (.inr (some a)) :: r ∧ m_cats r ≤ 8 := by
  unfold m_obj at h
  split at h
  · split at h
    · rename_i hq
      split at h
      · rename_i hc
        cases h
        exact ⟨_, _, _, rfl, hq, rfl, hc⟩
      · cases h
    · cases h
  · cases h
theorem m_take_split {n : Nat} {st : List MV} (h : n ≤ st.length) : ((st.take n).reverse).length = n ∧ st = ((st.take n).reverse).reverse ++ st.drop n := by
  refine ⟨by rw [List.length_reverse, List.length_take]; omega, by rw [List.reverse_reverse, List.take_append_drop]⟩
theorem m_call_ok {mid : Nat} {i : Instr} {st : List MV} {w : MWd} {z : Nat × List MV × List MV} (h : m_call mid i st w = some z) : ∃ (idx kd : Nat) (Bs : List MV), q_m mid idx = some (z.1, kd) ∧ Bs.length = q_np z.1 ∧ m_cats z.2.2 ≤ 8 ∧ m_cats z.2.1 ≤ q_nl z.1 ∧
    ((i = .invokestatic idx ∧ (kd = 1 ∨ kd = 3 ∨ kd = 7) ∧ z.2.1 = Bs ∧ st = Bs.reverse ++ z.2.2) ∨
     (i = .invokevirtual idx ∧ kd = 0 ∧ ∃ a, z.2.1 = .inr (.inr (some a)) :: Bs ∧ st = Bs.reverse ++ .inr (.inr (some a)) :: z.2.2 ∧ 8 ≤ a ∧ a < mnx w ∧ (msh w a).1 < 100 ∧ q_rc z.1 = some (msh w a).1) ∨
     (i = .invokespecial idx ∧ (kd = 2 ∨ kd = 6) ∧ ∃ a, z.2.1 = .inr (.inr (some a)) :: Bs ∧ st = Bs.reverse ++ .inr (.inr (some a)) :: z.2.2)) := by
  unfold m_call at h
  split at h
  · split at h
    · rename_i cm kd hq
      split at h
      · rename_i hc
        obtain ⟨h1, h2, h3, h4⟩ := hc
        cases h
        obtain ⟨e1, e2⟩ := m_take_split h2
        exact ⟨_, kd, _, hq, e1, h3, h4, Or.inl ⟨rfl, h1, rfl, e2⟩⟩
      · cases h
    · cases h
  · split at h
    · rename_i cm kd hq
      split at h
      · rename_i a r hdrop
        split at h
        · rename_i hc
          obtain ⟨h1, h2, h3, h4, h5, h6, h7, h8⟩ := hc
          cases h
          obtain ⟨e1, e2⟩ := m_take_split h2
          rw [hdrop] at e2
          exact ⟨_, kd, _, hq, e1, h3, h4, Or.inr (Or.inl ⟨rfl, h1, a, rfl, e2, h5, h6, h7, h8⟩)⟩
        · cases h
      · cases h
    · cases h
  · split at h
    · rename_i cm kd hq
      split at h
      · rename_i a r hdrop
        split at h
        · rename_i hc
          obtain ⟨h1, h2, h3, h4⟩ := hc
          cases h
          obtain ⟨e1, e2⟩ := m_take_split h2
          rw [hdrop] at e2
          exact ⟨_, kd, _, hq, e1, h3, h4, Or.inr (Or.inr ⟨rfl, h1, a, rfl, e2⟩)⟩
        · cases h
      · cases h
    · cases h
  · cases h
section MMAIN
variable {l : Launch} {base : Nat} {roa : Nat → Nat} {ro : MRo} {tA : Nat → ClassId} {D : va_G} {tys : List (ClassId × FieldType)} {XF : State → Heap → Prop}
variable {p : Program} {e : Env} {R : Room} {s : State} {m : MethodId} {args : Array Value} {below : List Frame} {meth : Method} {c : Code} {H : Heap} {locs : List Loc} {cells slots : Nat} {Q : State → Prop} {pc : Nat} {ls : Array Slot} {mc ms : Nat}
theorem m_pre (hX : m_X3 base XF) {w : MWd} {As : List MV} (hG : m_G base roa ro tA D tys XF s s.heap) (hP : va_P D vwCl (m_ws base roa tA w) H) (hS : va_S (fun q => base ≤ q) s.heap H locs) (hle : mcx w + 8 = mnx w → H.size ≤ base + mcx w) :
    FrameBlind (m_Pc base roa ro tA D tys XF w As) ∧ ∀ U : State, U.heap = H → s.WarmedH U.vm → m_Pc base roa ro tA D tys XF w As (As.map (m_val (m_ad base roa))).toArray U := by
  refine ⟨m_Pc_blind hX, fun U hU hW => ⟨rfl, ?_, ?_, ?_⟩⟩
  · rw [hU]; exact hP
  · rw [hU]
    have hb := hG.2.2.2.2.2.2
    exact m_G_warm base roa ro tA D tys XF hX hW (m_G_kept base roa ro tA D tys XF hX (fun a ha => hS.2.1 a (Nat.lt_of_lt_of_le ha hb) (Nat.not_le.mpr ha)) hS.1 hG)
  · rw [hU]; exact hle
set_option maxHeartbeats 4000000 in
/-- a call that returns -/
theorem m_callW (hX : m_X3 base XF) (hC : m_Catch l XF) {mid d : Nat} {i : Instr} {len : Nat} {st : List MV} {w w1 : MWd} {z : Nat × List MV × List MV} {v : Option MV}
    (hx : p.tables.exec = Jvm.exec) (hb : c.code = q_b mid) (hml : c.maxLocals = q_nl mid) (hown : s.vm.findClass (q_y mid).cls = some m.cls) (hts : ∀ w ∈ q_W, w.before args s = true)
    (hG : m_G base roa ro tA D tys XF s s.heap) (hP : va_P D vwCl (m_ws base roa tA w) H) (hS : va_S (fun q => base ≤ q) s.heap H locs) (h8 : 8 ≤ mnx w) (hnc : mnx w ≤ mcx w + 8) (hfr : mcx w + 8 = mnx w → s.heap.size + cells ≤ base + mcx w)
    (hdR : d + 1 ≤ R.frames) (hdL : 64 * (d + 1) ≤ R.locals) (hcR : cells + (mcx w1 - mcx w) ≤ R.cells) (hsR : slots + (msl w1 - msl w) ≤ R.slots) (hsz : ls.size = q_nl mid)
    (h : m_call mid i st w = some z) (hd : decode (q_b mid) pc = .ok (i, len)) (hn : m_len i = len ∨ m_len i = 0)
    (hok : m_Ok l base roa ro tA D tys XF d z.1 0 (m_ent 0 z.2.1) [] w (.inl v) w1)
    (kk : ∀ (H1 : Heap) (locs1 : List Loc), va_P D vwCl (m_ws base roa tA w1) H1 → va_S (fun q => base ≤ q) s.heap H1 locs1 → W p l e R s m args below meth c H1 locs1 (cells + (mcx w1 - mcx w)) (slots + (msl w1 - msl w)) Q (F0 m (pc + 3) ls ((v.toList ++ z.2.2).map (m_val (m_ad base roa))))) :
    W p l e R s m args below meth c H locs cells slots Q (F0 m pc ls (st.map (m_val (m_ad base roa)))) := by
  have hd1 : m_len i ≠ 0 → decode (q_b mid) pc = .ok (i, m_len i) := fun h0 => by rw [hn.resolve_right h0]; exact hd
  refine m_le fun hle0 => ?_
  have hle : mcx w + 8 = mnx w → H.size ≤ base + mcx w := fun hf => Nat.le_trans hle0 (hfr hf)
  obtain ⟨idx, kd, Bs, hq, hBl, hrest, hcats, hcase⟩ := m_call_ok h
  have hpre := m_pre hX (As := z.2.1) hG hP hS hle
  have hvt : ∀ v : Option MV, (v.map (m_val (m_ad base roa))).toList ++ z.2.2.map (m_val (m_ad base roa)) = (v.toList ++ z.2.2).map (m_val (m_ad base roa)) := fun v => by cases v <;> simp
  have hW8 : ((z.2.2.map (m_val (m_ad base roa))).map (fun v => v.category)).sum ≤ 8 := by rw [m_cats_val]; exact hrest
  have hS4 : CallFix p m c (q_b mid) (q_nl mid) s args q_W (q_y mid).cls := ⟨hx, hb, hml, hown, hts⟩
  have fin : ∀ {st0 : List Value}, va_Run p l e R s m args below meth c H locs cells slots (mcx w1 - mcx w) (msl w1 - msl w) (F0 m pc ls st0) (z.2.2.map (m_val (m_ad base roa))) (m_Qc base roa tA D v w1 (z.2.1.map (m_val (m_ad base roa))).toArray) (fun q => base ≤ q) → W p l e R s m args below meth c H locs cells slots Q (F0 m pc ls st0) :=
    fun hr => m_callr hr hS (fun H1 locs1 hP1 hS1 => by rw [hvt]; exact kk H1 locs1 hP1 hS1)
  rcases hcase with ⟨rfl, hkd, hz, rfl⟩ | ⟨rfl, rfl, a, hz, rfl, ha8, han, hak, hrc⟩ | ⟨rfl, hkd, a, hz, rfl⟩
  · have hd3 := hd1 (by simp [m_len])
    rw [List.map_append, List.map_reverse]
    rw [hz] at fin hpre hok hcats
    have hg5 := q_m_ok hq (by omega)
    rcases hkd with rfl | rfl | rfl
    · have hcode := q_m_code hq (by omega) (by omega)
      have hM := m_met hg5 hcats h8 hnc (q_nh hq (by omega)) hok
      obtain ⟨hl1, hl2⟩ := q_m1 hq
      exact fin (va_runS hS4 hM ⟨callB_of _ hts (q_goodIn (fun w hw => (List.mem_cons.mp hw).elim (fun e => e ▸ hcode) id)) rfl rfl rfl (hts _ hg5.1) (hts _ hl1) hg5.2.1 ⟨hdR, by have := hg5.2.2.2; show 8 + (q_nl z.1 + 11) + 64 * d ≤ _; omega⟩, hts _ hl2⟩ hpre rfl (by rw [List.length_map]; exact hBl) hsz rfl (lv_room (m := m) (pc := pc) (ls := ls) (rest := []) hW8) hd3 ⟨hcR, hsR⟩)
    · have hcode := q_m_code hq (by omega) (by omega)
      have hM := m_met hg5 hcats h8 hnc (q_nh hq (by omega)) hok
      obtain ⟨⟨host, hl1⟩, hl2⟩ := q_m3 hq
      exact fin (va_runSN (host := host) hS4 hM ⟨va_cnB _ hts (q_goodIn (fun w hw => (List.mem_cons.mp hw).elim (fun e => e ▸ hcode) id)) rfl rfl rfl (hG.2.2.2.1 _ hl1) (hts _ hg5.1) hg5.2.1 ⟨hdR, by have := hg5.2.2.2; show 8 + (q_nl z.1 + 11) + 64 * d ≤ _; omega⟩, hts _ hl2, trivial⟩ hpre rfl (by rw [List.length_map]; exact hBl) hsz rfl (lv_room (m := m) (pc := pc) (ls := ls) (rest := []) hW8) hd3 ⟨hcR, hsR⟩)
    · obtain ⟨hl1, hl2, hcode⟩ := q_m7 hq
      have hM := m_met7 hC hg5 hcats h8 hnc hok
      exact fin (vx_runSW (hh := q_hh z.1) hS4 hM (vx_cwSW _ hts (q_goodIn (fun w hw => by
        unfold va_wsS at hw
        rcases List.mem_append.mp hw with hw | hw
        · simp only [List.mem_cons, List.not_mem_nil, or_false] at hw
          rcases hw with rfl | rfl | rfl
          · exact hl1
          · exact hl2
          · exact hg5.1
        · exact (List.mem_cons.mp hw).elim (fun e => e ▸ hcode) id)) rfl rfl rfl hg5.2.1 ⟨hdR, by have := hg5.2.2.2; show 8 + (q_nl z.1 + 11) + 64 * d ≤ _; omega⟩) hpre rfl (by rw [List.length_map]; exact hBl) hsz rfl (lv_room (m := m) (pc := pc) (ls := ls) (rest := []) hW8) hd3 ⟨hcR, hsR⟩)
  · have hd3 := hd1 (by simp [m_len])
    rw [List.map_append, List.map_reverse, List.map_cons]
    rw [hz] at fin hpre hok hcats
    have hg5 := q_m_ok hq (by omega)
    have hcode := q_m_code hq (by omega) (by omega)
    have hM := m_met hg5 hcats h8 hnc (q_nh hq (by omega)) hok
    obtain ⟨hl1, hl2, hl3, rc, T, N, hrc2, hcl⟩ := q_m0 hq
    cases hrc.symm.trans hrc2
    have he := m_ws_at (base := base) (roa := roa) (tA := tA) ha8 han
    rw [show msh w a = ((msh w a).1, (msh w a).2) from rfl, m_fld_cell hak] at he
    exact fin (va_runV hS4 hM ⟨callB_of _ hts (q_goodIn (fun w hw => (List.mem_cons.mp hw).elim (fun e => e ▸ hcode) id)) rfl rfl rfl (hts _ hg5.1) (hts _ hl1) hg5.2.1 ⟨hdR, by have := hg5.2.2.2; show 8 + (q_nl z.1 + 11) + 64 * d ≤ _; omega⟩, hts _ hl2, hts _ hl3⟩ ⟨hpre.1, va_recv hG.1 hP hcl he, hpre.2⟩ rfl (by rw [List.length_map]; exact hBl) hsz rfl (lv_room (m := m) (pc := pc) (ls := ls) (rest := []) hW8) hd3 ⟨hcR, hsR⟩)
  · have hd3 := hd1 (by simp [m_len])
    rw [List.map_append, List.map_reverse, List.map_cons]
    rw [hz] at fin hpre hok hcats
    have hg5 := q_m_ok hq (by omega)
    have hcode := q_m_code hq (by omega) (by omega)
    have hM := m_met hg5 hcats h8 hnc (q_nh hq (by omega)) hok
    rcases hkd with rfl | rfl
    · obtain ⟨⟨host, hl1⟩, hl2, hnm, hrt⟩ := q_m2 hq
      rw [hrt] at hcode
      have hw2 : m_wd z.1 = Cond.code (q_y z.1) (q_b z.1) (q_nl z.1) none :: q_W := by unfold m_wd; rw [hrt]
      exact fin (va_runIN (host := host) hS4 hM ⟨va_cnB _ hts (q_goodIn (fun w hw => by rw [hw2] at hw; exact (List.mem_cons.mp hw).elim (fun e => e ▸ hcode) id)) hw2 rfl rfl (hG.2.2.2.1 _ hl1) (hts _ hg5.1) hg5.2.1 ⟨hdR, by have := hg5.2.2.2; show 8 + (q_nl z.1 + 11) + 64 * d ≤ _; omega⟩, hnm, hts _ hl2⟩ hpre rfl (by rw [List.length_map]; exact hBl) hsz rfl (lv_room (m := m) (pc := pc) (ls := ls) (rest := []) hW8) hd3 ⟨hcR, hsR⟩)
    · obtain ⟨hl1, hl2, hnm, hrt⟩ := q_m6 hq
      rw [hrt] at hcode
      have hw2 : m_wd z.1 = Cond.code (q_y z.1) (q_b z.1) (q_nl z.1) none :: q_W := by unfold m_wd; rw [hrt]
      exact fin (va_runI hS4 hM ⟨callB_of _ hts (q_goodIn (fun w hw => by rw [hw2] at hw; exact (List.mem_cons.mp hw).elim (fun e => e ▸ hcode) id)) hw2 rfl rfl (hts _ hg5.1) (hts _ hl1) hg5.2.1 ⟨hdR, by have := hg5.2.2.2; show 8 + (q_nl z.1 + 11) + 64 * d ≤ _; omega⟩, hnm, hts _ hl2⟩ hpre rfl (by rw [List.length_map]; exact hBl) hsz rfl (lv_room (m := m) (pc := pc) (ls := ls) (rest := []) hW8) hd3 ⟨hcR, hsR⟩)
end MMAIN
end
section
section MSOUND
variable {l : Launch} {base : Nat} {roa : Nat → Nat} {ro : MRo} {tA : Nat → ClassId} {D : va_G} {tys : List (ClassId × FieldType)} {XF : State → Heap → Prop}
set_option maxHeartbeats 8000000 in
/-- THE JAVA MACHINE COMES WHERE THE SMALL MACHINE COMES -/
theorem m_sound (hX : m_X3 base XF) (hT : m_Throw l base XF) (hC : m_Catch l XF) : ∀ (n d mid pc : Nat) (L : ML) (st : List MV) (w : MWd) (o : MOut) (w' : MWd), m_run ro n d mid pc L st w = some (o, w') → m_Ok l base roa ro tA D tys XF d mid pc L st w o w' := by
  intro n
  induction n with
  | zero => intro d mid pc L st w o w' h; cases h
  | succ n ih =>
    intro d mid pc L st w o w' h p e R s m args below meth c H locs cells slots kc ks Z ls hx hb hml hown hts hin hG hl hP hS h8 hnc hfr hdR hdL hkR hsR hk1 hk2 hZr hZt hCt
    have go : ∀ (d' pc' : Nat) (L' : ML) (st' : List MV) (w1 : MWd) (H1 : Heap) (locs1 : List Loc) (cells1 slots1 : Nat) (ls' : Array Slot), m_run ro n d' mid pc' L' st' w1 = some (o, w') → d' = d → lv_has ls' (q_nl mid) (ml_val (m_ad base roa) L') → va_P D vwCl (m_ws base roa tA w1) H1 → va_S (fun q => base ≤ q) s.heap H1 locs1 → m_gr w w1 → (mcx w1 + 8 = mnx w1 → mcx w + 8 = mnx w) →
        cells1 = cells + (mcx w1 - mcx w) → slots1 = slots + (msl w1 - msl w) → W p l e R s m args below meth c H1 locs1 cells1 slots1 Z (F0 m pc' ls' (st'.map (m_val (m_ad base roa)))) := by
      intro d' pc' L' st' w1 H1 locs1 cells1 slots1 ls' hr hdd hl' hP1 hS1 hg hff ec es
      subst hdd
      have hg2 := m_run_gr ro _ _ _ _ _ _ _ _ hr
      obtain ⟨a1, a2, a3, a4⟩ := hg
      obtain ⟨b1, b2, b3, b4⟩ := hg2
      dsimp only at b1 b2 b3 b4
      refine ih _ _ _ _ _ _ _ _ hr p e R s m args below meth c H1 locs1 cells1 slots1 kc ks Z ls' hx hb hml hown hts hin hG hl' hP1 hS1 (Nat.le_trans h8 a1) (by omega) (fun hf => ?_) hdR hdL hkR hsR (by omega) (by omega) hZr hZt hCt
      have := hfr (hff hf)
      omega
    have gr := m_gr_rf w
    have ec : cells = cells + (mcx w - mcx w) := by omega
    have es : slots = slots + (msl w - msl w) := by omega
    unfold m_run at h
    split at h
    · rename_i E hth
      split at h
      · rename_i hc
        obtain ⟨h10, hst⟩ := hc
        subst hst
        cases h
        have e1 : mcx (m_thr w) - mcx w = 1 := by show w.2.1 + 1 - w.2.1 = 1; omega
        have e2 : msl (m_thr w) - msl w = 6 := by show w.2.2.1 + 6 - w.2.2.1 = 6; omega
        rw [e1] at hk1
        rw [e2] at hk2
        have hz := hZt E rfl pc ls H locs w hth rfl (hl.1.trans hml.symm) (by omega) (by omega) (by omega) (by omega) hP hS
        rw [show kc - 1 = cells by omega, show ks - 6 = slots by omega] at hz
        exact hz
      · cases h
    split at h
    · cases h
    rename_i hth i hi
    obtain ⟨len, hd, hn⟩ := q_i_ok hi
    split at h
    · rename_i r h1
      exact m_pure_W hx hb h1 hd hn hl (fun ls' hl' => go d _ _ _ w H locs cells slots ls' h rfl hl' hP hS gr id ec es)
    split at h
    · rename_i h0 r h1
      have hl2 := m_heap_len h1 hn
      obtain ⟨f1, f2, f3⟩ := m_heap_same h1
      refine m_heap_W hx hb hown hts hin hG.1 hG.2.1 hG.2.2.1 h1 hd hn hP hS (fun H1 locs1 hP1 hS1 => ?_)
      rw [hl2]
      exact go d _ _ _ r.2 H1 locs1 cells slots ls h rfl hl hP1 hS1 (m_heap_gr h1) (fun hf => by omega) (by omega) (by omega)
    split at h
    · rename_i h00 h0 r h1
      have hl2 := m_new_len h1 hn
      have hg2 := m_run_gr ro _ _ _ _ _ _ _ _ h
      obtain ⟨b1, b2, b3, b4⟩ := hg2
      obtain ⟨a1, a2, a3, a4⟩ := m_new_gr h1
      dsimp only at b1 b2 b3 b4
      refine m_new_W hx hb hown hts hG.1 hG.2.1 hG.2.2.2.2.1 h1 hd hn hP hS h8 hG.2.2.2.2.2.2 hfr (by omega) (by omega) (fun H1 hP1 hS1 => ?_)
      rw [hl2]
      exact go d _ _ _ r.2 H1 locs _ _ ls h rfl hl hP1 hS1 (m_new_gr h1) (fun _ => m_new_fresh h1) rfl rfl
    split at h
    · rename_i v h1
      cases h
      have hz := hZr v rfl i len pc ls H locs st h1 hd hn hP hS
      rw [show kc = cells by omega, show ks = slots by omega] at hz
      exact hz
    split at h
    · rename_i st' h1
      split at h
      · cases h
      · rename_i hd0
        obtain ⟨idx, cm, a, rfl, hq, rfl, hcat⟩ := m_obj_ok h1
        obtain ⟨g1, g2, g3⟩ := q_m5 hq
        have hd2 : decode (q_b mid) pc = .ok (.invokespecial idx, 3) := by
          rcases hn with hn | hn
          · rw [← hn] at hd; exact hd
          · exact absurd hn (by simp [m_len])
        refine W.objInit hx hb hown (hts _ g1) (hts _ g2) (hts _ g3) rfl (hl.1.trans hml.symm) rfl hd2 (by omega) ?_ (go d _ _ _ w H locs cells slots ls h rfl hl hP hS gr id ec es)
        show 2 * 0 + ((st'.map (m_val (m_ad base roa))).map fun v => v.category).sum + 12 ≤ R.locals
        rw [m_cats_val]
        omega
    split at h
    · rename_i v h1
      unfold m_con at h1
      have hd1 : m_len i ≠ 0 → decode (q_b mid) pc = .ok (i, m_len i) := fun h0 => by rw [hn.resolve_right h0]; exact hd
      split at h1
      · split at h1
        · rename_i hq
          cases h1
          rcases q_k_ok hq with ⟨x, hx1, hx2⟩ | ⟨x, hx1, hx2⟩
          · cases hx1
            exact lv_ldc hx hb hown (hts _ hx2) (hd1 (by simp [m_len])) (go d _ _ _ w H locs cells slots ls h rfl hl hP hS gr id ec es)
          · cases hx1
        · cases h1
      · split at h1
        · rename_i hq
          cases h1
          rcases q_k_ok hq with ⟨x, hx1, hx2⟩ | ⟨x, hx1, hx2⟩
          · cases hx1
            exact lv_ldcw hx hb hown (hts _ hx2) (hd1 (by simp [m_len])) (go d _ _ _ w H locs cells slots ls h rfl hl hP hS gr id ec es)
          · cases hx1
        · cases h1
      · split at h1
        · rename_i hq
          cases h1
          rcases q_k_ok hq with ⟨x, hx1, hx2⟩ | ⟨x, hx1, hx2⟩
          · cases hx1
          · cases hx1
            exact lv_ldc2 hx hb hown (hts _ hx2) (hd1 (by simp [m_len])) (go d _ _ _ w H locs cells slots ls h rfl hl hP hS gr id ec es)
        · cases h1
      · cases h1
    split at h
    · cases h
    rename_i z h1
    split at h
    · cases h
    rename_i d'
    split at h
    · cases h
    · rename_i v w1 h2
      have hg1 := m_run_gr ro _ _ _ _ _ _ _ _ h2
      have hg2 := m_run_gr ro _ _ _ _ _ _ _ _ h
      obtain ⟨a1, a2, a3, a4⟩ := hg1
      obtain ⟨b1, b2, b3, b4⟩ := hg2
      dsimp only at a1 a2 a3 a4 b1 b2 b3 b4
      exact m_callW hX hC hx hb hml hown hts hG hP hS h8 hnc hfr hdR hdL (by omega) (by omega) hl.1 h1 hd hn (ih _ _ _ _ _ _ _ _ h2)
        (fun H1 locs1 hP1 hS1 => go (d' + 1) _ _ _ w1 H1 locs1 _ _ ls h rfl hl hP1 hS1 ⟨a1, a2, a3, a4⟩ (fun hf => by omega) rfl rfl)
    · rename_i E w1 h2
      have hg1 := m_run_gr ro _ _ _ _ _ _ _ _ h2
      split at h
      · cases h
      · rename_i hh hq
        obtain ⟨idx, hi2⟩ := q_h_ok hq
        cases hi.symm.trans hi2
        have hg2 := m_run_gr ro _ _ _ _ _ _ _ _ h
        obtain ⟨a1, a2, a3, a4⟩ := hg1
        obtain ⟨b1, b2, b3, b4⟩ := hg2
        dsimp only at a1 a2 a3 a4 b1 b2 b3 b4
        have hd3 : decode (q_b mid) pc = .ok (.invokevirtual idx, 3) := by
          rcases hn with hn | hn
          · rw [← hn] at hd; exact hd
          · exact absurd hn (by simp [m_len])
        refine m_le fun hle0 => ?_
        have hle : mcx w + 8 = mnx w → H.size ≤ base + mcx w := fun hf => Nat.le_trans hle0 (hfr hf)
        obtain ⟨idx2, kd, Bs, hqm, hBl, hrest, hcats, hcase⟩ := m_call_ok h1
        rcases hcase with ⟨e1, -⟩ | ⟨e1, rfl, a, hz, rfl, ha8, han, hak, hrc⟩ | ⟨e1, -⟩
        · cases e1
        · cases e1
          have hpre := m_pre hX (As := z.2.1) hG hP hS hle
          have hW8 : ((z.2.2.map (m_val (m_ad base roa))).map (fun v => v.category)).sum ≤ 8 := by rw [m_cats_val]; exact hrest
          have hok := ih _ _ _ _ _ _ _ _ h2
          rw [List.map_append, List.map_reverse, List.map_cons]
          rw [hz] at hpre hok hcats
          have hg5 := q_m_ok hqm (by omega)
          have hcode := q_m_code hqm (by omega) (by omega)
          have hM := m_metx hT hg5 hcats h8 hnc (q_nh hqm (by omega)) ⟨a1, a2, a3, a4⟩ hok (fun _ _ _ _ => False)
          obtain ⟨hl1, hl2, hl3, rc, T, N, hrc2, hcl⟩ := q_m0 hqm
          cases hrc.symm.trans hrc2
          have he := m_ws_at (base := base) (roa := roa) (tA := tA) ha8 han
          rw [show msh w a = ((msh w a).1, (msh w a).2) from rfl, m_fld_cell hak] at he
          have hS4 : CallFix p m c (q_b mid) (q_nl mid) s args q_W (q_y mid).cls := ⟨hx, hb, hml, hown, hts⟩
          exact m_callx (vx_runV hS4 hM ⟨callB_of _ hts (q_goodIn (fun w hw => (List.mem_cons.mp hw).elim (fun e => e ▸ hcode) id)) rfl rfl rfl (hts _ hg5.1) (hts _ hl1) hg5.2.1 ⟨hdR, by have := hg5.2.2.2; show 8 + (q_nl z.1 + 11) + 64 * d' ≤ _; omega⟩, hts _ hl2, hts _ hl3⟩ ⟨hpre.1, va_recv hG.1 hP hcl he, hpre.2⟩ rfl (by rw [List.length_map]; exact hBl) hl.1 rfl (lv_room (m := m) (pc := pc) (ls := ls) (rest := []) hW8) hd3 ⟨by omega, by omega⟩) hS
            (fun H1 locs1 q ce hP1 hS1 hce hcv hcl2 => hCt pc E hh hq H1 locs1 _ _ L ls _ q ce hl hce hcv hcl2 (fun ls' hl' => go (d' + 1) _ _ [] w1 H1 locs1 _ _ ls' h rfl hl' hP1 hS1 ⟨a1, a2, a3, a4⟩ (fun hf => by omega) rfl rfl))
        · cases e1
end MSOUND
end
