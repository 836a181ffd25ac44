abbrev x_dR : MethodName := ⟨"java/lang/RuntimeException", "<init>", "(Ljava/lang/String;)V"⟩
abbrev x_dE : MethodName := ⟨"java/lang/Exception", "<init>", "(Ljava/lang/String;)V"⟩
abbrev x_dT : MethodName := ⟨"java/lang/Throwable", "<init>", "(Ljava/lang/String;)V"⟩
def x_up : List String := ["java/lang/RuntimeException", "java/lang/Exception"]
abbrev x_IAE : String := "java/lang/IllegalArgumentException"
abbrev x_ISE : String := "java/lang/IllegalStateException"
/-- what the throws need of the machine: two statics of Throwable's, the texts, which class is which -/
def x_XG (base : Nat) (U : State) (H : Heap) : Prop := vx_Zq Bundle.tN "UNASSIGNED_STACK" Bundle.steD (fun q => base ≤ q) U H ∧ vx_Zq Bundle.tN "SUPPRESSED_SENTINEL" Bundle.listD (fun q => base ≤ q) U H ∧
  (∃ a, vk_R "SunHouse" 151 "no such part, or no such current" a U) ∧ (∃ a, vk_R "SunHouse" 320 "no such part, or no such cause" a U) ∧ (∃ a, vk_R "SunHouse" 380 "no such shelf" a U) ∧ (∃ a, vk_R "SunHouse" 387 "no row, or no such place in it" a U) ∧
  va_Nw (.castable x_IAE x_IAE) U ∧ va_Nw (.castable x_ISE x_ISE) U ∧ va_Nc x_ISE x_IAE U ∧ va_Nw (.declares x_dR) U ∧ va_Nw (.declares x_dE) U ∧ va_Nw (.declares x_dT) U
theorem x_XG3 (base : Nat) : m_X3 base (x_XG base) := by
  refine ⟨fun u U H hW h => ?_, fun u U H hv h => ?_, fun U H H1 ho hs h => ?_⟩
  · obtain ⟨h1, h2, ⟨a3, h3⟩, ⟨a4, h4⟩, ⟨a5, h5⟩, ⟨a6, h6⟩, h7, h8, h9, h10, h11, h12⟩ := h
    exact ⟨h1.moved hW.alike, h2.moved hW.alike, ⟨a3, vk_R.warm hW h3⟩, ⟨a4, vk_R.warm hW h4⟩, ⟨a5, vk_R.warm hW h5⟩, ⟨a6, vk_R.warm hW h6⟩, va_Nw.warmC hW h7, va_Nw.warmC hW h8, h9.moved hW.alike, va_Nw.warmD hW h10, va_Nw.warmD hW h11, va_Nw.warmD hW h12⟩
  · obtain ⟨h1, h2, ⟨a3, h3⟩, ⟨a4, h4⟩, ⟨a5, h5⟩, ⟨a6, h6⟩, h7, h8, h9, h10, h11, h12⟩ := h
    have hA : u.vm.Alike U.vm := by rw [hv]; exact Vm.Alike.refl _
    exact ⟨h1.moved hA, h2.moved hA, ⟨a3, vk_R.same hv.symm h3⟩, ⟨a4, vk_R.same hv.symm h4⟩, ⟨a5, vk_R.same hv.symm h5⟩, ⟨a6, vk_R.same hv.symm h6⟩, va_Nw.same rfl hv h7, va_Nw.same rfl hv h8, h9.moved hA, va_Nw.same rfl hv h10, va_Nw.same rfl hv h11, va_Nw.same rfl hv h12⟩
  · obtain ⟨h1, h2, h3⟩ := h
    exact ⟨h1.kept (fun a _ hn => ho a (Nat.lt_of_not_le hn)), h2.kept (fun a _ hn => ho a (Nat.lt_of_not_le hn)), h3⟩
/-- the static tables, where the program reads them -/
def x_ST (base : Nat) (roa : Nat → Nat) (U : State) (H : Heap) : Prop :=
  va_Z "SunHouse" "MOST_OF_CAUSE" "[I" (.ref (roa 1)) (fun q => base ≤ q) U H ∧ va_Z "SunHouse" "ORDERS_BEHIND_SET" "[I" (.ref (roa 2)) (fun q => base ≤ q) U H ∧
  va_Z "SunHouse" "EASTWARD" "[I" (.ref (roa 3)) (fun q => base ≤ q) U H ∧ va_Z "SunHouse" "NORTHWARD" "[I" (.ref (roa 4)) (fun q => base ≤ q) U H ∧
  va_Nw (.fieldLinkNest "SunHouse$Roof" 55 "SunHouse" "EASTWARD" "[I" "SunHouse") U ∧ va_Nw (.fieldLinkNest "SunHouse$Roof" 58 "SunHouse" "NORTHWARD" "[I" "SunHouse") U
def x_XF (base : Nat) (roa : Nat → Nat) (U : State) (H : Heap) : Prop := x_XG base U H ∧ x_ST base roa U H
theorem x_X3 (base : Nat) (roa : Nat → Nat) : m_X3 base (x_XF base roa) := by
  obtain ⟨g1, g2, g3⟩ := x_XG3 base
  refine ⟨fun u U H hW h => ?_, fun u U H hv h => ?_, fun U H H1 ho hs h => ?_⟩
  · obtain ⟨h0, h1, h2, h3, h4, h5, h6⟩ := h
    exact ⟨g1 u U H hW h0, h1.moved hW.alike, h2.moved hW.alike, h3.moved hW.alike, h4.moved hW.alike, va_Nw.warmF hW h5, va_Nw.warmF hW h6⟩
  · obtain ⟨h0, h1, h2, h3, h4, h5, h6⟩ := h
    have hA : u.vm.Alike U.vm := by rw [hv]; exact Vm.Alike.refl _
    exact ⟨g2 u U H hv h0, h1.moved hA, h2.moved hA, h3.moved hA, h4.moved hA, va_Nw.same rfl hv h5, va_Nw.same rfl hv h6⟩
  · obtain ⟨h0, h1, h2, h3, h4, h5⟩ := h
    have hk : ∀ a : Nat, a < H.size → ¬ base ≤ a → H1[a]? = H[a]? := fun a _ hn => ho a (Nat.lt_of_not_le hn)
    exact ⟨g3 U H H1 ho hs h0, h1.kept hk, h2.kept hk, h3.kept hk, h4.kept hk, h5⟩
theorem x_gM : Cond.fieldLink "SunHouse" 131 "SunHouse" "MOST_OF_CAUSE" "[I" ∈ q_W := q_w_ok (pl := 721) (by decide +kernel)
theorem x_gO : Cond.fieldLink "SunHouse" 322 "SunHouse" "ORDERS_BEHIND_SET" "[I" ∈ q_W := q_w_ok (pl := 1309) (by decide +kernel)
theorem x_Stat (l : Launch) (base : Nat) (roa : Nat → Nat) : m_Stat l base roa (x_XF base roa) := by
  intro mid pc idx a hq p e R s m args below meth c H locs cells slots Z ls rest hx hb hown hts hXF hS hdg kk
  obtain ⟨-, h1, h2, h3, h4, h5, h6⟩ := hXF
  have hm := q_s3_mem hq
  rw [q_cls] at hown
  unfold q_stt at hm
  simp only [List.mem_cons, List.not_mem_nil, or_false, Prod.mk.injEq] at hm
  rcases hm with ⟨e1, rfl, rfl⟩ | ⟨e1, rfl, rfl⟩ | ⟨e1, rfl, rfl⟩ | ⟨e1, rfl, rfl⟩
  · rw [e1] at hown
    exact va_gets hx hb (own := "SunHouse") h1 hS hown (hts _ x_gM) (fun x h => h) hdg kk
  · rw [e1] at hown
    exact va_getsN hx hb (own := "SunHouse$Roof") h3 hS hown (va_Nw.use rfl h5) (fun x h => h) hdg kk
  · rw [e1] at hown
    exact va_getsN hx hb (own := "SunHouse$Roof") h4 hS hown (va_Nw.use rfl h6) (fun x h => h) hdg kk
  · rw [e1] at hown
    exact va_gets hx hb (own := "SunHouse") h2 hS hown (hts _ x_gO) (fun x h => h) hdg kk
theorem x_atA0 : ∀ w ∈ (vx_atS "SunHouse" 153 x_IAE x_up).filter goodWord, w ∈ q_W := fun w hw => List.mem_filter.mpr ⟨(by decide +kernel : ∀ w ∈ (vx_atS "SunHouse" 153 x_IAE x_up).filter goodWord, w ∈ lw_tbl) w hw, (List.mem_filter.mp hw).2⟩
theorem x_atA1 : ∀ w ∈ (vx_atS "SunHouse" 153 x_IAE x_up).filter (fun w => !goodWord w), w ∈ [Cond.castable x_IAE x_IAE, Cond.declares x_dR, Cond.declares x_dE, Cond.declares x_dT] := by decide +kernel
theorem x_atA2 : ∀ w ∈ Cond.classLink "SunHouse" 149 x_IAE :: Cond.initialized x_IAE :: vx_atS "SunHouse" 153 x_IAE x_up, vx_ot w = true := by decide +kernel
theorem x_atS0 : ∀ w ∈ (vx_atS "SunHouse" 389 x_ISE x_up).filter goodWord, w ∈ q_W := fun w hw => List.mem_filter.mpr ⟨(by decide +kernel : ∀ w ∈ (vx_atS "SunHouse" 389 x_ISE x_up).filter goodWord, w ∈ lw_tbl) w hw, (List.mem_filter.mp hw).2⟩
theorem x_atS1 : ∀ w ∈ (vx_atS "SunHouse" 389 x_ISE x_up).filter (fun w => !goodWord w), w ∈ [Cond.castable x_ISE x_ISE, Cond.declares x_dR, Cond.declares x_dE, Cond.declares x_dT] := by decide +kernel
