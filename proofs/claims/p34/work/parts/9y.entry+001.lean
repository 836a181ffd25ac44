def x_roa (b t1 t2 t3 t4 : Nat) (k : Nat) : Nat := match k with
  | 0 => b
  | 1 => t1
  | 2 => t2
  | 3 => t3
  | _ => t4
theorem x_Tlt {ty : FieldType} {t N : Nat} {f : Nat → Value} {A : Nat → Prop} {U : State} {H : Heap} (h : va_T ty t N f A U H) : t < H.size := by
  obtain ⟨cell, h1, _⟩ := h
  exact (Array.getElem?_eq_some_iff.mp h1).1
theorem x_iSH : Cond.initialized "SunHouse" ∈ lw_tbl := List.mem_of_getElem? (i := 95) (by decide +kernel)
theorem x_l1 : Cond.laysStatic "SunHouse" "MOST_OF_CAUSE" "[I" ∈ lw_tbl := List.mem_of_getElem? (i := 722) (by decide +kernel)
theorem x_y1a : Cond.arrayOf (.static "SunHouse" "MOST_OF_CAUSE" "[I") .int ∈ flatC (Jvm.Cond.and given_1 narrow_1) := by decide +kernel
theorem x_y1l : Cond.eq (.length (.static "SunHouse" "MOST_OF_CAUSE" "[I")) (.int (Int32.ofNat 4)) ∈ flatC (Jvm.Cond.and given_1 narrow_1) := by decide +kernel
theorem x_y1e : ∀ j : Nat, j < 4 → Cond.eq (.elem (.static "SunHouse" "MOST_OF_CAUSE" "[I") (.int (Int32.ofNat j))) (.int (x_t 1 j)) ∈ flatC (Jvm.Cond.and given_1 narrow_1) := by decide +kernel
theorem x_l2 : Cond.laysStatic "SunHouse" "ORDERS_BEHIND_SET" "[I" ∈ lw_tbl := List.mem_of_getElem? (i := 1310) (by decide +kernel)
theorem x_y2a : Cond.arrayOf (.static "SunHouse" "ORDERS_BEHIND_SET" "[I") .int ∈ flatC (Jvm.Cond.and given_1 narrow_1) := by decide +kernel
theorem x_y2l : Cond.eq (.length (.static "SunHouse" "ORDERS_BEHIND_SET" "[I")) (.int (Int32.ofNat 4)) ∈ flatC (Jvm.Cond.and given_1 narrow_1) := by decide +kernel
theorem x_y2e : ∀ j : Nat, j < 4 → Cond.eq (.elem (.static "SunHouse" "ORDERS_BEHIND_SET" "[I") (.int (Int32.ofNat j))) (.int (x_t 2 j)) ∈ flatC (Jvm.Cond.and given_1 narrow_1) := by decide +kernel
theorem x_l3 : Cond.laysStatic "SunHouse" "EASTWARD" "[I" ∈ lw_tbl := List.mem_of_getElem? (i := 880) (by decide +kernel)
theorem x_y3a : Cond.arrayOf (.static "SunHouse" "EASTWARD" "[I") .int ∈ flatC (Jvm.Cond.and given_1 narrow_1) := by decide +kernel
theorem x_y3l : Cond.eq (.length (.static "SunHouse" "EASTWARD" "[I")) (.int (Int32.ofNat 8)) ∈ flatC (Jvm.Cond.and given_1 narrow_1) := by decide +kernel
theorem x_y3e : ∀ j : Nat, j < 8 → Cond.eq (.elem (.static "SunHouse" "EASTWARD" "[I") (.int (Int32.ofNat j))) (.int (x_t 3 j)) ∈ flatC (Jvm.Cond.and given_1 narrow_1) := by decide +kernel
theorem x_l4 : Cond.laysStatic "SunHouse" "NORTHWARD" "[I" ∈ lw_tbl := List.mem_of_getElem? (i := 882) (by decide +kernel)
theorem x_y4a : Cond.arrayOf (.static "SunHouse" "NORTHWARD" "[I") .int ∈ flatC (Jvm.Cond.and given_1 narrow_1) := by decide +kernel
theorem x_y4l : Cond.eq (.length (.static "SunHouse" "NORTHWARD" "[I")) (.int (Int32.ofNat 8)) ∈ flatC (Jvm.Cond.and given_1 narrow_1) := by decide +kernel
theorem x_y4e : ∀ j : Nat, j < 8 → Cond.eq (.elem (.static "SunHouse" "NORTHWARD" "[I") (.int (Int32.ofNat j))) (.int (x_t 4 j)) ∈ flatC (Jvm.Cond.and given_1 narrow_1) := by decide +kernel
theorem x_nE : Cond.fieldLinkNest "SunHouse$Roof" 55 "SunHouse" "EASTWARD" "[I" "SunHouse" ∈ lw_tbl := List.mem_of_getElem? (i := 879) (by decide +kernel)
theorem x_nO : Cond.fieldLinkNest "SunHouse$Roof" 58 "SunHouse" "NORTHWARD" "[I" "SunHouse" ∈ lw_tbl := List.mem_of_getElem? (i := 881) (by decide +kernel)
/-- the machine at the law's entry -/
theorem x_entry {p : Program} {s : State} {m : MethodId} {meth : Method} {c : Code} {b L : Nat} {xs : Nat → Int32} (C0 : lw_At p s m meth c b L xs) :
    ∃ (D : va_G) (tA : Nat → ClassId) (tys : List (ClassId × FieldType)) (t1 t2 t3 t4 : Nat), m_G s.heap.size (x_roa b t1 t2 t3 t4) (x_ro L xs) tA D tys (x_XF s.heap.size (x_roa b t1 t2 t3 t4)) s s.heap := by
  obtain ⟨hx, hb, hr, hml, hown, hts, hX, hbl, hlocks, hgv⟩ := C0
  have hq : ∀ w ∈ q_W, w.before #[Value.ref b] s = true := fun w hw => hts w (List.mem_filter.mp hw).1
  have hfl := flat_of_before _ hgv
  have h2 : ∀ k : Nat, ∃ z : ClassId × (Nat → Nat), ∀ q : vw_C, vwCl[k]? = some q → u_Kn s q.1 q.2.1 q.2.2 z.1 z.2 := by
    intro k
    cases hk : vwCl[k]? with
    | none => exact ⟨(0, fun _ => 0), fun q h => by cases h⟩
    | some q =>
      have hlt : k < 13 := (List.getElem?_eq_some_iff.mp hk).1
      have hi := List.all_eq_true.mp x_inst k (List.mem_range.mpr hlt)
      rw [hk] at hi
      obtain ⟨C, T, N⟩ := q
      obtain ⟨-, -, hws, -⟩ := q_cl_ok hk
      obtain ⟨cC, iS, hu⟩ := u_known hq hws (hq _ (q_w_ok hi))
      exact ⟨(cC, iS), fun q' h' => by cases h'; exact hu⟩
  have hD : ∀ (k : Nat) (q : vw_C), vwCl[k]? = some q → u_Kn s q.1 q.2.1 q.2.2 (h2 k).choose.1 (h2 k).choose.2 := fun k q hk => (h2 k).choose_spec q hk
  obtain ⟨cI, kI, compI, i1, i2, i3⟩ := Cond.arrayClass_spec (hq _ q_ai_ok.1)
  obtain ⟨cL, kL, compL, l1, l2, l3⟩ := Cond.arrayClass_spec (hq _ q_ai_ok.2)
  obtain ⟨comp8, c8, k8, a1, a2, a3, a4, a5⟩ := Cond.arrayOver_spec (hts _ x_ao8)
  obtain ⟨comp7, c7, k7, b1, b2, b3, b4, b5⟩ := Cond.arrayOver_spec (hts _ x_ao7)
  have hcur : s.vm.findClass "SunHouse" = some (h2 11).choose.1 := (hD 11 _ (show vwCl[11]? = some (RX11, TX11, 10) from rfl)).2.1
  obtain ⟨t1, e1, T1⟩ := va_Tof (tm := .static "SunHouse" "MOST_OF_CAUSE" "[I") (ty := .int) (N := 4) (f := fun j => Value.int (x_t 1 j)) (A := fun q => s.heap.size ≤ q) (by decide) (hfl _ x_y1a) (va_eqt (hfl _ x_y1l)) (fun j hj => va_eqt (hfl _ (x_y1e j hj))) (fun a ha => Nat.not_le.mpr ha)
  obtain ⟨t2, e2, T2⟩ := va_Tof (tm := .static "SunHouse" "ORDERS_BEHIND_SET" "[I") (ty := .int) (N := 4) (f := fun j => Value.int (x_t 2 j)) (A := fun q => s.heap.size ≤ q) (by decide) (hfl _ x_y2a) (va_eqt (hfl _ x_y2l)) (fun j hj => va_eqt (hfl _ (x_y2e j hj))) (fun a ha => Nat.not_le.mpr ha)
  obtain ⟨t3, e3, T3⟩ := va_Tof (tm := .static "SunHouse" "EASTWARD" "[I") (ty := .int) (N := 8) (f := fun j => Value.int (x_t 3 j)) (A := fun q => s.heap.size ≤ q) (by decide) (hfl _ x_y3a) (va_eqt (hfl _ x_y3l)) (fun j hj => va_eqt (hfl _ (x_y3e j hj))) (fun a ha => Nat.not_le.mpr ha)
  obtain ⟨t4, e4, T4⟩ := va_Tof (tm := .static "SunHouse" "NORTHWARD" "[I") (ty := .int) (N := 8) (f := fun j => Value.int (x_t 4 j)) (A := fun q => s.heap.size ≤ q) (by decide) (hfl _ x_y4a) (va_eqt (hfl _ x_y4l)) (fun j hj => va_eqt (hfl _ (x_y4e j hj))) (fun a ha => Nat.not_le.mpr ha)
  refine ⟨(fun k => (h2 k).choose.1, fun k => (h2 k).choose.2), x_tA cI cL c8 c7, [(cI, .int), (cL, .long), (c8, .object "SunHouse$Shelf"), (c7, .object "SunHouse$Seeker")], t1, t2, t3, t4, ⟨hD, ?_⟩, ⟨rfl, rfl, ?_⟩, ?_, ?_, ?_, ⟨⟨?_, ?_, ?_, ?_, ?_, ?_, ?_, ?_, ?_, ?_, ?_, ?_⟩, ⟨?_, ?_, ?_, ?_, ?_, ?_⟩⟩, Nat.le_refl _⟩
  · intro k q hk
    match k, hk with
    | 0, hk => cases hk; exact ⟨fun n z => ⟨fun k h => (by cases h), kI, i2, compI, i3⟩, i1⟩
    | 1, hk => cases hk; exact ⟨fun n z => ⟨fun k h => (by cases h), kL, l2, compL, l3⟩, l1⟩
    | 2, hk => cases hk; exact ⟨fun n z => ⟨fun k h => (by cases h), k8, a3, comp8, a4⟩, k8, comp8, a3, a4, a1, a5⟩
    | 3, hk => cases hk; exact ⟨fun n z => ⟨fun k h => (by cases h), k7, b3, comp7, b4⟩, k7, comp7, b3, b4, b1, b5⟩
    | k + 4, hk => cases hk
  · intro ci hci
    have hc2 : ci = 7 ∨ ci = 8 := by
      unfold q_ra at hci
      rw [Bool.or_eq_true] at hci
      rcases hci with h | h
      · exact Or.inl (Nat.eq_of_beq_eq_true h)
      · exact Or.inr (Nat.eq_of_beq_eq_true h)
    rcases hc2 with rfl | rfl
    · exact ⟨3, _, _, _, rfl, rfl⟩
    · exact ⟨2, _, _, _, rfl, rfl⟩
  · intro a n f ha hf
    have hcs : a = 0 ∨ a = 1 ∨ a = 2 ∨ a = 3 ∨ a = 4 ∨ 5 ≤ a := by omega
    rcases hcs with rfl | rfl | rfl | rfl | rfl | h5
    · cases (show some (L, xs) = some (n, f) from hf)
      obtain ⟨cell, k1, k2, k3, k4, k5⟩ := hX
      exact ⟨⟨cell, k1, k2, k3, Nat.le_of_eq k4.symm, by rw [k4], k5, Nat.not_le.mpr hbl⟩, hbl, Nat.not_le.mpr hbl⟩
    · cases (show some (4, x_t 1) = some (n, f) from hf)
      exact ⟨T1, x_Tlt T1, Nat.not_le.mpr (x_Tlt T1)⟩
    · cases (show some (4, x_t 2) = some (n, f) from hf)
      exact ⟨T2, x_Tlt T2, Nat.not_le.mpr (x_Tlt T2)⟩
    · cases (show some (8, x_t 3) = some (n, f) from hf)
      exact ⟨T3, x_Tlt T3, Nat.not_le.mpr (x_Tlt T3)⟩
    · cases (show some (8, x_t 4) = some (n, f) from hf)
      exact ⟨T4, x_Tlt T4, Nat.not_le.mpr (x_Tlt T4)⟩
    · unfold x_ro at hf
      rw [if_neg (by omega), if_neg (by omega), if_neg (by omega), if_neg (by omega), if_neg (by omega)] at hf
      cases hf
  · exact fun q hq2 => va_Nw.of rfl (hts _ (x_nest_in hq2))
  · intro ci C T N hci hcl
    have hc2 : ci = 7 ∨ ci = 8 := by
      unfold q_ra at hci
      rw [Bool.or_eq_true] at hci
      rcases hci with h | h
      · exact Or.inl (Nat.eq_of_beq_eq_true h)
      · exact Or.inr (Nat.eq_of_beq_eq_true h)
    rcases hc2 with rfl | rfl
    · cases hcl; exact va_AO.of (hts _ x_ao7)
    · cases hcl; exact va_AO.of (hts _ x_ao8)
  · exact vx_Zqof (hts _ x_lU) (hts _ x_iT) (hfl _ x_nU) (fun a ha => Nat.not_le.mpr ha)
  · exact vx_Zqof (hts _ x_lN) (hts _ x_iT) (hfl _ x_nN) (fun a ha => Nat.not_le.mpr ha)
  · exact x_str hcur (hts _ x_s1)
  · exact x_str hcur (hts _ x_s2)
  · exact x_str hcur (hts _ x_s3)
  · exact x_str hcur (hts _ x_s4)
  · exact va_Nw.of rfl (hts _ x_cA)
  · exact va_Nw.of rfl (hts _ x_cS)
  · exact va_Nc.of (hfl _ x_nC)
  · exact va_Nw.of rfl (hts _ x_wR)
  · exact va_Nw.of rfl (hts _ x_wE)
  · exact va_Nw.of rfl (hts _ x_wT)
  · exact va_Zref (hts _ x_l1) (hts _ x_iSH) e1 (fun a ha => Nat.not_le.mpr ha)
  · exact va_Zref (hts _ x_l2) (hts _ x_iSH) e2 (fun a ha => Nat.not_le.mpr ha)
  · exact va_Zref (hts _ x_l3) (hts _ x_iSH) e3 (fun a ha => Nat.not_le.mpr ha)
  · exact va_Zref (hts _ x_l4) (hts _ x_iSH) e4 (fun a ha => Nat.not_le.mpr ha)
  · exact va_Nw.of rfl (hts _ x_nE)
  · exact va_Nw.of rfl (hts _ x_nO)
