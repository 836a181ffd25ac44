theorem x_atS2 : ∀ w ∈ Cond.classLink "SunHouse" 385 x_ISE :: Cond.initialized x_ISE :: vx_atS "SunHouse" 389 x_ISE x_up, vx_ot w = true := by decide +kernel
theorem x_kA : Cond.classLink "SunHouse" 149 x_IAE ∈ q_W := q_w_ok (pl := 1229) (by decide +kernel)
theorem x_kS : Cond.classLink "SunHouse" 385 x_ISE ∈ q_W := q_w_ok (pl := 1326) (by decide +kernel)
theorem x_iA : Cond.initialized x_IAE ∈ q_W := q_w_ok (pl := 112) (by decide +kernel)
theorem x_iS : Cond.initialized x_ISE ∈ q_W := q_w_ok (pl := 116) (by decide +kernel)
theorem x_lA : Cond.classLink "SunHouseLaw" 13 x_IAE ∈ q_W := q_w_ok (pl := 1224) (by decide +kernel)
theorem x_lS : Cond.classLink "SunHouseLaw" 22 x_ISE ∈ q_W := q_w_ok (pl := 1320) (by decide +kernel)
theorem x_th_mem {mid pc : Nat} {E : String} : ∀ {L : List (Nat × Nat × String)}, q_th3 L mid pc = some E → (mid, pc, E) ∈ L
  | [], h => by simp [q_th3] at h
  | (a, b, E') :: t, h => by
    unfold q_th3 at h
    cases hb : (Nat.beq a mid && Nat.beq b pc) with
    | true =>
      rw [hb] at h
      cases h
      rw [Bool.and_eq_true] at hb
      rw [Nat.eq_of_beq_eq_true hb.1, Nat.eq_of_beq_eq_true hb.2]
      exact List.mem_cons_self
    | false =>
      rw [hb] at h
      exact List.mem_cons_of_mem _ (x_th_mem h)
set_option maxHeartbeats 4000000 in
theorem x_ThrowG (l : Launch) (hfl : l.stackTraces = false) (base : Nat) : m_Throw l base (x_XG base) := by
  intro mid pc E hth p e R s m args below meth c H locs mc ms ls Qc XC hx hb hown hts hXF hbase hnt hlocks hf10 hl640 hmR hsR hm1 hs6 hsz hS hXC
  obtain ⟨h1, h2, ⟨a3, h3⟩, ⟨a4, h4⟩, ⟨a5, h5⟩, ⟨a6, h6⟩, h7, h8, h9, h10, h11, h12⟩ := hXF
  have hatA : ∀ w ∈ vx_atS "SunHouse" 153 x_IAE x_up, w.before args s = true := vx_hat (fun w hw => hts w (x_atA0 w hw)) x_atA1 (vx_c (va_Nw.use rfl h7) (vx_c (va_Nw.use rfl h10) (vx_c (va_Nw.use rfl h11) (vx_c (va_Nw.use rfl h12) vx_n))))
  have hatS : ∀ w ∈ vx_atS "SunHouse" 389 x_ISE x_up, w.before args s = true := vx_hat (fun w hw => hts w (x_atS0 w hw)) x_atS1 (vx_c (va_Nw.use rfl h8) (vx_c (va_Nw.use rfl h10) (vx_c (va_Nw.use rfl h11) (vx_c (va_Nw.use rfl h12) vx_n))))
  have hup : ∀ n ∈ x_up, Bundle.fit n = true := by decide +kernel
  have hR1 : x_up.length + 3 < R.frames := by show 2 + 3 < _; omega
  have hR2 : (([] : List Value).map fun v => v.category).sum + (13 * (x_up.length + 1) + 43) ≤ R.locals := by show 0 + (13 * (2 + 1) + 43) ≤ _; omega
  have hm := x_th_mem hth
  unfold q_tht at hm
  simp only [List.mem_cons, List.not_mem_nil, or_false, Prod.mk.injEq] at hm
  rcases hm with ⟨rfl, rfl, rfl⟩ | ⟨rfl, rfl, rfl⟩ | ⟨rfl, rfl, rfl⟩ | ⟨rfl, rfl, rfl⟩
  · exact vx_throwS (cc := q_b 109) (own := "SunHouse") (cls := x_IAE) (names := x_up) (ik := 149) (is := 151) (ic := 153) hx hb hfl hown (by decide +kernel) hup (hts _ x_kA) (hts _ x_iA) h3 hatA x_atA2 h1 h2 hS hsz (by decide +kernel) (by decide +kernel) (by decide +kernel) (by decide +kernel) (by decide +kernel) (fun x hx => (hnt x hx).elim) hR1 hR2 (by omega) (by omega) hlocks hXC (fun z hz => hS.2.2 z hz) (by omega) (by omega)
  · exact vx_throwSW (cc := q_b 132) (own := "SunHouse") (cls := x_IAE) (names := x_up) (ik := 149) (is := 320) (ic := 153) hx hb hfl hown (by decide +kernel) hup (hts _ x_kA) (hts _ x_iA) h4 hatA x_atA2 h1 h2 hS hsz (by decide +kernel) (by decide +kernel) (by decide +kernel) (by decide +kernel) (by decide +kernel) (fun x hx => (hnt x hx).elim) hR1 hR2 (by omega) (by omega) hlocks hXC (fun z hz => hS.2.2 z hz) (by omega) (by omega)
  · exact vx_throwSW (cc := q_b 142) (own := "SunHouse") (cls := x_IAE) (names := x_up) (ik := 149) (is := 380) (ic := 153) hx hb hfl hown (by decide +kernel) hup (hts _ x_kA) (hts _ x_iA) h5 hatA x_atA2 h1 h2 hS hsz (by decide +kernel) (by decide +kernel) (by decide +kernel) (by decide +kernel) (by decide +kernel) (fun x hx => (hnt x hx).elim) hR1 hR2 (by omega) (by omega) hlocks hXC (fun z hz => hS.2.2 z hz) (by omega) (by omega)
  · exact vx_throwSW (cc := q_b 142) (own := "SunHouse") (cls := x_ISE) (names := x_up) (ik := 385) (is := 387) (ic := 389) hx hb hfl hown (by decide +kernel) hup (hts _ x_kS) (hts _ x_iS) h6 hatS x_atS2 h1 h2 hS hsz (by decide +kernel) (by decide +kernel) (by decide +kernel) (by decide +kernel) (by decide +kernel) (fun x hx => (hnt x hx).elim) hR1 hR2 (by omega) (by omega) hlocks hXC (fun z hz => hS.2.2 z hz) (by omega) (by omega)
theorem m_drop_val (ad : Nat → Nat) (L : ML) (k : Nat) : ml_val ad (m_drop L k) = (ml_val ad L).filter (fun q => !(q.1 == k) && !(q.1 + 1 == k && q.2.category == 2)) := by
  simp only [ml_val, m_drop, List.filter_map, Function.comp_def, m_cat]
set_option maxHeartbeats 4000000 in
theorem x_CatchG (l : Launch) (base : Nat) : m_Catch l (x_XG base) := by
  intro mid pc E hh hq p e R s m args below meth c H locs cells slots Z ls rest q ce L ad hx hb hown hts hXF htab hl hce hcv hcl kk
  obtain ⟨-, -, -, -, -, -, h7, h8, h9, -⟩ := hXF
  have hm := q_h5_mem hq
  unfold q_htt at hm
  simp only [List.mem_cons, List.not_mem_nil, or_false, Prod.mk.injEq] at hm
  rcases hm with ⟨rfl, rfl, rfl, rfl⟩ | ⟨rfl, rfl, rfl, rfl⟩ | ⟨rfl, rfl, rfl, rfl⟩ | ⟨rfl, rfl, rfl, rfl⟩
  · refine vx_catch (own := "SunHouseLaw") (name := x_IAE) (E := x_IAE) hown [] ⟨0, 9, 12, 13⟩ [] (by rw [htab]; rfl) (fun z hz => by cases hz) (by decide) (by decide) (hts _ x_lA) (va_Nw.use rfl h7) hce hcv hcl ?_
    refine lv_astore (i := 4) (nL := q_nl 271) (cc := q_b 271) hx hb (by decide +kernel) hl (by decide +kernel) rfl (fun ls' hl' => kk ls' ⟨hl'.1, hl'.2.1, fun z hz => hl'.2.2 z (List.mem_cons_of_mem _ (by rw [m_drop_val] at hz; exact hz))⟩)
  · refine vx_catch (own := "SunHouseLaw") (name := x_IAE) (E := x_IAE) hown [] ⟨0, 11, 14, 13⟩ [] (by rw [htab]; rfl) (fun z hz => by cases hz) (by decide) (by decide) (hts _ x_lA) (va_Nw.use rfl h7) hce hcv hcl ?_
    refine lv_astore (i := 5) (nL := q_nl 272) (cc := q_b 272) hx hb (by decide +kernel) hl (by decide +kernel) rfl (fun ls' hl' => kk ls' ⟨hl'.1, hl'.2.1, fun z hz => hl'.2.2 z (List.mem_cons_of_mem _ (by rw [m_drop_val] at hz; exact hz))⟩)
  · refine vx_catch (own := "SunHouseLaw") (name := x_IAE) (E := x_IAE) hown [] ⟨0, 9, 12, 13⟩ [⟨0, 9, 16, 22⟩] (by rw [htab]; rfl) (fun z hz => by cases hz) (by decide) (by decide) (hts _ x_lA) (va_Nw.use rfl h7) hce hcv hcl ?_
    refine lv_astore (i := 4) (nL := q_nl 273) (cc := q_b 273) hx hb (by decide +kernel) hl (by decide +kernel) rfl (fun ls' hl' => kk ls' ⟨hl'.1, hl'.2.1, fun z hz => hl'.2.2 z (List.mem_cons_of_mem _ (by rw [m_drop_val] at hz; exact hz))⟩)
  · refine vx_catch (own := "SunHouseLaw") (name := x_ISE) (E := x_ISE) hown [⟨0, 9, 12, 13⟩] ⟨0, 9, 16, 22⟩ [] (by rw [htab]; rfl) (fun z hz => by
      rw [List.mem_singleton] at hz
      subst hz
      exact Or.inr ⟨by decide, x_IAE, hts _ x_lA, h9⟩) (by decide) (by decide) (hts _ x_lS) (va_Nw.use rfl h8) hce hcv hcl ?_
    refine lv_astore (i := 4) (nL := q_nl 273) (cc := q_b 273) hx hb (by decide +kernel) hl (by decide +kernel) rfl (fun ls' hl' => kk ls' ⟨hl'.1, hl'.2.1, fun z hz => hl'.2.2 z (List.mem_cons_of_mem _ (by rw [m_drop_val] at hz; exact hz))⟩)
