section
theorem q_ff_row {mid idx : Nat} {v : Nat × Nat × Nat × Bool × Bool} (h : q_ff mid idx = some v) : q_fchk (q_oc mid) (idx, v) = true := by
  exact q_all (q_ft_ok (q_oc mid)) (q_find_mem h)
theorem q_f_ff {mid idx ci k : Nat} (h : q_f mid idx = some (ci, k)) : ∃ v, q_ff mid idx = some v ∧ v.1 = ci ∧ v.2.1 = k := by
  unfold q_f at h
  split at h
  · rename_i v hv
    cases h
    exact ⟨v, hv, rfl, rfl⟩
  · cases h
theorem q_f_ok {mid idx ci k : Nat} (h : q_f mid idx = some (ci, k)) : ∃ (C : String) (T : u_T) (N : Nat), vwCl[ci]? = some (C, T, N) ∧ k < N ∧ Cond.fieldLink (q_y mid).cls idx (T k).1 (T k).2.1 (T k).2.2.1 ∈ q_W := by
  obtain ⟨v, hv, rfl, rfl⟩ := q_f_ff h
  have hr := q_ff_row hv
  unfold q_fchk at hr
  dsimp only at hr
  split at hr
  · rename_i q hq
    simp only [Bool.and_eq_true] at hr
    have hw : Cond.fieldLink (q_cn.getD (q_oc mid) "") idx ((q_vc v.1).2.1 v.2.1).1 ((q_vc v.1).2.1 v.2.1).2.1 ((q_vc v.1).2.1 v.2.1).2.2.1 ∈ q_W := q_has_ok hr.1.1.2
    rw [q_vc_eq hq, ← q_cls] at hw
    exact ⟨q.1, q.2.1, q.2.2, hq, Nat.le_of_ble_eq_true hr.1.1.1, hw⟩
  · cases hr
theorem q_pf_ok {mid idx ci k : Nat} {C : String} {T : u_T} {N : Nat} (h : q_f mid idx = some (ci, k)) (h2 : q_pf mid idx = true) (h3 : vwCl[ci]? = some (C, T, N)) : (T k).2.2.2 = false ∨ ((T k).2.2.2 = true ∧ (q_y mid).name = "<init>" ∧ (T k).1 = (q_y mid).cls) := by
  obtain ⟨v, hv, rfl, rfl⟩ := q_f_ff h
  have hr := q_ff_row hv
  unfold q_fchk at hr
  dsimp only at hr
  rw [h3] at hr
  simp only [Bool.and_eq_true, Bool.or_eq_true, decide_eq_true_eq] at hr
  obtain ⟨⟨⟨-, -⟩, r3⟩, r4⟩ := hr
  unfold q_pf at h2
  rw [hv] at h2
  simp only [Bool.or_eq_true, Bool.and_eq_true] at h2
  rcases h2 with h2 | ⟨h2, h5⟩
  · left
    rw [← r3]
    simpa using h2
  · cases hb : (T v.2.1).2.2.2 with
    | false => exact Or.inl rfl
    | true => exact Or.inr ⟨rfl, q_ini_ok h2, (r4.resolve_left (by rw [h5]; decide)).trans (q_cls mid).symm⟩
theorem q_c_ok {mid idx ci : Nat} (h : q_c mid idx = some ci) : ∃ (C : String) (T : u_T) (N : Nat), vwCl[ci]? = some (C, T, N) ∧ Cond.classLink (q_y mid).cls idx C ∈ q_W ∧ Cond.instantiable C N ∈ q_W ∧ Cond.initialized C ∈ q_W := by
  unfold q_c at h
  split at h
  · rename_i v hv
    cases h
    have hr := q_all (q_clt_ok (q_oc mid)) (q_find_mem hv)
    unfold q_clchk at hr
    dsimp only at hr
    split at hr
    · rename_i q hq
      simp only [Bool.and_eq_true] at hr
      obtain ⟨⟨⟨h1, h2⟩, h3⟩, h4⟩ := hr
      obtain ⟨T, N, hv⟩ := q_vcn v.1 (Nat.le_of_ble_eq_true h1)
      rw [hq] at hv
      cases hv
      have w2 : Cond.classLink (q_cn.getD (q_oc mid) "") idx (q_vc v.1).1 ∈ q_W := q_has_ok h2
      have w3 : Cond.instantiable (q_vc v.1).1 N ∈ q_W := q_has_ok h3
      have w4 : Cond.initialized (q_cn.getD v.1 "") ∈ q_W := q_has_ok h4
      rw [q_vc_eq hq] at w2 w3
      rw [q_cls]
      exact ⟨_, _, _, hq, w2, w3, w4⟩
    · cases hr
  · cases h
theorem q_ca_ok {mid idx ci : Nat} (h : q_ca mid idx = some ci) : q_ra ci = true ∧ ∃ (C : String) (T : u_T) (N : Nat), vwCl[ci]? = some (C, T, N) ∧ Cond.classLink (q_y mid).cls idx C ∈ q_W := by
  unfold q_ca at h
  split at h
  · rename_i v hv
    cases h
    have hr := q_all (q_cat_ok (q_oc mid)) (q_find_mem hv)
    unfold q_cachk at hr
    simp only [Bool.and_eq_true] at hr
    obtain ⟨T, N, h2⟩ := q_vcn v.1 (Nat.le_of_ble_eq_true hr.1.1)
    have w : Cond.classLink (q_cn.getD (q_oc mid) "") idx (q_vc v.1).1 ∈ q_W := q_has_ok hr.2
    rw [q_vc_eq h2, ← q_cls] at w
    exact ⟨hr.1.2, _, T, N, h2, w⟩
  · cases h
theorem q_k_ok {mid idx : Nat} {v : MV} (h : q_k mid idx = some v) : (∃ x, v = .inl x ∧ Cond.constant (q_y mid).cls idx x ∈ q_W) ∨ (∃ x, v = .inr (.inl x) ∧ Cond.constantLong (q_y mid).cls idx x ∈ q_W) := by
  unfold q_k at h
  split at h
  · rename_i z hz
    have hr := q_all (q_kt_ok (q_oc mid)) (q_find_mem hz)
    unfold q_kchk at hr
    dsimp only at hr
    rw [q_cls]
    cases hb : z.2.1 with
    | true =>
      rw [hb] at h hr
      cases h
      exact Or.inr ⟨_, rfl, q_w_ok hr⟩
    | false =>
      rw [hb] at h hr
      cases h
      exact Or.inl ⟨_, rfl, q_w_ok hr⟩
  · cases h
/-- what the words say of a method -/
def q_good (cm : Nat) : Prop := Cond.initialized (q_y cm).cls ∈ q_W ∧ ((q_y cm).cls ≠ "java/lang/invoke/MethodHandle" ∧ (q_y cm).cls ≠ "java/lang/invoke/VarHandle" ∧ (parseMethodDescriptor (q_y cm).desc).map (fun d => d.parameters.length) = some (q_np cm)) ∧ plainName (q_y cm).cls = true ∧ q_nl cm ≤ 45
theorem q_gchk_ok {cm : Nat} (h : q_gchk cm = true) : q_good cm := by
  unfold q_gchk at h
  simp only [Bool.and_eq_true] at h
  have hs := q_sok_r h.1.1
  unfold q_sok at hs
  rw [Bool.and_eq_true] at hs
  have w : Cond.initialized (q_cn.getD (q_oc cm) "") ∈ q_W := q_has_ok h.1.2
  rw [← q_cls] at w
  exact ⟨w, of_decide_eq_true hs.1, hs.2, Nat.le_of_ble_eq_true h.2⟩
theorem q_m_row {mid idx cm kd : Nat} (h : q_m mid idx = some (cm, kd)) : ∃ p1 p2 p3 p4, q_mchk (q_oc mid) (idx, cm, kd, p1, p2, p3, p4) = true := by
  unfold q_m at h
  split at h
  · rename_i v hv
    obtain ⟨a, b, p1, p2, p3, p4⟩ := v
    cases h
    exact ⟨p1, p2, p3, p4, q_all (q_ct_ok (q_oc mid)) (q_find_mem hv)⟩
  · cases h
theorem q_m_ok {mid idx cm kd : Nat} (h : q_m mid idx = some (cm, kd)) (h5 : kd ≠ 5) (h9 : kd < 9) : q_good cm := by
  obtain ⟨p1, p2, p3, p4, hr⟩ := q_m_row h
  unfold q_mchk at hr
  dsimp only at hr
  split at hr
  all_goals (first | (simp only [Bool.and_eq_true] at hr; exact q_gchk_ok hr.1.1.1.1.1.1) | (simp only [Bool.and_eq_true] at hr; exact q_gchk_ok hr.1.1.1.1.1) | (simp only [Bool.and_eq_true] at hr; exact q_gchk_ok hr.1.1.1.1) | (simp only [Bool.and_eq_true] at hr; exact q_gchk_ok hr.1.1.1) | exact absurd rfl h5 | exact absurd h9 (by decide) | cases hr)
theorem q_m_code {mid idx cm kd : Nat} (h : q_m mid idx = some (cm, kd)) (h5 : kd ≠ 5) (h7 : kd ≠ 7) (h9 : kd < 9) : Cond.code (q_y cm) (q_b cm) (q_nl cm) (q_rt cm) ∈ q_W := by
  obtain ⟨p1, p2, p3, p4, hr⟩ := q_m_row h
  unfold q_mchk at hr
  dsimp only at hr
  split at hr
  all_goals (first | exact absurd rfl h5 | exact absurd rfl h7 | exact absurd h9 (by decide) | (simp only [Bool.and_eq_true] at hr; exact (q_has_ok (show q_has 4 cm 0 0 0 _ = true from hr.1.1.1.1.2) : q_cw 4 cm 0 0 0 ∈ q_W)) | (simp only [Bool.and_eq_true] at hr; exact (q_has_ok (show q_has 4 cm 0 0 0 _ = true from hr.1.1.1.2) : q_cw 4 cm 0 0 0 ∈ q_W)) | (simp only [Bool.and_eq_true] at hr; exact (q_has_ok (show q_has 4 cm 0 0 0 _ = true from hr.1.1.2) : q_cw 4 cm 0 0 0 ∈ q_W)) | cases hr)
theorem q_htt_no {cm : Nat} (h : q_nhchk cm = true) (pc : Nat) (E : String) : q_h cm pc E = none := by
  have key : ∀ L : List (Nat × Nat × String × Nat × Nat), L.all (fun x => !Nat.beq x.1 cm) = true → q_h5 L cm pc E = none := by
    intro L
    induction L with
    | nil => intro _; rfl
    | cons x t ih =>
      intro hL
      rw [List.all_cons, Bool.and_eq_true] at hL
      obtain ⟨a, b, E', z⟩ := x
      unfold q_h5
      rw [if_neg]
      · exact ih hL.2
      · rintro ⟨rfl, -⟩
        have := hL.1
        simp at this
  exact key _ h
theorem q_nh {mid idx cm kd : Nat} (h : q_m mid idx = some (cm, kd)) (h5 : kd ≠ 5) (h7 : kd ≠ 7) (h9 : kd < 9) (pc : Nat) (E : String) : q_h cm pc E = none := by
  obtain ⟨p1, p2, p3, p4, hr⟩ := q_m_row h
  refine q_htt_no ?_ pc E
  unfold q_mchk at hr
  dsimp only at hr
  split at hr
  all_goals (first | exact absurd rfl h5 | exact absurd rfl h7 | exact absurd h9 (by decide) | (simp only [Bool.and_eq_true] at hr; exact hr.1.1.1.1.1.2) | (simp only [Bool.and_eq_true] at hr; exact hr.1.1.1.1.2) | (simp only [Bool.and_eq_true] at hr; exact hr.1.1.1.2) | cases hr)
theorem q_mlk {mid idx cm pl : Nat} (h : q_has 0 (q_oc mid) idx cm 0 pl = true) : Cond.methodLink (q_y mid).cls idx (q_y cm) ∈ q_W := by
  rw [q_cls]
  exact (q_has_ok h : q_cw 0 (q_oc mid) idx cm 0 ∈ q_W)
theorem q_h1 {cm pl : Nat} (h : q_has 1 cm 0 0 0 pl = true) : Cond.instanceMethod (q_y cm) ∈ q_W := (q_has_ok h : q_cw 1 cm 0 0 0 ∈ q_W)
theorem q_h2 {cm pl : Nat} (h : q_has 2 cm 0 0 0 pl = true) : Cond.static (q_y cm) ∈ q_W := (q_has_ok h : q_cw 2 cm 0 0 0 ∈ q_W)
theorem q_h3 {cm pl : Nat} (h : q_has 3 cm 0 0 0 pl = true) : Cond.selects (q_y cm).cls (q_y cm) (q_y cm) ∈ q_W := (q_has_ok h : q_cw 3 cm 0 0 0 ∈ q_W)
theorem q_h5w {cm pl : Nat} (h : q_has 5 cm 0 0 0 pl = true) : Cond.codeWith (q_y cm) (q_b cm) (q_nl cm) (q_rt cm) (q_hh cm) ∈ q_W := (q_has_ok h : q_cw 5 cm 0 0 0 ∈ q_W)
theorem q_m0 {mid idx cm : Nat} (h : q_m mid idx = some (cm, 0)) : Cond.methodLink (q_y mid).cls idx (q_y cm) ∈ q_W ∧ Cond.instanceMethod (q_y cm) ∈ q_W ∧ Cond.selects (q_y cm).cls (q_y cm) (q_y cm) ∈ q_W ∧ ∃ (rc : Nat) (T : u_T) (N : Nat), q_rc cm = some rc ∧ vwCl[rc]? = some ((q_y cm).cls, T, N) := by
  obtain ⟨p1, p2, p3, p4, hr⟩ := q_m_row h
  unfold q_mchk at hr
  dsimp only at hr
  simp only [Bool.and_eq_true] at hr
  obtain ⟨⟨⟨⟨-, h1⟩, h2⟩, h3⟩, h4⟩ := hr
  refine ⟨q_mlk h1, q_h1 h2, q_h3 h3, ?_⟩
  split at h4
  · rename_i rc hrc
    rw [Bool.and_eq_true] at h4
    have e := Nat.eq_of_beq_eq_true h4.1
    subst e
    obtain ⟨T, N, hv⟩ := q_vcn (q_oc cm) (Nat.le_of_ble_eq_true h4.2)
    rw [← q_cls] at hv
    exact ⟨_, T, N, hrc, hv⟩
  · cases h4
theorem q_m1 {mid idx cm : Nat} (h : q_m mid idx = some (cm, 1)) : Cond.methodLink (q_y mid).cls idx (q_y cm) ∈ q_W ∧ Cond.static (q_y cm) ∈ q_W := by
  obtain ⟨p1, p2, p3, p4, hr⟩ := q_m_row h
  unfold q_mchk at hr
  dsimp only at hr
  simp only [Bool.and_eq_true] at hr
  exact ⟨q_mlk hr.1.2, q_h2 hr.2⟩
theorem q_nchk_ok {cn : String} {idx cm : Nat} (h : q_nchk cn idx cm = true) : ∃ host, (cn, idx, q_y cm, host) ∈ q_N := by
  unfold q_nchk at h
  obtain ⟨q, hq, h2⟩ := List.any_eq_true.mp h
  obtain ⟨a, b, c, host⟩ := q
  obtain ⟨rfl, rfl, rfl⟩ := of_decide_eq_true h2
  exact ⟨host, hq⟩
theorem q_m2 {mid idx cm : Nat} (h : q_m mid idx = some (cm, 2)) : (∃ host, ((q_y mid).cls, idx, q_y cm, host) ∈ q_N) ∧ Cond.instanceMethod (q_y cm) ∈ q_W ∧ (q_y cm).name = "<init>" ∧ q_rt cm = none := by
  obtain ⟨p1, p2, p3, p4, hr⟩ := q_m_row h
  unfold q_mchk at hr
  dsimp only at hr
  simp only [Bool.and_eq_true] at hr
  obtain ⟨⟨⟨-, h1⟩, h2⟩, h3⟩ := hr
  rw [q_cls]
  exact ⟨q_nchk_ok h1, q_h1 h2, of_decide_eq_true h3⟩
theorem q_m3 {mid idx cm : Nat} (h : q_m mid idx = some (cm, 3)) : (∃ host, ((q_y mid).cls, idx, q_y cm, host) ∈ q_N) ∧ Cond.static (q_y cm) ∈ q_W := by
  obtain ⟨p1, p2, p3, p4, hr⟩ := q_m_row h
  unfold q_mchk at hr
  dsimp only at hr
  simp only [Bool.and_eq_true] at hr
  rw [q_cls]
  exact ⟨q_nchk_ok hr.1.2, q_h2 hr.2⟩
theorem q_m5 {mid idx cm : Nat} (h : q_m mid idx = some (cm, 5)) : Cond.methodLink (q_y mid).cls idx Lib.objectInit ∈ q_W ∧ Cond.instanceMethod Lib.objectInit ∈ q_W ∧ Cond.code Lib.objectInit ⟨#[0xb1]⟩ 1 none ∈ q_W := by
  obtain ⟨p1, p2, p3, p4, hr⟩ := q_m_row h
  unfold q_mchk at hr
  dsimp only at hr
  simp only [Bool.and_eq_true] at hr
  rw [q_cls]
  exact ⟨q_w_ok hr.1.1, q_w_ok hr.1.2, q_w_ok hr.2⟩
theorem q_m6 {mid idx cm : Nat} (h : q_m mid idx = some (cm, 6)) : Cond.methodLink (q_y mid).cls idx (q_y cm) ∈ q_W ∧ Cond.instanceMethod (q_y cm) ∈ q_W ∧ (q_y cm).name = "<init>" ∧ q_rt cm = none := by
  obtain ⟨p1, p2, p3, p4, hr⟩ := q_m_row h
  unfold q_mchk at hr
  dsimp only at hr
  simp only [Bool.and_eq_true] at hr
  obtain ⟨⟨⟨-, h1⟩, h2⟩, h3⟩ := hr
  exact ⟨q_mlk h1, q_h1 h2, of_decide_eq_true h3⟩
theorem q_m7 {mid idx cm : Nat} (h : q_m mid idx = some (cm, 7)) : Cond.methodLink (q_y mid).cls idx (q_y cm) ∈ q_W ∧ Cond.static (q_y cm) ∈ q_W ∧ Cond.codeWith (q_y cm) (q_b cm) (q_nl cm) (q_rt cm) (q_hh cm) ∈ q_W := by
  obtain ⟨p1, p2, p3, p4, hr⟩ := q_m_row h
  unfold q_mchk at hr
  dsimp only at hr
  simp only [Bool.and_eq_true] at hr
  exact ⟨q_mlk hr.1.1.2, q_h2 hr.1.2, q_h5w hr.2⟩
theorem q_m9 {mid idx cm : Nat} (h : q_m mid idx = some (cm, 9)) : Cond.methodLink (q_y mid).cls idx arraycopyName ∈ q_W ∧ Cond.native arraycopyName ∈ q_W ∧ Cond.static arraycopyName ∈ q_W ∧ Cond.initialized "java/lang/System" ∈ q_W := by
  obtain ⟨p1, p2, p3, p4, hr⟩ := q_m_row h
  unfold q_mchk at hr
  dsimp only at hr
  simp only [Bool.and_eq_true] at hr
  rw [q_cls]
  exact ⟨q_w_ok hr.1.1.1, q_w_ok hr.1.1.2, q_w_ok hr.1.2, q_w_ok hr.2⟩
theorem q_m10 {mid idx cm : Nat} (h : q_m mid idx = some (cm, 10)) : Cond.methodLink (q_y mid).cls idx Lib.Math.max.name ∈ q_W ∧ Cond.static Lib.Math.max.name ∈ q_W ∧ Cond.initialized "java/lang/Math" ∈ q_W ∧ Cond.code Lib.Math.max.name Lib.Math.max.code 2 (some .int) ∈ q_W := by
  obtain ⟨p1, p2, p3, p4, hr⟩ := q_m_row h
  unfold q_mchk at hr
  dsimp only at hr
  simp only [Bool.and_eq_true] at hr
  rw [q_cls]
  exact ⟨q_w_ok hr.1.1.1, q_w_ok hr.1.1.2, q_w_ok hr.1.2, q_w_ok hr.2⟩
theorem q_m11 {mid idx cm : Nat} (h : q_m mid idx = some (cm, 11)) : Cond.methodLink (q_y mid).cls idx Lib.Math.min.name ∈ q_W ∧ Cond.static Lib.Math.min.name ∈ q_W ∧ Cond.initialized "java/lang/Math" ∈ q_W ∧ Cond.code Lib.Math.min.name Lib.Math.min.code 2 (some .int) ∈ q_W := by
  obtain ⟨p1, p2, p3, p4, hr⟩ := q_m_row h
  unfold q_mchk at hr
  dsimp only at hr
  simp only [Bool.and_eq_true] at hr
  rw [q_cls]
  exact ⟨q_w_ok hr.1.1.1, q_w_ok hr.1.1.2, q_w_ok hr.1.2, q_w_ok hr.2⟩
theorem q_m12 {mid idx cm : Nat} (h : q_m mid idx = some (cm, 12)) : Cond.methodLink (q_y mid).cls idx Lib.Math.abs.name ∈ q_W ∧ Cond.static Lib.Math.abs.name ∈ q_W ∧ Cond.initialized "java/lang/Math" ∈ q_W ∧ Cond.code Lib.Math.abs.name Lib.Math.abs.code 1 (some .int) ∈ q_W := by
  obtain ⟨p1, p2, p3, p4, hr⟩ := q_m_row h
  unfold q_mchk at hr
  dsimp only at hr
  simp only [Bool.and_eq_true] at hr
  rw [q_cls]
  exact ⟨q_w_ok hr.1.1.1, q_w_ok hr.1.1.2, q_w_ok hr.1.2, q_w_ok hr.2⟩
theorem q_htt_ok : (q_htt.all fun x => match q_i x.1 x.2.1 with
  | some (.invokevirtual _) => true
  | _ => false) = true := by decide +kernel
theorem q_h5_mem {mid pc : Nat} {E : String} {hh : Nat × Nat} : ∀ {L : List (Nat × Nat × String × Nat × Nat)}, q_h5 L mid pc E = some hh → (mid, pc, E, hh) ∈ L
  | [], h => by simp [q_h5] at h
  | (a, b, E', x) :: t, h => by
    unfold q_h5 at h
    split at h
    · rename_i hc
      obtain ⟨rfl, rfl, rfl⟩ := hc
      cases h
      exact List.mem_cons_self
    · exact List.mem_cons_of_mem _ (q_h5_mem h)
theorem q_h_ok {mid pc : Nat} {E : String} {hh : Nat × Nat} (h : q_h mid pc E = some hh) : ∃ idx, q_i mid pc = some (.invokevirtual idx) := by
  have h2 := q_all q_htt_ok (q_h5_mem h)
  dsimp only at h2
  split at h2
  · rename_i idx hi
    exact ⟨idx, hi⟩
  · cases h2
end
section
section MPURE
variable {p : Program} {l : Launch} {e : Env} {R : Room} {s : State} {m : MethodId} {args : Array Value} {below : List Frame} {meth : Method} {c : Code} {H : Heap} {locs : List Loc} {cells slots : Nat} {Q : State → Prop} {cc : ByteArray} {ad : Nat → Nat} {pc nL : Nat} {L : ML} {st : List MV} {r : Nat × ML × List MV} {ls : Array Slot}
theorem m_br1_W (hx : p.tables.exec = Jvm.exec) (hb : c.code = cc) {cd : Jvm.ClassFile.Cond} {off : Int} (h : m_br1 pc off L st (fun x => m_cmp cd x 0) = some r) (hd : decode cc pc = .ok (.ifCond cd off, 3))
    (k : W p l e R s m args below meth c H locs cells slots Q (F0 m r.1 ls (r.2.2.map (m_val ad)))) : W p l e R s m args below meth c H locs cells slots Q (F0 m pc ls (st.map (m_val ad))) := by
  obtain ⟨x, rest, tgt, rfl, ht, rfl⟩ := m_br1_ok h
  by_cases h1 : m_cmp cd x 0 = true
  · rw [if_pos h1] at k
    cases cd
    case eq => exact lv_if_eq (tgt := tgt) hx hb hd ht (fun _ => k) (fun h2 => absurd h1 (by simpa [m_cmp] using h2))
    case ne => exact lv_if_ne (tgt := tgt) hx hb hd ht (fun _ => k) (fun h2 => absurd h1 (by simpa [m_cmp] using h2))
    case lt => exact lv_if_lt (tgt := tgt) hx hb hd ht (fun _ => k) (fun h2 => absurd h1 (by simpa [m_cmp] using h2))
    case ge => exact lv_if_ge (tgt := tgt) hx hb hd ht (fun _ => k) (fun h2 => absurd h1 (by simpa [m_cmp] using h2))
    case gt => exact lv_if_gt (tgt := tgt) hx hb hd ht (fun _ => k) (fun h2 => absurd h1 (by simpa [m_cmp] using h2))
    case le => exact lv_if_le (tgt := tgt) hx hb hd ht (fun _ => k) (fun h2 => absurd h1 (by simpa [m_cmp] using h2))
  · rw [if_neg h1] at k
    cases cd
    case eq => exact lv_if_eq (tgt := tgt) hx hb hd ht (fun h2 => absurd (by simpa [m_cmp] using h2) h1) (fun _ => k)
    case ne => exact lv_if_ne (tgt := tgt) hx hb hd ht (fun h2 => absurd (by simpa [m_cmp] using h2) h1) (fun _ => k)
    case lt => exact lv_if_lt (tgt := tgt) hx hb hd ht (fun h2 => absurd (by simpa [m_cmp] using h2) h1) (fun _ => k)
    case ge => exact lv_if_ge (tgt := tgt) hx hb hd ht (fun h2 => absurd (by simpa [m_cmp] using h2) h1) (fun _ => k)
    case gt => exact lv_if_gt (tgt := tgt) hx hb hd ht (fun h2 => absurd (by simpa [m_cmp] using h2) h1) (fun _ => k)
    case le => exact lv_if_le (tgt := tgt) hx hb hd ht (fun h2 => absurd (by simpa [m_cmp] using h2) h1) (fun _ => k)
theorem m_br2_W (hx : p.tables.exec = Jvm.exec) (hb : c.code = cc) {cd : Jvm.ClassFile.Cond} {off : Int} (h : m_br2 pc off L st (m_cmp cd) = some r) (hd : decode cc pc = .ok (.if_icmp cd off, 3))
    (k : W p l e R s m args below meth c H locs cells slots Q (F0 m r.1 ls (r.2.2.map (m_val ad)))) : W p l e R s m args below meth c H locs cells slots Q (F0 m pc ls (st.map (m_val ad))) := by
  obtain ⟨x, y, rest, tgt, rfl, ht, rfl⟩ := m_br2_ok h
  by_cases h1 : m_cmp cd x y = true
  · rw [if_pos h1] at k
    cases cd
    case eq => exact lv_icmp_eq (tgt := tgt) hx hb hd ht (fun _ => k) (fun h2 => absurd h1 (by simpa [m_cmp] using h2))
    case ne => exact lv_icmp_ne (tgt := tgt) hx hb hd ht (fun _ => k) (fun h2 => absurd h1 (by simpa [m_cmp] using h2))
    case lt => exact lv_icmp_lt (tgt := tgt) hx hb hd ht (fun _ => k) (fun h2 => absurd h1 (by simpa [m_cmp] using h2))
    case ge => exact lv_icmp_ge (tgt := tgt) hx hb hd ht (fun _ => k) (fun h2 => absurd h1 (by simpa [m_cmp] using h2))
    case gt => exact lv_icmp_gt (tgt := tgt) hx hb hd ht (fun _ => k) (fun h2 => absurd h1 (by simpa [m_cmp] using h2))
    case le => exact lv_icmp_le (tgt := tgt) hx hb hd ht (fun _ => k) (fun h2 => absurd h1 (by simpa [m_cmp] using h2))
  · rw [if_neg h1] at k
    cases cd
    case eq => exact lv_icmp_eq (tgt := tgt) hx hb hd ht (fun h2 => absurd (by simpa [m_cmp] using h2) h1) (fun _ => k)
    case ne => exact lv_icmp_ne (tgt := tgt) hx hb hd ht (fun h2 => absurd (by simpa [m_cmp] using h2) h1) (fun _ => k)
    case lt => exact lv_icmp_lt (tgt := tgt) hx hb hd ht (fun h2 => absurd (by simpa [m_cmp] using h2) h1) (fun _ => k)
    case ge => exact lv_icmp_ge (tgt := tgt) hx hb hd ht (fun h2 => absurd (by simpa [m_cmp] using h2) h1) (fun _ => k)
    case gt => exact lv_icmp_gt (tgt := tgt) hx hb hd ht (fun h2 => absurd (by simpa [m_cmp] using h2) h1) (fun _ => k)
    case le => exact lv_icmp_le (tgt := tgt) hx hb hd ht (fun h2 => absurd (by simpa [m_cmp] using h2) h1) (fun _ => k)
set_option maxHeartbeats 4000000 in
theorem m_pure_W (hx : p.tables.exec = Jvm.exec) (hb : c.code = cc) {i : Instr} {len : Nat} (h : m_pure i pc nL L st = some r) (hd : decode cc pc = .ok (i, len)) (hn : m_len i = len ∨ m_len i = 0) (hl : lv_has ls nL (ml_val ad L))
    (k : ∀ ls' : Array Slot, lv_has ls' nL (ml_val ad r.2.1) → W p l e R s m args below meth c H locs cells slots Q (F0 m r.1 ls' (r.2.2.map (m_val ad)))) : W p l e R s m args below meth c H locs cells slots Q (F0 m pc ls (st.map (m_val ad))) := by
  have hd1 : m_len i ≠ 0 → decode cc pc = .ok (i, m_len i) := fun h0 => by rw [hn.resolve_right h0]; exact hd
  cases i
  case iconst n =>
    cases h
    exact lv_iconst hx hb (hd1 (by simp [m_len])) rfl (k ls hl)
  case bipush n =>
    cases h
    exact lv_bipush hx hb (hd1 (by simp [m_len])) rfl (k ls hl)
  case sipush n =>
    cases h
    exact lv_sipush hx hb (hd1 (by simp [m_len])) rfl (k ls hl)
  case lconst n =>
    cases h
    exact lv_lconst hx hb (hd1 (by simp [m_len])) rfl (k ls hl)
  case aconst_null =>
    cases h
    exact lv_null hx hb (hd1 (by simp [m_len])) (k ls hl)
  case iload i =>
    obtain ⟨v, h1, h2, rfl⟩ := m_ld_ok h
    obtain ⟨x, rfl⟩ := m_isI_ok h2
    exact lv_iload hx hb (hd1 (by simp [m_len])) (m_get_at h1 hl) (k ls hl)
  case iload_n i =>
    obtain ⟨v, h1, h2, rfl⟩ := m_ld_ok h
    obtain ⟨x, rfl⟩ := m_isI_ok h2
    exact lv_iload_n hx hb (hd1 (by simp [m_len])) rfl (m_get_at h1 hl) (k ls hl)
  case lload i =>
    obtain ⟨v, h1, h2, rfl⟩ := m_ld_ok h
    obtain ⟨x, rfl⟩ := m_isL_ok h2
    exact lv_lload hx hb (hd1 (by simp [m_len])) (m_get_at h1 hl) (k ls hl)
  case lload_n i =>
    obtain ⟨v, h1, h2, rfl⟩ := m_ld_ok h
    obtain ⟨x, rfl⟩ := m_isL_ok h2
    exact lv_lload_n hx hb (hd1 (by simp [m_len])) rfl (m_get_at h1 hl) (k ls hl)
  case aload i =>
    obtain ⟨v, h1, h2, rfl⟩ := m_ld_ok h
    rcases m_isR_ok h2 with rfl | ⟨x, rfl⟩
    · exact lv_aloadN hx hb (hd1 (by simp [m_len])) (m_get_at h1 hl) (k ls hl)
    · exact lv_aload hx hb (hd1 (by simp [m_len])) (m_get_at h1 hl) (k ls hl)
  case aload_n i =>
    obtain ⟨v, h1, h2, rfl⟩ := m_ld_ok h
    rcases m_isR_ok h2 with rfl | ⟨x, rfl⟩
    · exact lv_aload_nN hx hb (hd1 (by simp [m_len])) rfl (m_get_at h1 hl) (k ls hl)
    · exact lv_aload_n hx hb (hd1 (by simp [m_len])) rfl (m_get_at h1 hl) (k ls hl)
  case istore i =>
    obtain ⟨v, rest, rfl, h2, h3, rfl⟩ := m_st1_ok h
    obtain ⟨x, rfl⟩ := m_isI_ok h2
    exact lv_istore hx hb (hd1 (by simp [m_len])) hl h3 (m_store_val ad L i (.inl x)) k
  case lstore i =>
    obtain ⟨v, rest, rfl, h2, h3, rfl⟩ := m_st2_ok h
    obtain ⟨x, rfl⟩ := m_isL_ok h2
    exact lv_lstore hx hb (hd1 (by simp [m_len])) hl h3 (m_store2_val ad L i (.inr (.inl x))) k
  case astore i =>
    obtain ⟨v, rest, rfl, h2, h3, rfl⟩ := m_st1_ok h
    rcases m_isR_ok h2 with rfl | ⟨x, rfl⟩
    · exact lv_astoreN hx hb (hd1 (by simp [m_len])) hl h3 (m_store_val ad L i (.inr (.inr none))) k
    · exact lv_astore hx hb (hd1 (by simp [m_len])) hl h3 (m_store_val ad L i (.inr (.inr (some x)))) k
  case istore_n i =>
    obtain ⟨v, rest, rfl, h2, h3, rfl⟩ := m_st1_ok h
    obtain ⟨x, rfl⟩ := m_isI_ok h2
    exact lv_istore_n hx hb (hd1 (by simp [m_len])) rfl hl h3 (m_store_val ad L (↑i) (.inl x)) k
  case lstore_n i =>
    obtain ⟨v, rest, rfl, h2, h3, rfl⟩ := m_st2_ok h
    obtain ⟨x, rfl⟩ := m_isL_ok h2
    exact lv_lstore_n hx hb (hd1 (by simp [m_len])) rfl hl h3 (m_store2_val ad L (↑i) (.inr (.inl x))) k
  case astore_n i =>
    obtain ⟨v, rest, rfl, h2, h3, rfl⟩ := m_st1_ok h
    rcases m_isR_ok h2 with rfl | ⟨x, rfl⟩
    · exact lv_astore_nN hx hb (hd1 (by simp [m_len])) rfl hl h3 (m_store_val ad L (↑i) (.inr (.inr none))) k
    · exact lv_astore_n hx hb (hd1 (by simp [m_len])) rfl hl h3 (m_store_val ad L (↑i) (.inr (.inr (some x)))) k
  case iinc i n =>
    simp only [m_pure] at h
    split at h
    · rename_i x h1
      split at h
      · rename_i h3
        cases h
        obtain ⟨q, hq⟩ := List.getElem?_of_mem (List.mem_map.mpr ⟨_, m_get_mem h1, rfl⟩ : (i, m_val ad (.inl x)) ∈ ml_val ad L)
        exact lv_iinc hx hb (hd1 (by simp [m_len])) hl hq rfl h3 (m_store_val ad L i (.inl (x + Int32.ofInt n))) k
      · cases h
    · cases h
  case iadd =>
    simp only [m_pure] at h
    obtain ⟨x, y, v, rest, rfl, hf, rfl⟩ := m_ii_ok h
    cases hf
    exact lv_iadd hx hb (hd1 (by simp [m_len])) (k ls hl)
  case isub =>
    simp only [m_pure] at h
    obtain ⟨x, y, v, rest, rfl, hf, rfl⟩ := m_ii_ok h
    cases hf
    exact lv_isub hx hb (hd1 (by simp [m_len])) (k ls hl)
  case imul =>
    simp only [m_pure] at h
    obtain ⟨x, y, v, rest, rfl, hf, rfl⟩ := m_ii_ok h
    cases hf
    exact lv_imul hx hb (hd1 (by simp [m_len])) (k ls hl)
  case iand =>
    simp only [m_pure] at h
    obtain ⟨x, y, v, rest, rfl, hf, rfl⟩ := m_ii_ok h
    cases hf
    exact lv_iand hx hb (hd1 (by simp [m_len])) (k ls hl)
  case ior =>
    simp only [m_pure] at h
    obtain ⟨x, y, v, rest, rfl, hf, rfl⟩ := m_ii_ok h
    cases hf
    exact lv_ior hx hb (hd1 (by simp [m_len])) (k ls hl)
  case ixor =>
    simp only [m_pure] at h
    obtain ⟨x, y, v, rest, rfl, hf, rfl⟩ := m_ii_ok h
    cases hf
    exact lv_ixor hx hb (hd1 (by simp [m_len])) (k ls hl)
  case ishl =>
    simp only [m_pure] at h
    obtain ⟨x, y, v, rest, rfl, hf, rfl⟩ := m_ii_ok h
    cases hf
    exact lv_ishl hx hb (hd1 (by simp [m_len])) (k ls hl)
  case ishr =>
    simp only [m_pure] at h
    obtain ⟨x, y, v, rest, rfl, hf, rfl⟩ := m_ii_ok h
    cases hf
    exact lv_ishr hx hb (hd1 (by simp [m_len])) (k ls hl)
  case iushr =>
    simp only [m_pure] at h
    obtain ⟨x, y, v, rest, rfl, hf, rfl⟩ := m_ii_ok h
    cases hf
    exact lv_iushr hx hb (hd1 (by simp [m_len])) rfl (k ls hl)
  case idiv =>
    simp only [m_pure] at h
    obtain ⟨x, y, v, rest, rfl, hf, rfl⟩ := m_ii_ok h
    by_cases h0 : y = 0
    · simp [h0] at hf
    · simp only [h0, if_false] at hf
      cases hf
      exact lv_idiv hx hb (hd1 (by simp [m_len])) h0 (k ls hl)
  case irem =>
    simp only [m_pure] at h
    obtain ⟨x, y, v, rest, rfl, hf, rfl⟩ := m_ii_ok h
    by_cases h0 : y = 0
    · simp [h0] at hf
    · simp only [h0, if_false] at hf
      cases hf
      exact lv_irem hx hb (hd1 (by simp [m_len])) h0 (k ls hl)
  case ladd =>
    simp only [m_pure] at h
    obtain ⟨x, y, v, rest, rfl, hf, rfl⟩ := m_ll_ok h
    cases hf
    exact lv_ladd hx hb (hd1 (by simp [m_len])) (k ls hl)
  case lsub =>
    simp only [m_pure] at h
    obtain ⟨x, y, v, rest, rfl, hf, rfl⟩ := m_ll_ok h
    cases hf
    exact lv_lsub hx hb (hd1 (by simp [m_len])) (k ls hl)
  case lmul =>
    simp only [m_pure] at h
    obtain ⟨x, y, v, rest, rfl, hf, rfl⟩ := m_ll_ok h
    cases hf
    exact lv_lmul hx hb (hd1 (by simp [m_len])) (k ls hl)
  case ldiv =>
    simp only [m_pure] at h
    obtain ⟨x, y, v, rest, rfl, hf, rfl⟩ := m_ll_ok h
    by_cases h0 : y = 0
    · simp [h0] at hf
    · simp only [h0, if_false] at hf
      cases hf
      exact lv_ldiv hx hb (hd1 (by simp [m_len])) h0 (k ls hl)
  case lcmp =>
    simp only [m_pure] at h
    obtain ⟨x, y, v, rest, rfl, hf, rfl⟩ := m_ll_ok h
    cases hf
    exact W.lcmp hx hb (hd1 (by simp [m_len])) (k ls hl)
  case ineg =>
    simp only [m_pure] at h
    obtain ⟨x, rest, rfl, rfl⟩ := m_i1_ok h
    exact lv_ineg hx hb (hd1 (by simp [m_len])) (k ls hl)
  case i2l =>
    simp only [m_pure] at h
    obtain ⟨x, rest, rfl, rfl⟩ := m_i1_ok h
    exact lv_i2l hx hb (hd1 (by simp [m_len])) rfl (k ls hl)
  case i2b =>
    simp only [m_pure] at h
    obtain ⟨x, rest, rfl, rfl⟩ := m_i1_ok h
    exact lv_i2b hx hb (hd1 (by simp [m_len])) rfl (k ls hl)
  case i2s =>
    simp only [m_pure] at h
    obtain ⟨x, rest, rfl, rfl⟩ := m_i1_ok h
    exact lv_i2s hx hb (hd1 (by simp [m_len])) rfl (k ls hl)
  case l2i =>
    simp only [m_pure] at h
    obtain ⟨x, rest, rfl, rfl⟩ := m_l1_ok h
    exact lv_l2i hx hb (hd1 (by simp [m_len])) rfl (k ls hl)
  case pop =>
    simp only [m_pure] at h
    split at h
    · split at h
      · cases h
      · rename_i h2
        cases h
        exact lv_pop hx hb (hd1 (by simp [m_len])) (m_notL h2) (k ls hl)
    · cases h
  case dup =>
    simp only [m_pure] at h
    split at h
    · split at h
      · cases h
      · rename_i h2
        cases h
        exact lv_dup hx hb (hd1 (by simp [m_len])) (m_notL h2) (k ls hl)
    · cases h
  case dup2 =>
    simp only [m_pure] at h
    split at h
    · split at h
      · cases h
      · rename_i h2
        cases h
        exact lv_dup2_11 hx hb (hd1 (by simp [m_len])) (m_notL (fun q => h2 (Or.inl q))) (m_notL (fun q => h2 (Or.inr q))) (k ls hl)
    · cases h
  case goto off =>
    obtain ⟨tgt, ht, rfl⟩ := m_to_ok h
    exact lv_goto hx hb (hd1 (by simp [m_len])) ht (k ls hl)
  case ifCond cd off =>
    have h9 := m_br1_ok h
    exact m_br1_W hx hb h (hd1 (by simp [m_len])) (k ls (by obtain ⟨x, rest, tgt, -, -, rfl⟩ := h9; exact hl))
  case if_icmp cd off =>
    have h9 := m_br2_ok h
    exact m_br2_W hx hb h (hd1 (by simp [m_len])) (k ls (by obtain ⟨x, y, rest, tgt, -, -, rfl⟩ := h9; exact hl))
  case ifnull off =>
    simp only [m_pure] at h
    split at h
    · obtain ⟨tgt, ht, rfl⟩ := m_to_ok h
      exact lv_ifnullN hx hb (hd1 (by simp [m_len])) ht (k ls hl)
    · cases h
      exact lv_ifnull hx hb (hd1 (by simp [m_len])) (k ls hl)
    · cases h
  case ifnonnull off =>
    simp only [m_pure] at h
    split at h
    · cases h
      exact lv_ifnonnullN hx hb (hd1 (by simp [m_len])) (k ls hl)
    · obtain ⟨tgt, ht, rfl⟩ := m_to_ok h
      exact lv_ifnonnull hx hb (hd1 (by simp [m_len])) ht (k ls hl)
    · cases h
  case tableswitch dflt lo hi offs =>
    simp only [m_pure] at h
    split at h
    · split at h
      · rename_i h2
        obtain ⟨tgt, ht, rfl⟩ := m_to_ok h
        exact lv_tableOut hx hb hd h2 ht (k ls hl)
      · rename_i h2
        split at h
        · rename_i h3
          obtain ⟨tgt, ht, rfl⟩ := m_to_ok h
          exact lv_tableIn hx hb hd (fun q => h2 (Or.inl q)) (fun q => h2 (Or.inr q)) h3 ht (k ls hl)
        · cases h
    · cases h
  all_goals (exact absurd h (by simp [m_pure]))
end MPURE
end
