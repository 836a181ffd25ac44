def e_ok (o : MOut) (thr : Bool) (rt : Option Nat) (x : Int) : Prop :=
  (∃ ov, o = .inl ov ∧ match rt with
    | some t => ∃ v, ov = some v ∧ e_v t x v
    | none => ov = none) ∨ (thr = true ∧ ((x = e_TH ∧ o = .inr (e_ex 0)) ∨ (x = e_TH + 1 ∧ o = .inr (e_ex 1))))
/-- calls do what the machine does -/
def e_KOK (ro : MRo) (K : Nat → List Int → EM → EO) : Prop := ∀ u as M r, K u as M = some r → e_rok u as = true ∧ ∀ d vs w, e_ht u ≤ d → e_vs (e_pt u) as vs → e_cat (e_pt u) ≤ q_nl (e_vm u) → e_nl u = q_nl (e_vm u) → e_wr ro M w →
  ∃ k o w', m_run ro k d (e_vm u) 0 (m_ent 0 vs) [] w = some (o, w') ∧ e_wr ro r.2 w' ∧ e_ok o (e_thr u) (e_rt (e_vm u)) r.1
def e_crb : Nat → Int → Int → Bool
  | 0, a, b => decide (a = b)
  | 1, a, b => decide (a ≠ b)
  | 2, a, b => decide (a < b)
  | 3, a, b => decide (b ≤ a)
  | 4, a, b => decide (b < a)
  | _, a, b => decide (a ≤ b)
theorem e_cr2 {n : Nat} (hn : n < 6) (a b : Int) : e_b2 (40 + n) a b = some (if e_crb n a b = true then 1 else 0) ∧ e_b2 (54 + n) a b = some (if e_crb n a b = true then 1 else 0) ∧ e_b1 (46 + n) a = some (if e_crb n a 0 = true then 1 else 0) := by
  match n, hn with
  | 0, _ => simp [e_b2, e_b1, e_crb]
  | 1, _ => simp [e_b2, e_b1, e_crb]
  | 2, _ => simp [e_b2, e_b1, e_crb]
  | 3, _ => simp [e_b2, e_b1, e_crb]
  | 4, _ => simp [e_b2, e_b1, e_crb]
  | 5, _ => simp [e_b2, e_b1, e_crb]
theorem e_cr_ng {n : Nat} (hn : n < 6) (a b : Int) : e_crb (e_ng n) a b = !e_crb n a b := by
  match n, hn with
  | 0, _ => simp [e_ng, e_crb]
  | 1, _ => simp [e_ng, e_crb]
  | 2, _ => simp only [e_ng, e_crb]; rw [← decide_not]; exact decide_eq_decide.mpr (by omega)
  | 3, _ => simp only [e_ng, e_crb]; rw [← decide_not]; exact decide_eq_decide.mpr (by omega)
  | 4, _ => simp only [e_ng, e_crb]; rw [← decide_not]; exact decide_eq_decide.mpr (by omega)
  | 5, _ => simp only [e_ng, e_crb]; rw [← decide_not]; exact decide_eq_decide.mpr (by omega)
theorem e_cn_lt (c : Jvm.ClassFile.Cond) : e_cn c < 6 := by cases c <;> decide
theorem e_ng_lt {n : Nat} (hn : n < 6) : e_ng n < 6 := by
  match n, hn with
  | 0, _ => decide
  | 1, _ => decide
  | 2, _ => decide
  | 3, _ => decide
  | 4, _ => decide
  | 5, _ => decide
theorem e_cmp (c : Jvm.ClassFile.Cond) (x y : Int32) : m_cmp c x y = e_crb (e_cn c) x.toInt y.toInt := by
  cases c
  case eq => show decide (x = y) = decide (x.toInt = y.toInt); exact decide_eq_decide.mpr Int32.toInt_inj.symm
  case ne => show decide (x ≠ y) = decide (x.toInt ≠ y.toInt); exact decide_eq_decide.mpr (not_congr Int32.toInt_inj.symm)
  case lt => exact decide_eq_decide.mpr Int32.lt_iff_toInt_lt
  case ge => exact decide_eq_decide.mpr Int32.le_iff_toInt_le
  case gt => exact decide_eq_decide.mpr Int32.lt_iff_toInt_lt
  case le => exact decide_eq_decide.mpr Int32.le_iff_toInt_le
theorem e_br_ok {k b c : Nat} {tgt : Int} {nx pt pf : Nat} (h : e_br k b c tgt nx pt pf = true) : (k = b + c ∧ tgt = pt ∧ nx = pf) ∨ (k = b + e_ng c ∧ tgt = pf ∧ nx = pt) := by
  unfold e_br at h
  simp only [Bool.or_eq_true, Bool.and_eq_true, decide_eq_true_eq] at h
  rcases h with ⟨⟨h1, h2⟩, h3⟩ | ⟨⟨h1, h2⟩, h3⟩
  · exact Or.inl ⟨h1, h2, h3⟩
  · exact Or.inr ⟨h1, h2, h3⟩
/-- where a branch goes -/
theorem e_br_to {k b c : Nat} {tgt : Int} {nx pt pf : Nat} (h : e_br k b c tgt nx pt pf = true) (hc : c < 6) {x y z : Int} (hz : ∀ n, n < 6 → k = b + n → z = if e_crb n x y = true then 1 else 0) :
    (if e_crb c x y = true then tgt.toNat else nx) = (if z = 0 then pf else pt) ∧ 0 ≤ tgt := by
  rcases e_br_ok h with ⟨h1, h2, h3⟩ | ⟨h1, h2, h3⟩
  · have h4 := hz c hc h1
    subst h2 h3
    refine ⟨?_, by omega⟩
    cases hb : e_crb c x y
    · rw [hb] at h4; subst h4; simp
    · rw [hb] at h4; subst h4; simp
  · have h4 := hz (e_ng c) (e_ng_lt hc) h1
    rw [e_cr_ng hc] at h4
    subst h2 h3
    refine ⟨?_, by omega⟩
    cases hb : e_crb c x y
    · rw [hb] at h4; subst h4; simp
    · rw [hb] at h4; subst h4; simp
theorem e_lgcmp (x y : Int64) : (lg_cmp x y).toInt = if x.toInt < y.toInt then -1 else if x.toInt = y.toInt then 0 else 1 := by
  unfold lg_cmp
  repeat' split
  all_goals simp_all [Int64.lt_iff_toInt_lt, ← Int64.toInt_inj]
  all_goals (first | rfl | omega | decide)
theorem e_rc_all : (q_recs.all fun l => l.all fun r => match r.2.2.2.2.2.2.2.1 with
  | some c => decide (c < 13)
  | none => true) = true := by decide +kernel
theorem e_rc_lt {mid ci : Nat} (h : q_rc mid = some ci) : ci < 13 := by
  have h2 : (match q_rc mid with
    | some c => decide (c < 13)
    | none => true) = true := q_r_all (P := fun r => (match r.2.2.2.2.2.2.2.1 with
    | some c => decide (c < 13)
    | none => true) = true) rfl (fun l hl r hr => List.all_eq_true.mp (List.all_eq_true.mp e_rc_all l hl) r hr) mid
  rw [h] at h2
  exact of_decide_eq_true h2
section ECHK
variable {ro : MRo} {d mid hv : Nat} {K : Nat → List Int → EM → EO} {G : List (Nat × Nat)} {L : List Int} {ML1 : ML}
theorem e_re_cj {k p pt pf : Nat} {ts : List Nat} {xs : List Int} {vs st : List MV} {M : EM} {w : MWd} {b : Int} (hj : e_cj mid k ts p pt pf = true) (hvs : e_vs ts xs vs) (he : e_op k xs M = some b) :
    e_re ro d mid p ML1 (vs.reverse ++ st) w (if b = 0 then pf else pt) ML1 st w := by
  unfold e_cj at hj
  split at hj
  · rename_i c off hi
    split at hj
    · rename_i t u
      obtain ⟨x, y, v, v2, rfl, rfl, h1, h2⟩ := e_vs_2 hvs
      simp only [Bool.and_eq_true, decide_eq_true_eq] at hj
      obtain ⟨⟨ht, hu⟩, hbr⟩ := hj
      obtain ⟨a, rfl, rfl⟩ := e_v_int ht h1
      obtain ⟨a2, rfl, rfl⟩ := e_v_int hu h2
      have hk : ∀ n, n < 6 → k = 40 + n → b = if e_crb n a.toInt a2.toInt = true then 1 else 0 := by
        intro n hn hk
        subst hk
        simp only [e_op, if_neg (show ¬ (40 + n = 60) by omega), if_neg (show ¬ (40 + n = 61) by omega), if_neg (show ¬ (40 + n = 62) by omega), (e_cr2 hn a.toInt a2.toInt).1] at he
        cases he; rfl
      obtain ⟨h4, h5⟩ := e_br_to hbr (e_cn_lt c) hk
      rw [← h4]
      refine e_re_pr (r := (if e_crb (e_cn c) a.toInt a2.toInt = true then ((p : Int) + off).toNat else p + 3, ML1, st)) hi ?_
      show m_br2 p off ML1 (.inl a2 :: .inl a :: st) (m_cmp c) = _
      simp only [m_br2, if_pos h5, e_cmp]
    · cases hj
  · rename_i c off hi
    split at hj
    · rename_i t
      obtain ⟨x, v, rfl, rfl, h1⟩ := e_vs_1 hvs
      simp only [Bool.and_eq_true, decide_eq_true_eq] at hj
      obtain ⟨ht, hbr⟩ := hj
      obtain ⟨a, rfl, rfl⟩ := e_v_int ht h1
      have hk : ∀ n, n < 6 → k = 46 + n → b = if e_crb n a.toInt 0 = true then 1 else 0 := by
        intro n hn hk
        subst hk
        simp only [e_op, if_neg (show ¬ (46 + n = 63) by omega), (e_cr2 hn a.toInt 0).2.2] at he
        cases he; rfl
      obtain ⟨h4, h5⟩ := e_br_to hbr (e_cn_lt c) hk
      rw [← h4]
      refine e_re_pr (r := (if e_crb (e_cn c) a.toInt 0 = true then ((p : Int) + off).toNat else p + 3, ML1, st)) hi ?_
      show m_br1 p off ML1 (.inl a :: st) (fun x => m_cmp c x 0) = _
      simp only [m_br1, if_pos h5, e_cmp]
      rfl
    · cases hj
  · rename_i hi
    split at hj
    · rename_i t u c off hi2
      obtain ⟨x, y, v, v2, rfl, rfl, h1, h2⟩ := e_vs_2 hvs
      simp only [Bool.and_eq_true, decide_eq_true_eq] at hj
      obtain ⟨⟨rfl, rfl⟩, hbr⟩ := hj
      obtain ⟨a, rfl, rfl⟩ := h1
      obtain ⟨a2, rfl, rfl⟩ := h2
      have hk : ∀ n, n < 6 → k = 54 + n → b = if e_crb n a.toInt a2.toInt = true then 1 else 0 := by
        intro n hn hk
        subst hk
        by_cases h60 : 54 + n < 60
        · simp only [e_op, if_neg (show ¬ (54 + n = 60) by omega), if_neg (show ¬ (54 + n = 61) by omega), if_neg (show ¬ (54 + n = 62) by omega), (e_cr2 hn a.toInt a2.toInt).2.1] at he
          cases he; rfl
        · omega
      obtain ⟨h4, h5⟩ := e_br_to hbr (e_cn_lt c) hk
      rw [← h4]
      refine e_re_tr (e_re_pr (r := (p + 1, ML1, .inl (lg_cmp a a2) :: st)) hi rfl) ?_
      refine e_re_pr (r := (if e_crb (e_cn c) a.toInt a2.toInt = true then ((p : Int) + 1 + off).toNat else p + 4, ML1, st)) hi2 ?_
      show m_br1 (p + 1) off ML1 (.inl (lg_cmp a a2) :: st) (fun x => m_cmp c x 0) = _
      have h6 : (((p + 1 : Nat) : Int) + off) = (p : Int) + 1 + off := by omega
      have h7 : e_crb (e_cn c) (lg_cmp a a2).toInt 0 = e_crb (e_cn c) a.toInt a2.toInt := by
        rw [e_lgcmp]
        cases c <;> simp only [e_cn, e_crb, decide_eq_decide] <;> (repeat' split) <;> omega
      simp only [m_br1, h6, if_pos h5, e_cmp]
      rw [show (0 : Int32).toInt = 0 from rfl, h7]
    · cases hj
  · rename_i off hi
    split at hj
    · rename_i t
      obtain ⟨x, v, rfl, rfl, h1⟩ := e_vs_1 hvs
      simp only [Bool.and_eq_true, Bool.or_eq_true, decide_eq_true_eq] at hj
      obtain ⟨rfl, ⟨⟨rfl, h2⟩, h3⟩ | ⟨⟨rfl, h2⟩, h3⟩⟩ := hj
      · simp only [e_op, if_neg (show ¬ (52 = 63) by decide), e_b1] at he
        cases he
        rcases h1 with ⟨rfl, rfl⟩ | ⟨a, rfl, rfl⟩
        · refine e_re_pr (r := (pt, ML1, st)) hi ?_
          show m_to p off ML1 st = _
          unfold m_to; rw [h2, if_pos (by omega)]; simp
        · rw [if_neg (show ¬ ((a : Int) = -1) by omega), if_pos rfl]
          exact e_re_pr (r := (pf, ML1, st)) hi (by rw [← h3]; rfl)
      · simp only [e_op, if_neg (show ¬ (53 = 63) by decide), e_b1] at he
        cases he
        rcases h1 with ⟨rfl, rfl⟩ | ⟨a, rfl, rfl⟩
        · refine e_re_pr (r := (pf, ML1, st)) hi ?_
          show m_to p off ML1 st = _
          unfold m_to; rw [h2, if_pos (by omega)]; simp
        · rw [if_pos (show ((a : Int) ≠ -1) by omega), if_neg (by decide)]
          exact e_re_pr (r := (pt, ML1, st)) hi (by rw [← h3]; rfl)
    · cases hj
  · rename_i off hi
    split at hj
    · rename_i t
      obtain ⟨x, v, rfl, rfl, h1⟩ := e_vs_1 hvs
      simp only [Bool.and_eq_true, Bool.or_eq_true, decide_eq_true_eq] at hj
      obtain ⟨rfl, ⟨⟨rfl, h2⟩, h3⟩ | ⟨⟨rfl, h2⟩, h3⟩⟩ := hj
      · simp only [e_op, if_neg (show ¬ (53 = 63) by decide), e_b1] at he
        cases he
        rcases h1 with ⟨rfl, rfl⟩ | ⟨a, rfl, rfl⟩
        · exact e_re_pr (r := (pf, ML1, st)) hi (by rw [← h3]; rfl)
        · rw [if_pos (show ((a : Int) ≠ -1) by omega), if_neg (by decide)]
          refine e_re_pr (r := (pt, ML1, st)) hi ?_
          show m_to p off ML1 st = _
          unfold m_to; rw [h2, if_pos (by omega)]; simp
      · simp only [e_op, if_neg (show ¬ (52 = 63) by decide), e_b1] at he
        cases he
        rcases h1 with ⟨rfl, rfl⟩ | ⟨a, rfl, rfl⟩
        · exact e_re_pr (r := (pt, ML1, st)) hi (by rw [← h3]; rfl)
        · rw [if_neg (show ¬ ((a : Int) = -1) by omega), if_pos rfl]
          refine e_re_pr (r := (pf, ML1, st)) hi ?_
          show m_to p off ML1 st = _
          unfold m_to; rw [h2, if_pos (by omega)]; simp
    · cases hj
  · cases hj
theorem e_take {vs st : List MV} {n : Nat} (h : n = vs.length) : ((vs.reverse ++ st).take n).reverse = vs ∧ (vs.reverse ++ st).drop n = st ∧ n ≤ (vs.reverse ++ st).length := by
  subst h
  have h1 : vs.length = vs.reverse.length := by simp
  refine ⟨?_, ?_, ?_⟩
  · rw [h1, List.take_left, List.reverse_reverse]
  · rw [h1, List.drop_left]
  · simp
/-- a call -/
theorem e_re_call (HK : e_KOK ro K) (hvd : hv ≤ d) {u p h : Nat} {ts : List Nat} {xs : List Int} {vs st : List MV} {M : EM} {w : MWd} {r : Int × EM} (hcc : e_cc mid hv u ts p h = true) (hvs : e_vs ts xs vs) (hst : m_cats st = h) (hW : e_wr ro M w) (hK : K u xs M = some r) :
    ∃ o w', e_wr ro r.2 w' ∧ e_ok o (e_thr u) (e_rt (e_vm u)) r.1 ∧ ∀ n o2, m_aft ro n d mid p ML1 st w' o = some o2 → ∃ n', m_run ro n' d mid p ML1 (vs.reverse ++ st) w = some o2 := by
  unfold e_cc at hcc
  simp only [Bool.and_eq_true, decide_eq_true_eq] at hcc
  obtain ⟨⟨⟨⟨⟨c1, c2⟩, c3⟩, c4⟩, c5⟩, c6⟩ := hcc
  obtain ⟨k1, k2⟩ := HK u xs M r hK
  have hvs2 := e_fit_vs c2 hvs
  obtain ⟨d', rfl⟩ : ∃ d', d = d' + 1 := ⟨d - 1, by omega⟩
  obtain ⟨k, o, w', g1, g2, g3⟩ := k2 d' vs w (by omega) hvs2 c3 c5 hW
  refine ⟨o, w', g2, g3, ?_⟩
  have hcat := e_vs_cat hvs2
  have hlen := e_vs_len hvs2
  subst hst
  intro n o2 hn
  have key : ∀ (i : Instr) (hi : e_in mid p = some i) (hz : m_call mid i (vs.reverse ++ st) w = some (e_vm u, vs, st))
      (hk : (∃ idx kd, i = .invokestatic idx ∧ q_m mid idx = some (e_vm u, kd) ∧ (kd = 1 ∨ kd = 3 ∨ kd = 7)) ∨ (∃ idx, i = .invokevirtual idx) ∨ (∃ idx kd, i = .invokespecial idx ∧ q_m mid idx = some (e_vm u, kd) ∧ (kd = 2 ∨ kd = 6))), ∃ n', m_run ro n' (d' + 1) mid p ML1 (vs.reverse ++ st) w = some o2 := by
    intro i hi hz hk
    obtain ⟨h1, h2⟩ := e_in_ok hi
    refine ⟨max k n + 1, ?_⟩
    rw [m_run_call (z := (e_vm u, vs, st)) h1 h2 hz hk (m_run_le g1 (Nat.le_max_left _ _))]
    revert hn
    rcases o with v | E
    · exact fun hn => m_run_le hn (Nat.le_max_right _ _)
    · intro hn
      simp only [m_aft] at hn ⊢
      split at hn
      · cases hn
      · exact m_run_le hn (Nat.le_max_right _ _)
  split at c6
  · rename_i idx hi
    split at c6
    · rename_i cm kd hq
      simp only [Bool.and_eq_true, Bool.or_eq_true, decide_eq_true_eq] at c6
      obtain ⟨⟨rfl, c7⟩, c8⟩ := c6
      have hkd : kd = 1 ∨ kd = 3 ∨ kd = 7 := by rcases c7 with (h | h) | h <;> omega
      obtain ⟨t1, t2, t3⟩ := e_take (st := st) (show q_np (e_vm u) = vs.length by rw [← c8]; exact hlen.1)
      refine key _ hi ?_ (Or.inl ⟨idx, kd, rfl, hq, hkd⟩)
      simp only [m_call, hq]
      rw [t1, t2, if_pos ⟨hkd, t3, c4, by rw [hcat]; exact c3⟩]
    · cases c6
  · rename_i idx hi
    split at c6
    · rename_i cm kd hq
      simp only [Bool.and_eq_true, decide_eq_true_eq] at c6
      obtain ⟨⟨⟨⟨rfl, rfl⟩, c7⟩, c8⟩, c9⟩ := c6
      unfold e_rok at k1
      cases hrc : q_rc (e_vm u) with
      | none => rw [hrc] at c9; cases c9
      | some ci =>
        rw [hrc] at k1
        obtain ⟨r1, r2, r3⟩ := of_decide_eq_true k1
        match hP : e_pt u, xs, vs, hvs2 with
        | [], _, _, _ => rw [hP] at c7; simp at c7
        | t :: P, x :: xs', v :: vs', hvs3 =>
          rw [hP] at c8 c7 hlen
          simp at c8 c7 r1 r2 r3 hlen
          subst c8
          have hv := e_v2 hvs3.1 (by omega)
          subst hv
          obtain ⟨t1, t2, t3⟩ := e_take (vs := vs') (st := .inr (.inr (some x.toNat)) :: st) (show q_np (e_vm u) = vs'.length by omega)
          obtain ⟨w1, w2, -⟩ := hW
          have h8 : 8 ≤ x.toNat := by omega
          refine key _ hi ?_ (Or.inr (Or.inl ⟨idx, rfl⟩))
          have happ : ((.inr (.inr (some x.toNat)) : MV) :: vs').reverse ++ st = vs'.reverse ++ .inr (.inr (some x.toNat)) :: st := by simp
          rw [happ]
          simp only [m_call, hq]
          rw [t2]
          dsimp only
          have hlo : (e_sh x.toNat).1 < 100 := by
            have := e_rc_lt hrc
            omega
          rw [t1, if_pos ⟨trivial, t3, c4, by rw [hcat]; exact c3, h8, by rw [w1]; exact r2, by rw [w2 _ h8 r2]; exact hlo, by rw [hrc, w2 _ h8 r2, r3]⟩]
    · cases c6
  · cases c6
end ECHK
