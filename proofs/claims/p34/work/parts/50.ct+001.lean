section ECT
variable {ro : MRo} {d mid hv v : Nat} {K J : Nat → List Int → EM → EO}
/-- from a frame's place on, with these locals, the machine ends as told -/
def e_ends (ro : MRo) (d mid v pc : Nat) (ML1 : ML) (w : MWd) (r : Int × EM) : Prop := ∃ k o w', m_run ro k d mid pc ML1 [] w = some (o, w') ∧ e_wr ro r.2 w' ∧ e_ok o (e_thr v) (e_rt mid) r.1
theorem e_ends_re {pc pc' : Nat} {ML1 ML2 : ML} {w w' : MWd} {r : Int × EM} (h : e_re ro d mid pc ML1 [] w pc' ML2 [] w') (he : e_ends ro d mid v pc' ML2 w' r) : e_ends ro d mid v pc ML1 w r := by
  obtain ⟨k, o, w2, h1, h2, h3⟩ := he
  obtain ⟨k', hk⟩ := h k _ h1
  exact ⟨k', o, w2, hk, h2, h3⟩
def e_JOK (ro : MRo) (d mid v : Nat) (J : Nat → List Int → EM → EO) : Prop := ∀ l L M r, J l L M = some r → ∀ q, e_lb v l = some q → ∀ ML1 w, e_lr (q_nl mid) q.1 L ML1 → e_wr ro M w → e_ends ro d mid v l ML1 w r
theorem e_lok_ok (HJ : e_JOK ro d mid v J) {G : List (Nat × Nat)} {pc : Nat} {l : Int} (h : e_lok v mid pc l G = true) {L : List Int} {M : EM} {r : Int × EM} (he : J l.toNat L M = some r) {ML1 : ML} {w : MWd} (hL : e_lr (q_nl mid) G L ML1) (hW : e_wr ro M w) : e_ends ro d mid v pc ML1 w r := by
  unfold e_lok at h
  simp only [Bool.and_eq_true, Bool.or_eq_true, decide_eq_true_eq] at h
  obtain ⟨h1, h2⟩ := h
  split at h2
  · rename_i q hq
    have h3 := HJ _ _ _ _ he q hq ML1 w (e_lr_sub hL h2) hW
    rcases h1 with h1 | ⟨h1, h4⟩
    · subst h1; exact h3
    · refine e_ends_re (e_re_gt h4) ?_
      subst h1; exact h3
  · cases h2
theorem e_lok2_ok (HJ : e_JOK ro d mid v J) {G : List (Nat × Nat)} {l : Int} (h : e_lok2 v l G = true) {L : List Int} {M : EM} {r : Int × EM} (he : J l.toNat L M = some r) {ML1 : ML} {w : MWd} (hL : e_lr (q_nl mid) G L ML1) (hW : e_wr ro M w) : e_ends ro d mid v l.toNat ML1 w r := by
  unfold e_lok2 at h
  simp only [Bool.and_eq_true, decide_eq_true_eq] at h
  obtain ⟨h1, h2⟩ := h
  split at h2
  · rename_i q hq
    exact HJ _ _ _ _ he q hq ML1 w (e_lr_sub hL h2) hW
  · cases h2
theorem e_csw_ok {G : List (Nat × Nat)} {pc : Nat} {df : Int} : ∀ {cs : e_X} {os : List Int}, e_csw v G pc df cs os = true → e_len cs = os.length ∧ (∀ n (hn : n < os.length), (e_nth cs n : Int) = (pc : Int) + os[n] ∧ e_lok2 v (e_nth cs n : Int) G = true) ∧ (e_nth cs os.length : Int) = (pc : Int) + df ∧ e_lok2 v (e_nth cs os.length : Int) G = true
  | .num c, [], h => by
    unfold e_csw at h
    simp only [Bool.and_eq_true, decide_eq_true_eq] at h
    have h0 : 0 ≤ c := by
      have := h.2
      unfold e_lok2 at this
      simp only [Bool.and_eq_true, decide_eq_true_eq] at this
      exact this.1
    refine ⟨rfl, fun n hn => absurd hn (by simp), ?_, ?_⟩
    · show ((c.toNat : Nat) : Int) = _; omega
    · show e_lok2 v ((c.toNat : Nat) : Int) G = true
      rw [Int.toNat_of_nonneg h0]; exact h.2
  | .add (.num c) t, o :: os, h => by
    unfold e_csw at h
    simp only [Bool.and_eq_true, decide_eq_true_eq] at h
    obtain ⟨⟨h1, h2⟩, h3⟩ := h
    obtain ⟨g1, g2, g3, g4⟩ := e_csw_ok h3
    have h0 : 0 ≤ c := by
      have := h2
      unfold e_lok2 at this
      simp only [Bool.and_eq_true, decide_eq_true_eq] at this
      exact this.1
    refine ⟨by simp [e_len, g1], fun n hn => ?_, ?_, ?_⟩
    · cases n with
      | zero =>
        have e : e_nth (.add (.num c) t) 0 = c.toNat := rfl
        rw [e, Int.toNat_of_nonneg h0]
        exact ⟨h1.symm, h2⟩
      | succ n =>
        have e : e_nth (.add (.num c) t) (n + 1) = e_nth t n := rfl
        rw [e]
        exact g2 n (by simpa using hn)
    · exact g3
    · exact g4
  | .num _, _ :: _, h => by simp [e_csw] at h
  | .add (.num _) _, [], h => by simp [e_csw] at h
  | .add (.var _) _, _, h => by simp [e_csw] at h
  | .add (.add _ _) _, _, h => by simp [e_csw] at h
  | .add (.sub _ _) _, _, h => by simp [e_csw] at h
  | .add (.neg _) _, _, h => by simp [e_csw] at h
  | .add (.mulL _ _) _, _, h => by simp [e_csw] at h
  | .add (.mulR _ _) _, _, h => by simp [e_csw] at h
  | .var _, _, h => by simp [e_csw] at h
  | .sub _ _, _, h => by simp [e_csw] at h
  | .neg _, _, h => by simp [e_csw] at h
  | .mulL _ _, _, h => by simp [e_csw] at h
  | .mulR _ _, _, h => by simp [e_csw] at h
theorem e_ret {pc : Nat} {i : Instr} {ML1 : ML} {st : List MV} {w : MWd} {ov : Option MV} (hi : e_in mid pc = some i) (hv : m_ret mid i st = some ov) (hk : i = .return_ ∨ i = .ireturn ∨ i = .lreturn ∨ i = .areturn) : m_run ro 1 d mid pc ML1 st w = some (.inl ov, w) := by
  obtain ⟨h1, h2⟩ := e_in_ok hi
  exact m_run_ret h1 h2 hv hk
theorem e_num_none {t : e_X} (h : (match t with
    | .num _ => true
    | _ => false) = true) {L : List Int} {M : EM} : e_tv K J t L M = none := by
  split at h
  · rfl
  · cases h
theorem e_wr_thr {M : EM} {w : MWd} (hW : e_wr ro M w) : e_wr ro (e_up M 5 0 (M 5 0 + 1)) (m_thr w) := by
  obtain ⟨w1, w2, w3, w4, w5, w6, w7⟩ := hW
  have hne : ∀ b j, b ≠ 5 → e_up M 5 0 (M 5 0 + 1) b j = M b j := fun b j hb => by unfold e_up; rw [if_neg hb]
  have h50 : e_up M 5 0 (M 5 0 + 1) 5 0 = M 5 0 + 1 := by unfold e_up; simp
  have h51 : e_up M 5 0 (M 5 0 + 1) 5 1 = M 5 1 := by unfold e_up; simp
  refine ⟨w1, w2, fun a k h8 hn hk => ?_, ?_, ?_, ?_, fun a ha hk => ?_⟩
  · rw [hne a k (by omega)]; exact w3 a k h8 hn hk
  · rw [h50]; omega
  · rw [h50]
    show ((w.2.1 + 1 : Nat) : Int) = _
    have : ((w.2.1 : Nat) : Int) = e_C0 + M 5 0 := w5
    omega
  · rw [h50]
    show ((w.2.2.1 + 6 : Nat) : Int) = _
    have : ((w.2.2.1 : Nat) : Int) = e_S0 + 6 * M 5 0 := w6
    omega
  · obtain ⟨n, f, k1, k2, k3, k4⟩ := w7 a ha hk
    have h5 : a ≠ 5 := by
      intro h; subst h; exact absurd hk (by decide +kernel)
    refine ⟨n, f, k1, ?_, k3, fun j hj => by rw [hne a j h5]; exact k4 j hj⟩
    unfold e_sz at k2 ⊢
    rw [h51]; exact k2
theorem e_range_tab {c : Int} {y : Int64} (h : y.toInt = c) : c < e_TH := by
  have := e_rngL y
  unfold e_TH; omega
/-- a tree does what the machine does -/
theorem e_ct_ok (HK : e_KOK ro K) (HJ : e_JOK ro d mid v J) (hvd : hv ≤ d) (h0 : 0 < d) : ∀ (n : Nat) (t : e_X), SizeOf.sizeOf t ≤ n → ∀ (G : List (Nat × Nat)) (pc : Nat), e_ct v mid hv t G pc = true → ∀ (L : List Int) (M : EM) (r : Int × EM), e_tv K J t L M = some r → ∀ (ML1 : ML) (w : MWd), e_lr (q_nl mid) G L ML1 → e_wr ro M w → e_ends ro d mid v pc ML1 w r := by
  intro n
  induction n with
  | zero => intro t ht; cases t <;> simp at ht
  | succ n ih =>
    intro t ht G pc hc L M r he ML1 w hL hW
    have chk : ∀ {x : e_X} {z : Option (Nat × Nat)} {pc h : Nat} {R : List Nat × Nat}, e_chk mid hv G x z pc h = some R → ∀ {M : EM} {r : List Int × EM}, e_ev K L x M = some r → ∀ {st : List MV} {w : MWd}, m_cats st = h → e_wr ro M w → e_post ro d mid ML1 z R r pc st w :=
      fun {x z pc h R} hx {M r} he {st w} hst hW => e_chk_ok HK hvd h0 (SizeOf.sizeOf x) x (Nat.le_refl _) z pc h R hx M r he st w hst hL hW
    cases t with
    | num c => simp [e_ct] at hc
    | var c => simp [e_ct] at hc
    | mulL k e =>
      unfold e_ct at hc
      simp at ht
      unfold e_tv at he
      try dsimp only at he
      split at hc
      · rename_i h1
        rw [if_pos h1] at he
        exact ih e (by omega) G pc hc L M r he ML1 w hL hW
      rename_i hk0
      rw [if_neg hk0] at he
      split at hc
      · rename_i h1
        rw [if_pos h1] at he
        obtain ⟨ra, hra, he⟩ := Option.bind_eq_some_iff.mp he
        cases he
        split at hc
        · rename_i t1 p hR
          obtain ⟨vs, w1, a1, a2, a3⟩ := chk hR hra (st := []) rfl hW
          obtain ⟨x0, v0, e0, rfl, b0⟩ := e_vs_1 a1
          rw [e0]
          have fin : ∀ (i : Instr) (hi : e_in mid p = some i) (hr : m_ret mid i [v0] = some (some v0)) (hk : i = .return_ ∨ i = .ireturn ∨ i = .lreturn ∨ i = .areturn) (t2 : Nat) (hrt : e_rt mid = some t2) (hv2 : e_v t2 x0 v0), e_ends ro d mid v pc ML1 w (x0, ra.2) := by
            intro i hi hr hk t2 hrt hv2
            obtain ⟨k', hk'⟩ := a3 1 _ (e_ret (ro := ro) (d := d) (ML1 := ML1) (w := w1) hi hr hk)
            refine ⟨k', _, w1, hk', a2, Or.inl ⟨some v0, rfl, ?_⟩⟩
            rw [hrt]
            exact ⟨v0, rfl, hv2⟩
          split at hc
          · rename_i hi hrt
            obtain ⟨y, rfl, hy⟩ := e_v_int (of_decide_eq_true hc) b0
            refine fin _ hi ?_ (Or.inr (Or.inl rfl)) 0 hrt ⟨y, rfl, hy⟩
            have hq := e_rt_0 hrt
            simp only [m_ret, hq]
          · rename_i hi hrt
            have := of_decide_eq_true hc
            subst this
            obtain ⟨b1, y, rfl, hy⟩ := b0
            refine fin _ hi ?_ (Or.inr (Or.inl rfl)) 3 hrt ⟨b1, y, rfl, hy⟩
            have hq := e_rt_3 hrt
            simp only [m_ret, hq]
            rw [if_pos]
            rcases b1 with b1 | b1
            · exact Or.inl (e_zero.mpr (hy.trans b1))
            · exact Or.inr (by rw [← Int32.toInt_inj, hy, b1]; rfl)
          · rename_i hi hrt
            have := of_decide_eq_true hc
            subst this
            obtain ⟨y, rfl, hy⟩ := b0
            refine fin _ hi ?_ (Or.inr (Or.inr (Or.inl rfl))) 1 hrt ⟨y, rfl, hy⟩
            have hq := e_rt_1 hrt
            simp only [m_ret, hq]
          · rename_i hi hrt
            rw [Bool.and_eq_true] at hc
            have := of_decide_eq_true hc.1
            subst this
            refine fin _ hi ?_ (Or.inr (Or.inr (Or.inr rfl))) 2 hrt b0
            have hc2 := hc.2
            rcases b0 with ⟨-, rfl⟩ | ⟨a, -, rfl⟩
            · split at hc2
              · rename_i hq; simp only [m_ret, hq]
              · rename_i hq; simp only [m_ret, hq]
              · cases hc2
            · split at hc2
              · rename_i hq; simp only [m_ret, hq]
              · rename_i hq; simp only [m_ret, hq]
              · cases hc2
          · cases hc
        · cases hc
      rename_i hk1
      rw [if_neg hk1] at he
      split at hc
      · rename_i h1
        rw [if_pos h1] at he
        cases he
        split at hc
        · rename_i hi hrt
          refine ⟨1, _, w, e_ret hi (by simp only [m_ret, hrt]) (Or.inl rfl), hW, Or.inl ⟨none, rfl, ?_⟩⟩
          unfold e_rt
          rw [hrt]
        · cases hc
      rename_i hk2
      rw [if_neg hk2] at he
      split at hc
      · rename_i h1
        rw [if_pos h1] at he
        split at hc
        · rename_i c
          cases he
          simp only [Bool.and_eq_true, decide_eq_true_eq] at hc
          obtain ⟨⟨⟨c1, c2⟩, c3⟩, c4⟩ := hc
          refine ⟨1, .inr (e_ex c), m_thr w, ?_, e_wr_thr hW, Or.inr ⟨c3, ?_⟩⟩
          · rw [m_run, c2]
            dsimp only
            rw [if_pos ⟨by omega, rfl⟩]
          · rcases c1 with rfl | rfl
            · exact Or.inl ⟨by show e_TH + 0 = e_TH; omega, rfl⟩
            · exact Or.inr ⟨rfl, rfl⟩
        · cases hc
      rename_i hk3
      rw [if_neg hk3] at he
      split at hc
      · rename_i h1
        rw [if_pos h1] at he
        split at hc
        · rename_i l
          exact e_lok_ok HJ hc he hL hW
        · cases hc
      · cases hc
    | sub c e1 =>
     cases e1 with
     | add a' b' =>
       cases a' with
       | mulL pa a =>
         cases b' with
         | mulL pb b =>
           unfold e_ct at hc
           simp at ht
           unfold e_tv at he
           try dsimp only at he
           simp only [Bool.and_eq_true, decide_eq_true_eq] at hc
           obtain ⟨⟨⟨⟨hpa, hpb⟩, hcc⟩, hca⟩, hcb⟩ := hc
           obtain ⟨rc, hrc, he⟩ := Option.bind_eq_some_iff.mp he
           cases hR : e_chk mid hv G c (some (e_pc pa, e_pc pb)) pc 0 with
           | none => rw [hR] at hcc; cases hcc
           | some R =>
             obtain ⟨bb, w1, a1, a2, a3⟩ := chk hR hrc (st := []) rfl hW
             rw [a1] at he
             dsimp only at a3
             by_cases hb0 : bb = 0
             · subst hb0
               rw [if_pos rfl] at he a3
               unfold e_tv at he
               rw [if_pos hpb] at he
               exact e_ends_re a3 (ih b (by omega) G _ hcb L _ r he ML1 w1 hL a2)
             · rw [if_neg (fun q => hb0 (by cases q; rfl))] at he
               rw [if_neg hb0] at a3
               unfold e_tv at he
               rw [if_pos hpa] at he
               exact e_ends_re a3 (ih a (by omega) G _ hca L _ r he ML1 w1 hL a2)
         | _ => simp [e_ct] at hc
       | _ => simp [e_ct] at hc
     | _ => simp [e_ct] at hc
    | add s t =>
      unfold e_ct at hc
      simp at ht
      unfold e_tv at he
      try dsimp only at he
      obtain ⟨q, hq, he⟩ := Option.bind_eq_some_iff.mp he
      split at hc
      · rename_i R hR
        obtain ⟨ML2, w1, a1, a2, a3⟩ := e_cs_ok HK hvd h0 hR hq hL hW
        exact e_ends_re a3 (ih t (by omega) R.1 R.2 hc q.1 q.2 r he ML2 w1 a1 a2)
      · cases hc
    | mulR e1 ek =>
     cases e1 with
     | add x y =>
       cases y with
       | add zz cs =>
         cases zz with
         | num lo =>
           unfold e_ct at hc
           unfold e_tv at he
           try dsimp only at he
           obtain ⟨ra, hra, he⟩ := Option.bind_eq_some_iff.mp he
           split at hc
           · rename_i t1 p hR
             split at hc
             · rename_i df lo2 hi2 os hi
               simp only [Bool.and_eq_true, decide_eq_true_eq] at hc
               obtain ⟨⟨⟨c1, rfl⟩, c3⟩, c4⟩ := hc
               obtain ⟨vs, w1, a1, a2, a3⟩ := chk hR hra (st := []) rfl hW
               obtain ⟨x0, v0, e0, rfl, b0⟩ := e_vs_1 a1
               obtain ⟨y, rfl, rfl⟩ := e_v_int c1 b0
               rw [e0] at he
               obtain ⟨g1, g2, g3, g4⟩ := e_csw_ok c4
               have hlen : os.toList.length = os.size := by simp
               rw [g1, hlen] at he
               rw [hlen] at g3 g4
               rw [show ([y.toInt] : List Int).getD 0 0 = y.toInt from rfl] at he
               by_cases hout : y.toInt < lo ∨ lo + (os.size : Int) ≤ y.toInt
               · rw [if_pos hout] at he
                 have hj := e_lok2_ok (l := (e_nth cs os.size : Int)) HJ g4 he hL a2
                 refine e_ends_re (e_re_tr a3 (e_re_pr (r := (e_nth cs os.size, ML1, [])) hi ?_)) hj
                 simp only [m_pure, List.reverse_singleton, List.singleton_append]
                 rw [if_pos (by omega)]
                 unfold m_to
                 rw [← g3, if_pos (by omega)]
                 simp
               · rw [if_neg hout] at he
                 have hn : (y.toInt - lo).toNat < os.size := by omega
                 obtain ⟨k1, k2⟩ := g2 _ (by rw [hlen]; exact hn)
                 have hj := e_lok2_ok (l := (e_nth cs (y.toInt - lo).toNat : Int)) HJ k2 he hL a2
                 refine e_ends_re (e_re_tr a3 (e_re_pr (r := (e_nth cs (y.toInt - lo).toNat, ML1, [])) hi ?_)) hj
                 simp only [m_pure, List.reverse_singleton, List.singleton_append]
                 rw [if_neg (by omega), Array.getElem?_eq_getElem hn]
                 dsimp only
                 unfold m_to
                 rw [show os[(y.toInt - lo).toNat] = os.toList[(y.toInt - lo).toNat]'(by rw [hlen]; exact hn) by simp, ← k1, if_pos (by omega)]
                 simp
             · cases hc
           · cases hc
         | _ => simp [e_ct] at hc
       | _ => simp [e_ct] at hc
     | _ => simp [e_ct] at hc
    | neg e1 =>
     cases e1 with
     | add p' q' =>
       cases p' with
       | mulR p'' u =>
         cases p'' with
         | add ai as =>
           cases q' with
           | add t q'' =>
             cases q'' with
             | add h1 h2 =>
               unfold e_ct at hc
               simp at ht
               unfold e_tv at he
               try dsimp only at he
               obtain ⟨ra, hra, he⟩ := Option.bind_eq_some_iff.mp he
               obtain ⟨q, hq, he⟩ := Option.bind_eq_some_iff.mp he
               obtain ⟨z, hz, he⟩ := Option.bind_eq_some_iff.mp he
               split at hc
               · rename_i it p1 hR1
                 split at hc
                 · rename_i ts p2 hR2
                   simp only [Bool.and_eq_true, decide_eq_true_eq] at hc
                   obtain ⟨⟨⟨⟨⟨⟨c1, c2⟩, c3⟩, c4⟩, c5⟩, c6⟩, c7⟩ := hc
                   obtain ⟨vs, w1, a1, a2, a3⟩ := chk hR1 hra (st := []) rfl hW
                   obtain ⟨x0, y0, v0, v1, e0, rfl, b0, b1⟩ := e_vs_2 a1
                   have hb1 : m_isL v1 = false := by obtain ⟨_, rfl, -⟩ := e_v_int c1 b1; rfl
                   have hb0 : m_isL v0 = false := by rw [e_v_L b0]; rfl
                   have hcat : m_cats [v1, v0] = 2 := by rw [e_cats_cons, e_cats_cons, hb0, hb1]; rfl
                   obtain ⟨vs2, w2, d1, d2, d3⟩ := chk hR2 hq (st := [v1, v0]) hcat a2
                   obtain ⟨o, w', g1, g2, g3⟩ := e_re_call (ML1 := ML1) HK hvd c2 d1 hcat d2 hz
                   rw [c3] at g2
                   have pre : ∀ kk oo, m_aft ro kk d mid p2 ML1 [v1, v0] w' o = some oo → ∃ k', m_run ro k' d mid pc ML1 [] w = some oo := by
                     intro kk oo hkk
                     obtain ⟨k1, hk1⟩ := g3 kk oo hkk
                     obtain ⟨k2, hk2⟩ := d3 k1 oo hk1
                     exact a3 k2 oo hk2
                   have thrown : ∀ (c : Int) (hh : e_X), o = .inr (e_ex c) → (match q_h mid p2 (e_ex c) with
                       | some hq => e_ct v mid hv hh (e_gd G hq.2) hq.1
                       | none => (match hh with
                         | .num _ => true
                         | _ => false)) = true → SizeOf.sizeOf hh ≤ n → e_tv K J hh L z.2 = some r → e_ends ro d mid v pc ML1 w r := by
                     intro c hh ho hck hsz heh
                     split at hck
                     · rename_i hq hqq
                       obtain ⟨k, o2, w3, f1, f2, f3⟩ := ih hh hsz (e_gd G hq.2) hq.1 hck L z.2 r heh (m_drop ML1 hq.2) w' (e_lr_gd hL) g1
                       subst ho
                       obtain ⟨k', hk'⟩ := pre k (o2, w3) (by simp only [m_aft, hqq]; exact f1)
                       exact ⟨k', o2, w3, hk', f2, f3⟩
                     · rw [e_num_none hck] at heh; cases heh
                   rcases g2 with ⟨ov, rfl, mv, rfl, hmv⟩ | ⟨-, ⟨hz1, ho⟩ | ⟨hz1, ho⟩⟩
                   · obtain ⟨y, rfl, hy⟩ := hmv
                     have hr1 := e_range_tab hy
                     rw [if_neg (by omega), if_neg (by omega)] at he
                     obtain ⟨M2, hM2, he⟩ := Option.bind_eq_some_iff.mp he
                     rw [e0] at hM2
                     obtain ⟨w3, f1, f2⟩ := e_re_las (d := d) (ML1 := ML1) (st := []) c4 g1 rfl c1 b0 b1 ⟨y, rfl, hy⟩ hM2
                     obtain ⟨k, o2, w4, f3, f4, f5⟩ := ih t (by omega) G _ c5 L M2 r he ML1 w3 hL f1
                     obtain ⟨k1, hk1⟩ := f2 k _ f3
                     obtain ⟨k', hk'⟩ := pre k1 (o2, w4) hk1
                     exact ⟨k', o2, w4, hk', f4, f5⟩
                   · rw [if_pos hz1] at he
                     exact thrown 0 h1 ho c6 (by omega) he
                   · rw [if_neg (by omega), if_pos hz1] at he
                     exact thrown 1 h2 ho c7 (by omega) he
                 · cases hc
               · cases hc
             | _ => simp [e_ct] at hc
           | _ => simp [e_ct] at hc
         | _ => simp [e_ct] at hc
       | _ => simp [e_ct] at hc
     | _ => simp [e_ct] at hc
end ECT
