section MSOUND
variable {l : Launch} {base : Nat} {roa : Nat → Nat} {ro : MRo} {tA : Nat → ClassId} {D : va_G} {tys : List (ClassId × FieldType)} {XF : State → Heap → Prop}
set_option maxHeartbeats 8000000 in
/-- THE JAVA MACHINE COMES WHERE THE SMALL MACHINE COMES -/
theorem m_sound (hX : m_X3 base XF) (hT : m_Throw l base XF) (hC : m_Catch l XF) (hSt : m_Stat l base roa XF) : ∀ (n d mid pc : Nat) (L : ML) (st : List MV) (w : MWd) (o : MOut) (w' : MWd), m_run ro n d mid pc L st w = some (o, w') → m_Ok l base roa ro tA D tys XF d mid pc L st w o w' := by
  intro n
  induction n with
  | zero => intro d mid pc L st w o w' h; cases h
  | succ n ih =>
    intro d mid pc L st w o w' h p e R s m args below meth c H locs cells slots kc ks Z ls hx hb hml hown hts hin hG hl hP hS h8 hnc hfr hdR hdL hkR hsR hk1 hk2 hZr hZt hCt
    have go : ∀ (d' pc' : Nat) (L' : ML) (st' : List MV) (w1 : MWd) (H1 : Heap) (locs1 : List Loc) (cells1 slots1 : Nat) (ls' : Array Slot), m_run ro n d' mid pc' L' st' w1 = some (o, w') → d' = d → lv_has ls' (q_nl mid) (ml_val (m_ad base roa) L') → va_P D vwCl (m_ws base roa tA w1) H1 → va_S (fun q => base ≤ q) s.heap H1 locs1 → m_gr w w1 → (mcx w1 + 8 = mnx w1 → mcx w + 8 = mnx w) →
        cells1 = cells + (mcx w1 - mcx w) → slots1 = slots + (msl w1 - msl w) → W p l e R s m args below meth c H1 locs1 cells1 slots1 Z (F0 m pc' ls' (st'.map (m_val (m_ad base roa)))) := by
      intro d' pc' L' st' w1 H1 locs1 cells1 slots1 ls' hr hdd hl' hP1 hS1 hg hff ec es
      subst hdd
      have hg2 := m_run_gr ro _ _ _ _ _ _ _ _ hr
      obtain ⟨a1, a2, a3, a4⟩ := hg
      obtain ⟨b1, b2, b3, b4⟩ := hg2
      dsimp only at b1 b2 b3 b4
      refine ih _ _ _ _ _ _ _ _ hr p e R s m args below meth c H1 locs1 cells1 slots1 kc ks Z ls' hx hb hml hown hts hin hG hl' hP1 hS1 (Nat.le_trans h8 a1) (by omega) (fun hf => ?_) hdR hdL hkR hsR (by omega) (by omega) hZr hZt hCt
      have := hfr (hff hf)
      omega
    have gr := m_gr_rf w
    have ec : cells = cells + (mcx w - mcx w) := by omega
    have es : slots = slots + (msl w - msl w) := by omega
    unfold m_run at h
    split at h
    · rename_i E hth
      split at h
      · rename_i hc
        obtain ⟨h10, hst⟩ := hc
        subst hst
        cases h
        have e1 : mcx (m_thr w) - mcx w = 1 := by show w.2.1 + 1 - w.2.1 = 1; omega
        have e2 : msl (m_thr w) - msl w = 6 := by show w.2.2.1 + 6 - w.2.2.1 = 6; omega
        rw [e1] at hk1
        rw [e2] at hk2
        have hz := hZt E rfl pc ls H locs w hth rfl (hl.1.trans hml.symm) (by omega) (by omega) (by omega) (by omega) hP hS
        rw [show kc - 1 = cells by omega, show ks - 6 = slots by omega] at hz
        exact hz
      · cases h
    split at h
    · cases h
    rename_i hth i hi
    obtain ⟨len, hd, hn⟩ := q_i_ok hi
    split at h
    · rename_i r h1
      exact m_pure_W hx hb h1 hd hn hl (fun ls' hl' => go d _ _ _ w H locs cells slots ls' h rfl hl' hP hS gr id ec es)
    split at h
    · rename_i h0 r h1
      have hl2 := m_heap_len h1 hn
      obtain ⟨f1, f2, f3⟩ := m_heap_same h1
      refine m_heap_W hx hb hown hts hin hG.1 hG.2.1 hG.2.2.1 h1 hd hn hP hS (fun H1 locs1 hP1 hS1 => ?_)
      rw [hl2]
      exact go d _ _ _ r.2 H1 locs1 cells slots ls h rfl hl hP1 hS1 (m_heap_gr h1) (fun hf => by omega) (by omega) (by omega)
    split at h
    · rename_i h00 h0 r h1
      have hl2 := m_new_len h1 hn
      have hg2 := m_run_gr ro _ _ _ _ _ _ _ _ h
      obtain ⟨b1, b2, b3, b4⟩ := hg2
      obtain ⟨a1, a2, a3, a4⟩ := m_new_gr h1
      dsimp only at b1 b2 b3 b4
      refine m_new_W hx hb hown hts hG.1 hG.2.1 hG.2.2.2.2.1 h1 hd hn hP hS h8 hG.2.2.2.2.2.2 hfr (by omega) (by omega) (fun H1 hP1 hS1 => ?_)
      rw [hl2]
      exact go d _ _ _ r.2 H1 locs _ _ ls h rfl hl hP1 hS1 (m_new_gr h1) (fun _ => m_new_fresh h1) rfl rfl
    split at h
    · rename_i v h1
      cases h
      have hz := hZr v rfl i len pc ls H locs st h1 hd hn hP hS
      rw [show kc = cells by omega, show ks = slots by omega] at hz
      exact hz
    split at h
    · rename_i st' h1
      split at h
      · cases h
      · rename_i hd0
        exact m_obj_W hx hb hml hl.1 hown hts h1 hd hn (by omega) (by omega) (by omega) (by omega) (go d _ _ _ w H locs cells slots ls h rfl hl hP hS gr id ec es)
    split at h
    · rename_i v h1
      unfold m_con at h1
      have hd1 : m_len i ≠ 0 → decode (q_b mid) pc = .ok (i, m_len i) := fun h0 => by rw [hn.resolve_right h0]; exact hd
      split at h1
      · split at h1
        · rename_i hq
          cases h1
          rcases q_k_ok hq with ⟨x, hx1, hx2⟩ | ⟨x, hx1, hx2⟩
          · cases hx1
            exact lv_ldc hx hb hown (hts _ hx2) (hd1 (by simp [m_len])) (go d _ _ _ w H locs cells slots ls h rfl hl hP hS gr id ec es)
          · cases hx1
        · cases h1
      · split at h1
        · rename_i hq
          cases h1
          rcases q_k_ok hq with ⟨x, hx1, hx2⟩ | ⟨x, hx1, hx2⟩
          · cases hx1
            exact lv_ldcw hx hb hown (hts _ hx2) (hd1 (by simp [m_len])) (go d _ _ _ w H locs cells slots ls h rfl hl hP hS gr id ec es)
          · cases hx1
        · cases h1
      · split at h1
        · rename_i hq
          cases h1
          rcases q_k_ok hq with ⟨x, hx1, hx2⟩ | ⟨x, hx1, hx2⟩
          · cases hx1
          · cases hx1
            exact lv_ldc2 hx hb hown (hts _ hx2) (hd1 (by simp [m_len])) (go d _ _ _ w H locs cells slots ls h rfl hl hP hS gr id ec es)
        · cases h1
      · split at h1
        · rename_i a hq
          cases h1
          have ha8 := q_s_lt hq
          refine hSt mid pc _ a hq p e R s m args below meth c H locs cells slots Z ls _ hx hb hown hts hG.2.2.2.2.2.1 hS (hd1 (by simp [m_len])) ?_
          have hgo := go d _ _ _ w H locs cells slots ls h rfl hl hP hS gr id ec es
          rw [List.map_cons, show m_val (m_ad base roa) (.inr (.inr (some a))) = .ref (roa a) by show Value.ref (m_ad base roa a) = _; rw [m_ad_lo ha8]] at hgo
          exact hgo
        · cases h1
      · cases h1
    split at h
    · rename_i r h1
      split at h
      · cases h
      · rename_i hd0
        obtain ⟨f1, f2, f3⟩ := m_cpy_same h1
        refine m_cpy_W hx hb (hml.trans hl.1.symm) hown hts hG.1 hG.2.1 h1 hd hn hP hS (by omega) (by omega) (fun H1 locs1 hP1 hS1 => ?_)
        exact go d _ _ _ r.2 H1 locs1 cells slots ls h rfl hl hP1 hS1 (m_cpy_gr h1) (fun hf => by omega) (by omega) (by omega)
    split at h
    · cases h
    rename_i z h1
    split at h
    · cases h
    rename_i d'
    split at h
    · cases h
    · rename_i v w1 h2
      have hg1 := m_run_gr ro _ _ _ _ _ _ _ _ h2
      have hg2 := m_run_gr ro _ _ _ _ _ _ _ _ h
      obtain ⟨a1, a2, a3, a4⟩ := hg1
      obtain ⟨b1, b2, b3, b4⟩ := hg2
      dsimp only at a1 a2 a3 a4 b1 b2 b3 b4
      exact m_callW hX hC hx hb hml hown hts hG hP hS h8 hnc hfr hdR hdL (by omega) (by omega) hl.1 h1 hd hn (ih _ _ _ _ _ _ _ _ h2)
        (fun H1 locs1 hP1 hS1 => go (d' + 1) _ _ _ w1 H1 locs1 _ _ ls h rfl hl hP1 hS1 ⟨a1, a2, a3, a4⟩ (fun hf => by omega) rfl rfl)
    · rename_i E w1 h2
      have hg1 := m_run_gr ro _ _ _ _ _ _ _ _ h2
      split at h
      · cases h
      · rename_i hh hq
        obtain ⟨idx, hi2⟩ := q_h_ok hq
        cases hi.symm.trans hi2
        have hg2 := m_run_gr ro _ _ _ _ _ _ _ _ h
        obtain ⟨a1, a2, a3, a4⟩ := hg1
        obtain ⟨b1, b2, b3, b4⟩ := hg2
        dsimp only at a1 a2 a3 a4 b1 b2 b3 b4
        have hd3 : decode (q_b mid) pc = .ok (.invokevirtual idx, 3) := by
          rcases hn with hn | hn
          · rw [← hn] at hd; exact hd
          · exact absurd hn (by simp [m_len])
        refine m_le fun hle0 => ?_
        have hle : mcx w + 8 = mnx w → H.size ≤ base + mcx w := fun hf => Nat.le_trans hle0 (hfr hf)
        obtain ⟨idx2, kd, Bs, hqm, hBl, hrest, hcats, hcase⟩ := m_call_ok h1
        rcases hcase with ⟨e1, -⟩ | ⟨e1, rfl, a, hz, rfl, ha8, han, hak, hrc⟩ | ⟨e1, -⟩
        · cases e1
        · cases e1
          have hpre := m_pre hX (As := z.2.1) hG hP hS hle
          have hW8 : ((z.2.2.map (m_val (m_ad base roa))).map (fun v => v.category)).sum ≤ 8 := by rw [m_cats_val]; exact hrest
          have hok := ih _ _ _ _ _ _ _ _ h2
          rw [List.map_append, List.map_reverse, List.map_cons]
          rw [hz] at hpre hok hcats
          have hg5 := q_m_ok hqm (by omega) (by omega)
          have hcode := q_m_code hqm (by omega) (by omega) (by omega)
          have hM := m_metx hT hg5 hcats h8 hnc (q_nh hqm (by omega) (by omega) (by omega)) ⟨a1, a2, a3, a4⟩ hok (fun _ _ _ _ => False)
          obtain ⟨hl1, hl2, hl3, rc, T, N, hrc2, hcl⟩ := q_m0 hqm
          cases hrc.symm.trans hrc2
          have he := m_ws_at (base := base) (roa := roa) (tA := tA) ha8 han
          rw [show msh w a = ((msh w a).1, (msh w a).2) from rfl, m_fld_cell hak] at he
          have hS4 : CallFix p m c (q_b mid) (q_nl mid) s args q_W (q_y mid).cls := ⟨hx, hb, hml, hown, hts⟩
          exact m_callx (vx_runV hS4 hM ⟨callB_of _ hts (q_goodIn (fun w hw => (List.mem_cons.mp hw).elim (fun e => e ▸ hcode) id)) rfl rfl rfl (hts _ hg5.1) (hts _ hl1) hg5.2.1 ⟨hdR, by have := hg5.2.2.2; show 8 + (q_nl z.1 + 11) + 64 * d' ≤ _; omega⟩, hts _ hl2, hts _ hl3⟩ ⟨hpre.1, va_recv hG.1 hP hcl he, hpre.2⟩ rfl (by rw [List.length_map]; exact hBl) hl.1 rfl (lv_room (m := m) (pc := pc) (ls := ls) (rest := []) hW8) hd3 ⟨by omega, by omega⟩) hS
            (fun H1 locs1 q ce hP1 hS1 hce hcv hcl2 => hCt pc E hh hq H1 locs1 _ _ L ls _ q ce hl hce hcv hcl2 (fun ls' hl' => go (d' + 1) _ _ [] w1 H1 locs1 _ _ ls' h rfl hl' hP1 hS1 ⟨a1, a2, a3, a4⟩ (fun hf => by omega) rfl rfl))
        · cases e1
end MSOUND
