theorem a_c266 : (a_rok 266 [a_T32] && a_an [] (a_orc []) 60 266 [] (a_ent 266 [a_T32]) (.mulL 4 (.num 0))) = true := by decide +kernel
theorem c_bits {x : Int} {M : EM} (hM : a_M M) (hx : -2147483648 ≤ x ∧ x ≤ 2147483647) : ∃ r, E_C 266 [x] M = some (r, M) := by
  obtain ⟨r, M', h1, h2, h3, h4⟩ := a_entry a_c266 (as := [x]) ⟨a_T32_ok hx, trivial⟩ hM
  have := c_same h4
  subst this
  exact ⟨r, h1⟩
theorem c_bw {p x : Int} {M : EM} (hM : a_M M) (hp : -2147483648 ≤ p ∧ p ≤ 2147483647) (hx : -2147483648 ≤ x ∧ x ≤ 2147483647) : ∃ r M', E_C 160 [8, p, x] M = some (r, M') ∧ a_M M' ∧ a_fr a_w160 M M' := by
  obtain ⟨r, M', h1, h2, h3, h4⟩ := a_entry a_c160 (as := [8, p, x]) ⟨List.mem_cons_self, a_gi hp.1 hp.2, a_gi hx.1 hx.2, trivial⟩ hM
  exact ⟨r, M', h1, h3, h4⟩
theorem c_loss_loop {p c al own : Int} (hp : -2147483648 ≤ p ∧ p ≤ 2147483647) : ∀ (m : Nat) (o sum y6 x8 x9 : Int) (M : EM), a_M M → (16 - o).toNat ≤ m → 0 ≤ o → o ≤ 16 → (-9223372036854775808 ≤ sum ∧ sum ≤ 9223372036854775807) →
    a_OUT a_w160 a_T64 M (E_V 132 67 [8, p, c, al, own, sum, y6, o, x8, x9] M) := by
  intro m
  induction m with
  | zero =>
    intro o sum y6 x8 x9 M hM hm h0 h16 hs
    rw [E_V_eq]
    show a_OUT _ _ _ (e_tv E_C (E_V 132) e_t132_67 [8, p, c, al, own, sum, y6, o, x8, x9] M)
    unfold e_t132_67
    have hlt : ¬ (o < 16) := by omega
    exact ⟨sum, M, by simp [e_tv, e_ev, e_sv, e_op, e_b1, e_b2, hlt], a_T64_ok hs, hM, a_fr_rf⟩
  | succ m ih =>
    intro o sum y6 x8 x9 M hM hm h0 h16 hs
    have h124 : ∀ (sum y6 x8 x9 : Int) (M : EM), E_V 132 124 [8, p, c, al, own, sum, y6, o, x8, x9] M = E_V 132 67 [8, p, c, al, own, sum, y6, e_w (o + 1), x8, x9] M := by
      intro sum y6 x8 x9 M
      rw [E_V_eq]
      show e_tv E_C (E_V 132) e_t132_124 [8, p, c, al, own, sum, y6, o, x8, x9] M = _
      unfold e_t132_124
      simp [e_tv, e_ev, e_sv]
    rw [E_V_eq]
    show a_OUT _ _ _ (e_tv E_C (E_V 132) e_t132_67 [8, p, c, al, own, sum, y6, o, x8, x9] M)
    by_cases hlt : o < 16
    · have hw : e_w (o + 1) = o + 1 := a_w_id (by omega) (by omega)
      by_cases hand : e_bit (fun x y => x &&& y) o own = 0
      · obtain ⟨b1, M1, g1, g2, g3⟩ := c_bw hM hp (a_bit (fun x y => x ||| y) o own)
        obtain ⟨b2, M2, k1, k2, k3⟩ := c_bw (x := o) g2 hp ⟨by omega, by omega⟩
        obtain ⟨n, n1⟩ := c_bits (x := o) k2 ⟨by omega, by omega⟩
        have hat := c_at 2 n M2 (Or.inr ⟨by decide, by decide +kernel, by decide +kernel⟩)
        generalize hv : (if (2 : Int) ≠ -1 ∧ 0 ≤ n ∧ n < ((e_sh (2 : Int).toNat).2 : Int) then M2 (2 : Int).toNat n.toNat else 0) = v at hat
        have hrec := ih (o + 1) (e_W (sum + e_W (e_W (b1 - b2) * v))) y6 (e_W (b1 - b2)) x9 M2 k2 (by omega) (by omega) (by omega) (a_W' _)
        refine a_OUT_tr (a_fr_tr g3 k3) ?_
        have he : e_tv E_C (E_V 132) e_t132_67 [8, p, c, al, own, sum, y6, o, x8, x9] M = E_V 132 67 [8, p, c, al, own, e_W (sum + e_W (e_W (b1 - b2) * v)), y6, o + 1, e_W (b1 - b2), x9] M2 := by
          unfold e_t132_67
          simp [e_tv, e_ev, e_sv, e_op, e_b1, e_b2, hlt, hand, g1, k1, n1, hat, h124, hw]
        rw [he]
        exact hrec
      · have hrec := ih (o + 1) sum y6 x8 x9 M hM (by omega) (by omega) (by omega) hs
        have he : e_tv E_C (E_V 132) e_t132_67 [8, p, c, al, own, sum, y6, o, x8, x9] M = E_V 132 67 [8, p, c, al, own, sum, y6, o + 1, x8, x9] M := by
          unfold e_t132_67
          simp [e_tv, e_ev, e_sv, e_op, e_b1, e_b2, hlt, hand, h124, hw]
        rw [he]
        exact hrec
    · unfold e_t132_67
      exact ⟨sum, M, by simp [e_tv, e_ev, e_sv, e_op, e_b1, e_b2, hlt], a_T64_ok hs, hM, a_fr_rf⟩
theorem c_loss {p c al : Int} {M : EM} (hM : a_M M) (hp : -2147483648 ≤ p ∧ p ≤ 2147483647) (hc : -2147483648 ≤ c ∧ c ≤ 2147483647) : c_OUT a_w160 a_T64 M (E_C 132 [8, p, c, al] M) := by
  have h1 : E_C 132 [8, p, c, al] M = e_tv E_C (E_V 132) e_t132_0 [8, p, c, al, 0, 0, 0, 0, 0, 0] M := by
    unfold E_C
    rw [if_pos (show e_rok 132 [8, p, c, al] = true from decide_eq_true c_this), E_V_eq]
    rfl
  rw [h1]
  unfold e_t132_0
  obtain ⟨r, r1, r2, r3⟩ := c_isPart hM hp
  by_cases q0 : r = 0
  · subst q0
    refine ⟨e_TH, c_thr M, ?_, Or.inr ⟨Or.inl rfl, rfl⟩⟩
    simp [e_tv, e_ev, e_op, e_b1, e_b2, r1, c_thr]
  · by_cases q1 : 0 ≤ c
    · by_cases q2 : 4 ≤ c
      · refine ⟨e_TH, c_thr M, ?_, Or.inr ⟨Or.inl rfl, rfl⟩⟩
        simp [e_tv, e_ev, e_op, e_b1, e_b2, r1, q0, q1, q2, c_thr]
      · generalize ho : e_bit (fun x y => x <<< (y &&& 31)) 1 c = own
        have hor : -2147483648 ≤ own ∧ own ≤ 2147483647 := by rw [← ho]; exact a_bit _ _ _
        by_cases q3 : al = 0
        · obtain ⟨b1, M1, g1, g2, g3⟩ := c_bw (x := e_w (e_w (2 * own) - 1)) hM hp (a_w _)
          obtain ⟨b2, M2, k1, k2, k3⟩ := c_bw (x := e_w (own - 1)) g2 hp (a_w _)
          refine ⟨e_W (b1 - b2), M2, ?_, Or.inl ⟨a_T64_ok (a_W' _), k2, a_fr_tr g3 k3⟩⟩
          simp [e_tv, e_ev, e_sv, e_op, e_b1, e_b2, r1, q0, q1, q2, q3, ho, g1, k1]
        · obtain ⟨r', M', f1, f2, f3, f4⟩ := c_loss_loop (c := c) (al := al) (own := own) hp 16 0 0 0 0 0 M hM (by decide) (by decide) (by decide) (by decide)
          refine ⟨r', M', ?_, Or.inl ⟨f2, f3, f4⟩⟩
          simp [e_tv, e_ev, e_sv, e_op, e_b1, e_b2, r1, q0, q1, q2, q3, ho, f1]
    · refine ⟨e_TH, c_thr M, ?_, Or.inr ⟨Or.inl rfl, rfl⟩⟩
      simp [e_tv, e_ev, e_op, e_b1, e_b2, r1, q0, q1, c_thr]
