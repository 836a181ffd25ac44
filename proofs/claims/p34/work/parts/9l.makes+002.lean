theorem r_mo_loop {p kd most kinds : Int} {g0 : Int → Int} {M0 : EM} (hp : p < 40) (hW : r_W g0) (hpc : g0 1198 = p) (hb : r_bl M0) (hkd : kd = 2 ∧ most = 6 ∧ kinds = 3 ∨ kd = 3 ∧ most = 1 ∧ kinds = 7) : ∀ (m : Nat) (n x5 x6 : Int) (M : EM), r_mk p kd g0 M0 M → (M0 192 17 - M 192 15).toNat ≤ m → (0 ≤ M 192 15 ∧ M 192 15 ≤ 120) → (0 ≤ n ∧ n ≤ 6) → (x5 = 0 ∨ x5 = 1) → (x5 = 1 → ∀ k, 0 ≤ k → k < n → r_mem kd g0 p (r_G M (28 * p + 3 + k))) → r_MO p kd most g0 M0 M (E_V 187 6 [192, p, most, kinds, n, x5, x6] M) := by
  intro m
  induction m with
  | zero =>
    intro n x5 x6 M hk hm hq hn hx hmm
    exact r_mo_step hp hW hpc hb hkd hk hq hn hx hmm (fun M1 n x5 x6 h1 h2 h3 h4 h5 h6 => by omega)
  | succ m ih =>
    intro n x5 x6 M hk hm hq hn hx hmm
    have hb3 := hb.2.2
    exact r_mo_step hp hW hpc hb hkd hk hq hn hx hmm (fun M1 n x5 x6 h1 h2 h3 h4 h5 h6 => ih n x5 x6 M1 h1 (by omega) ⟨by omega, by omega⟩ h4 h5 h6)
theorem r_makesOver {p kd most kinds : Int} {g0 : Int → Int} {M0 M : EM} (hp : p < 40) (hW : r_W g0) (hpc : g0 1198 = p) (hb : r_bl M0) (hkd : kd = 2 ∧ most = 6 ∧ kinds = 3 ∨ kd = 3 ∧ most = 1 ∧ kinds = 7) (hk : r_mk p kd g0 M0 M) (hq : 0 ≤ M 192 15 ∧ M 192 15 ≤ 120) : r_MO p kd most g0 M0 M (E_C 187 [192, p, most, kinds] M) := by
  obtain ⟨r, M', k, z⟩ := r_mo_loop hp hW hpc hb hkd _ 0 1 0 M hk (Nat.le_refl _) hq (by decide) (Or.inr rfl) (fun _ k k0 k1 => by omega)
  refine ⟨r, M', ?_, z⟩
  rw [r_ent (show e_rok 187 [192, p, most, kinds] = true from decide_eq_true r_ref)]
  show e_tv E_C (E_V 187) e_t187_0 [192, p, most, kinds, 0, 0, 0] M = _
  unfold e_t187_0
  simp [e_tv, e_ev, e_sv, e_b1, e_b2, x_o1, x_o2, k]

