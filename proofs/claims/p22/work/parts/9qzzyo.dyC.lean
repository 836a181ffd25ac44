/-! what shades and strength ask is there -/
/-- all that shades and strength ask -/
theorem h_dyC {M : EM} (hR : h_R M) (hQ : h_Q M) (hZ : h_Z M) (hE : h_E M) : dy_C M (r_G M) := by
  refine ⟨hd_Rall hR hQ hZ, rfl, ⟨fun j hj => ?_, fun j hj => ?_, hE.1.2, hE.2.1⟩, hQ.2.2.2.1⟩
  · obtain ⟨i0, i1, i2⟩ := p_inW j hj
    have e0 : (1120 + 3 * (j : Int)).toNat = 1120 + 3 * j := by omega
    have e1 : (1120 + 3 * (j : Int) + 1).toNat = 1120 + 3 * j + 1 := by omega
    have e2 : (1120 + 3 * (j : Int) + 2).toNat = 1120 + 3 * j + 2 := by omega
    unfold r_G
    rw [e0, e1, e2]
    exact ⟨hR.1.1 _ i0, hR.1.1 _ i1, hR.1.1 _ i2⟩
  · obtain ⟨i0, i1, -, -⟩ := p_inS j hj
    have e0 : (1150 + 2 * (j : Int)).toNat = 1150 + 2 * j := by omega
    have e1 : (1150 + 2 * (j : Int) + 1).toNat = 1150 + 2 * j + 1 := by omega
    unfold r_G
    rw [e0, e1]
    exact ⟨hR.1.1 _ i0, hR.1.1 _ i1⟩
