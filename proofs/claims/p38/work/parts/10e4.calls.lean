theorem q_ct12_p0 : (((q_ct12.drop 0).take 24).all (q_mchk (q_cn.getD 12 ""))) = true := by decide +kernel
theorem q_ct12_p1 : (((q_ct12.drop 24).take 24).all (q_mchk (q_cn.getD 12 ""))) = true := by decide +kernel
theorem q_ct12_p2 : (((q_ct12.drop 48).take 24).all (q_mchk (q_cn.getD 12 ""))) = true := by decide +kernel
theorem q_ct12_ok : (q_ct12.all (q_mchk (q_cn.getD 12 ""))) = true := q_parts 24 (m := 3) (by decide +kernel) (fun j hj => match j, hj with
  | 0, _ => q_ct12_p0
  | 1, _ => q_ct12_p1
  | 2, _ => q_ct12_p2
  | n + 3, h => absurd h (by omega))
theorem q_ct13_p0 : (((q_ct13.drop 0).take 24).all (q_mchk (q_cn.getD 13 ""))) = true := by decide +kernel
theorem q_ct13_p1 : (((q_ct13.drop 24).take 24).all (q_mchk (q_cn.getD 13 ""))) = true := by decide +kernel
theorem q_ct13_p2 : (((q_ct13.drop 48).take 24).all (q_mchk (q_cn.getD 13 ""))) = true := by decide +kernel
theorem q_ct13_p3 : (((q_ct13.drop 72).take 24).all (q_mchk (q_cn.getD 13 ""))) = true := by decide +kernel
theorem q_ct13_ok : (q_ct13.all (q_mchk (q_cn.getD 13 ""))) = true := q_parts 24 (m := 4) (by decide +kernel) (fun j hj => match j, hj with
  | 0, _ => q_ct13_p0
  | 1, _ => q_ct13_p1
  | 2, _ => q_ct13_p2
  | 3, _ => q_ct13_p3
  | n + 4, h => absurd h (by omega))
theorem q_ct14_ok : (q_ct14.all (q_mchk (q_cn.getD 14 ""))) = true := by decide +kernel
theorem q_ct15_ok : (q_ct15.all (q_mchk (q_cn.getD 15 ""))) = true := by decide +kernel
theorem q_ct16_ok : (q_ct16.all (q_mchk (q_cn.getD 16 ""))) = true := by decide +kernel
theorem q_ct_ok : ∀ (c : Nat), ((q_ct.getD c []).all (q_mchk (q_cn.getD c ""))) = true
  | 0 => q_ct0_ok
  | 1 => q_ct1_ok
  | 2 => q_ct2_ok
  | 3 => q_ct3_ok
  | 4 => q_ct4_ok
  | 5 => q_ct5_ok
  | 6 => q_ct6_ok
  | 7 => q_ct7_ok
  | 8 => q_ct8_ok
  | 9 => q_ct9_ok
  | 10 => q_ct10_ok
  | 11 => q_ct11_ok
  | 12 => q_ct12_ok
  | 13 => q_ct13_ok
  | 14 => q_ct14_ok
  | 15 => q_ct15_ok
  | 16 => q_ct16_ok
  | n + 17 => rfl
theorem q_ai_ok : Cond.arrayClass .int ∈ q_W ∧ Cond.arrayClass .long ∈ q_W := ⟨q_w_ok (pl := 175) (by decide +kernel), q_w_ok (pl := 1884) (by decide +kernel)⟩
