theorem q_ct0_p0 : (((q_ct0.drop 0).take 24).all (q_mchk (q_cn.getD 0 ""))) = true := by decide +kernel
theorem q_ct0_p1 : (((q_ct0.drop 24).take 24).all (q_mchk (q_cn.getD 0 ""))) = true := by decide +kernel
theorem q_ct0_ok : (q_ct0.all (q_mchk (q_cn.getD 0 ""))) = true := q_parts 24 (m := 2) (by decide +kernel) (fun j hj => match j, hj with
  | 0, _ => q_ct0_p0
  | 1, _ => q_ct0_p1
  | n + 2, h => absurd h (by omega))
theorem q_ct1_ok : (q_ct1.all (q_mchk (q_cn.getD 1 ""))) = true := by decide +kernel
theorem q_ct2_ok : (q_ct2.all (q_mchk (q_cn.getD 2 ""))) = true := by decide +kernel
theorem q_ct3_ok : (q_ct3.all (q_mchk (q_cn.getD 3 ""))) = true := by decide +kernel
theorem q_ct4_ok : (q_ct4.all (q_mchk (q_cn.getD 4 ""))) = true := by decide +kernel
theorem q_ct5_ok : (q_ct5.all (q_mchk (q_cn.getD 5 ""))) = true := by decide +kernel
theorem q_ct6_ok : (q_ct6.all (q_mchk (q_cn.getD 6 ""))) = true := by decide +kernel
theorem q_ct7_ok : (q_ct7.all (q_mchk (q_cn.getD 7 ""))) = true := by decide +kernel
theorem q_ct8_ok : (q_ct8.all (q_mchk (q_cn.getD 8 ""))) = true := by decide +kernel
theorem q_ct9_ok : (q_ct9.all (q_mchk (q_cn.getD 9 ""))) = true := by decide +kernel
theorem q_ct10_ok : (q_ct10.all (q_mchk (q_cn.getD 10 ""))) = true := by decide +kernel
