theorem q_ct11_p0 : (((q_ct11.drop 0).take 24).all (q_mchk (q_cn.getD 11 ""))) = true := by decide +kernel
theorem q_ct11_p1 : (((q_ct11.drop 24).take 24).all (q_mchk (q_cn.getD 11 ""))) = true := by decide +kernel
theorem q_ct11_p2 : (((q_ct11.drop 48).take 24).all (q_mchk (q_cn.getD 11 ""))) = true := by decide +kernel
theorem q_ct11_p3 : (((q_ct11.drop 72).take 24).all (q_mchk (q_cn.getD 11 ""))) = true := by decide +kernel
theorem q_ct11_ok : (q_ct11.all (q_mchk (q_cn.getD 11 ""))) = true := q_parts 24 (m := 4) (by decide +kernel) (fun j hj => match j, hj with
  | 0, _ => q_ct11_p0
  | 1, _ => q_ct11_p1
  | 2, _ => q_ct11_p2
  | 3, _ => q_ct11_p3
  | n + 4, h => absurd h (by omega))
