theorem q_u0 : ((List.range 19).all fun k => q_w (u_lay RX0 TX0 k) (([452, 454, 456, 458, 460, 462, 464, 466, 468, 470, 472, 474, 476, 478, 480, 482, 484, 486, 488] : List Nat).getD k 0)) = true := by decide +kernel
theorem q_u1 : ((List.range 6).all fun k => q_w (u_lay RX1 TX1 k) (([198, 200, 202, 204, 206, 208] : List Nat).getD k 0)) = true := by decide +kernel
theorem q_u2 : ((List.range 4).all fun k => q_w (u_lay RX2 TX2 k) (([523, 525, 527, 529] : List Nat).getD k 0)) = true := by decide +kernel
theorem q_u3 : ((List.range 5).all fun k => q_w (u_lay RX3 TX3 k) (([309, 311, 313, 315, 317] : List Nat).getD k 0)) = true := by decide +kernel
theorem q_u4 : ((List.range 8).all fun k => q_w (u_lay RX4 TX4 k) (([158, 160, 162, 164, 166, 168, 170, 172] : List Nat).getD k 0)) = true := by decide +kernel
theorem q_u5 : ((List.range 16).all fun k => q_w (u_lay RX5 TX5 k) (([388, 390, 392, 394, 396, 398, 400, 402, 404, 406, 408, 410, 412, 414, 416, 418] : List Nat).getD k 0)) = true := by decide +kernel
theorem q_u6 : ((List.range 8).all fun k => q_w (u_lay RX6 TX6 k) (([233, 235, 237, 239, 241, 243, 245, 247] : List Nat).getD k 0)) = true := by decide +kernel
theorem q_u7 : ((List.range 5).all fun k => q_w (u_lay RX7 TX7 k) (([284, 286, 288, 290, 292] : List Nat).getD k 0)) = true := by decide +kernel
theorem q_u8 : ((List.range 7).all fun k => q_w (u_lay RX8 TX8 k) (([351, 353, 355, 357, 359, 361, 363] : List Nat).getD k 0)) = true := by decide +kernel
theorem q_u9 : ((List.range 4).all fun k => q_w (u_lay RX9 TX9 k) (([263, 265, 267, 269] : List Nat).getD k 0)) = true := by decide +kernel
theorem q_u10 : ((List.range 4).all fun k => q_w (u_lay RX10 TX10 k) (([504, 506, 508, 510] : List Nat).getD k 0)) = true := by decide +kernel
theorem q_u11 : ((List.range 10).all fun k => q_w (u_lay RX11 TX11 k) (([542, 544, 546, 548, 550, 552, 554, 556, 558, 560] : List Nat).getD k 0)) = true := by decide +kernel
theorem q_u12 : ((List.range 40).all fun k => q_w (u_lay RX12 TX12 k) (([1388, 1390, 1392, 1394, 1396, 1398, 1400, 1402, 1404, 1406, 1408, 1410, 1412, 1414, 1416, 1418, 1420, 1422, 1424, 1426, 1428, 1430, 1432, 1434, 1436, 1438, 1440, 1442, 1444, 1446, 1448, 1450, 1452, 1454, 1456, 1458, 1460, 1462, 1464, 1466] : List Nat).getD k 0)) = true := by decide +kernel
theorem q_u_ok {R : String} {T : u_T} {N : Nat} {pl : List Nat} (h : ((List.range N).all fun k => q_w (u_lay R T k) (pl.getD k 0)) = true) : ∀ w ∈ u_ws R T N, w ∈ q_W := by
  intro w hw
  obtain ⟨k, hk, rfl⟩ := List.mem_map.mp hw
  exact q_w_ok (List.all_eq_true.mp h k hk)
theorem q_cl_ok {ci : Nat} {C : String} {T : u_T} {N : Nat} (h : vwCl[ci]? = some (C, T, N)) : ci < 100 ∧ q_nf ci = N ∧ (∀ w ∈ u_ws C T N, w ∈ q_W) ∧ (∀ k, k < N → parseFieldDescriptor (T k).2.2.1 = some (q_ty ci k)) ∧ (∀ a, a < N → ∀ b, b < N → a ≠ b → (T a).2.1 ≠ (T b).2.1) ∧ (∀ k, k < N → q_tyok (q_ty ci k) = true) :=
  match ci, h with
  | 0, h => by cases h; exact ⟨by decide, rfl, q_u_ok q_u0, tyX0_ok, nmX0, by decide +kernel⟩
  | 1, h => by cases h; exact ⟨by decide, rfl, q_u_ok q_u1, tyX1_ok, nmX1, by decide +kernel⟩
  | 2, h => by cases h; exact ⟨by decide, rfl, q_u_ok q_u2, tyX2_ok, nmX2, by decide +kernel⟩
  | 3, h => by cases h; exact ⟨by decide, rfl, q_u_ok q_u3, tyX3_ok, nmX3, by decide +kernel⟩
  | 4, h => by cases h; exact ⟨by decide, rfl, q_u_ok q_u4, tyX4_ok, nmX4, by decide +kernel⟩
  | 5, h => by cases h; exact ⟨by decide, rfl, q_u_ok q_u5, tyX5_ok, nmX5, by decide +kernel⟩
  | 6, h => by cases h; exact ⟨by decide, rfl, q_u_ok q_u6, tyX6_ok, nmX6, by decide +kernel⟩
  | 7, h => by cases h; exact ⟨by decide, rfl, q_u_ok q_u7, tyX7_ok, nmX7, by decide +kernel⟩
  | 8, h => by cases h; exact ⟨by decide, rfl, q_u_ok q_u8, tyX8_ok, nmX8, by decide +kernel⟩
  | 9, h => by cases h; exact ⟨by decide, rfl, q_u_ok q_u9, tyX9_ok, nmX9, by decide +kernel⟩
  | 10, h => by cases h; exact ⟨by decide, rfl, q_u_ok q_u10, tyX10_ok, nmX10, by decide +kernel⟩
  | 11, h => by cases h; exact ⟨by decide, rfl, q_u_ok q_u11, tyX11_ok, nmX11, by decide +kernel⟩
  | 12, h => by cases h; exact ⟨by decide, rfl, q_u_ok q_u12, tyX12_ok, nmX12, by decide +kernel⟩
  | n + 13, h => by cases h
theorem q_rec0_ok : ∀ r ∈ q_rec0, q_dec r.2.1 r.2.2.2.2.2.2.2.2 := List.forall_mem_cons.mpr ⟨q_code0_ok, List.forall_mem_cons.mpr ⟨q_code1_ok, List.forall_mem_cons.mpr ⟨q_code2_ok, List.forall_mem_cons.mpr ⟨q_code3_ok, List.forall_mem_cons.mpr ⟨q_code4_ok, List.forall_mem_cons.mpr ⟨q_code5_ok, List.forall_mem_cons.mpr ⟨q_code6_ok, List.forall_mem_cons.mpr ⟨q_code7_ok, List.forall_mem_cons.mpr ⟨q_code8_ok, List.forall_mem_cons.mpr ⟨q_code9_ok, List.forall_mem_cons.mpr ⟨q_code10_ok, List.forall_mem_cons.mpr ⟨q_code11_ok, List.forall_mem_cons.mpr ⟨q_code12_ok, List.forall_mem_cons.mpr ⟨q_code13_ok, List.forall_mem_cons.mpr ⟨q_code14_ok, List.forall_mem_cons.mpr ⟨q_code15_ok, fun _ h => nomatch h⟩⟩⟩⟩⟩⟩⟩⟩⟩⟩⟩⟩⟩⟩⟩⟩
theorem q_rec1_ok : ∀ r ∈ q_rec1, q_dec r.2.1 r.2.2.2.2.2.2.2.2 := List.forall_mem_cons.mpr ⟨q_code16_ok, List.forall_mem_cons.mpr ⟨q_code17_ok, List.forall_mem_cons.mpr ⟨q_code18_ok, List.forall_mem_cons.mpr ⟨q_code19_ok, List.forall_mem_cons.mpr ⟨q_code20_ok, List.forall_mem_cons.mpr ⟨q_code21_ok, List.forall_mem_cons.mpr ⟨q_code22_ok, List.forall_mem_cons.mpr ⟨q_code23_ok, List.forall_mem_cons.mpr ⟨q_code24_ok, List.forall_mem_cons.mpr ⟨q_code25_ok, List.forall_mem_cons.mpr ⟨q_code26_ok, List.forall_mem_cons.mpr ⟨q_code27_ok, List.forall_mem_cons.mpr ⟨q_code28_ok, List.forall_mem_cons.mpr ⟨q_code29_ok, List.forall_mem_cons.mpr ⟨q_code30_ok, List.forall_mem_cons.mpr ⟨q_code31_ok, fun _ h => nomatch h⟩⟩⟩⟩⟩⟩⟩⟩⟩⟩⟩⟩⟩⟩⟩⟩
theorem q_rec2_ok : ∀ r ∈ q_rec2, q_dec r.2.1 r.2.2.2.2.2.2.2.2 := List.forall_mem_cons.mpr ⟨q_code32_ok, List.forall_mem_cons.mpr ⟨q_code33_ok, List.forall_mem_cons.mpr ⟨q_code34_ok, List.forall_mem_cons.mpr ⟨q_code35_ok, List.forall_mem_cons.mpr ⟨q_code36_ok, List.forall_mem_cons.mpr ⟨q_code37_ok, List.forall_mem_cons.mpr ⟨q_code38_ok, List.forall_mem_cons.mpr ⟨q_code39_ok, List.forall_mem_cons.mpr ⟨q_code40_ok, List.forall_mem_cons.mpr ⟨q_code41_ok, List.forall_mem_cons.mpr ⟨q_code42_ok, List.forall_mem_cons.mpr ⟨q_code43_ok, List.forall_mem_cons.mpr ⟨q_code44_ok, List.forall_mem_cons.mpr ⟨q_code45_ok, List.forall_mem_cons.mpr ⟨q_code46_ok, List.forall_mem_cons.mpr ⟨q_code47_ok, fun _ h => nomatch h⟩⟩⟩⟩⟩⟩⟩⟩⟩⟩⟩⟩⟩⟩⟩⟩
theorem q_rec3_ok : ∀ r ∈ q_rec3, q_dec r.2.1 r.2.2.2.2.2.2.2.2 := List.forall_mem_cons.mpr ⟨q_code48_ok, List.forall_mem_cons.mpr ⟨q_code49_ok, List.forall_mem_cons.mpr ⟨q_code50_ok, List.forall_mem_cons.mpr ⟨q_code51_ok, List.forall_mem_cons.mpr ⟨q_code52_ok, List.forall_mem_cons.mpr ⟨q_code53_ok, List.forall_mem_cons.mpr ⟨q_code54_ok, List.forall_mem_cons.mpr ⟨q_code55_ok, List.forall_mem_cons.mpr ⟨q_code56_ok, List.forall_mem_cons.mpr ⟨q_code57_ok, List.forall_mem_cons.mpr ⟨q_code58_ok, List.forall_mem_cons.mpr ⟨q_code59_ok, List.forall_mem_cons.mpr ⟨q_code60_ok, List.forall_mem_cons.mpr ⟨q_code61_ok, List.forall_mem_cons.mpr ⟨q_code62_ok, List.forall_mem_cons.mpr ⟨q_code63_ok, fun _ h => nomatch h⟩⟩⟩⟩⟩⟩⟩⟩⟩⟩⟩⟩⟩⟩⟩⟩
theorem q_rec4_ok : ∀ r ∈ q_rec4, q_dec r.2.1 r.2.2.2.2.2.2.2.2 := List.forall_mem_cons.mpr ⟨q_code64_ok, List.forall_mem_cons.mpr ⟨q_code65_ok, List.forall_mem_cons.mpr ⟨q_code66_ok, List.forall_mem_cons.mpr ⟨q_code67_ok, List.forall_mem_cons.mpr ⟨q_code68_ok, List.forall_mem_cons.mpr ⟨q_code69_ok, List.forall_mem_cons.mpr ⟨q_code70_ok, List.forall_mem_cons.mpr ⟨q_code71_ok, List.forall_mem_cons.mpr ⟨q_code72_ok, List.forall_mem_cons.mpr ⟨q_code73_ok, List.forall_mem_cons.mpr ⟨q_code74_ok, List.forall_mem_cons.mpr ⟨q_code75_ok, List.forall_mem_cons.mpr ⟨q_code76_ok, List.forall_mem_cons.mpr ⟨q_code77_ok, List.forall_mem_cons.mpr ⟨q_code78_ok, List.forall_mem_cons.mpr ⟨q_code79_ok, fun _ h => nomatch h⟩⟩⟩⟩⟩⟩⟩⟩⟩⟩⟩⟩⟩⟩⟩⟩
theorem q_rec5_ok : ∀ r ∈ q_rec5, q_dec r.2.1 r.2.2.2.2.2.2.2.2 := List.forall_mem_cons.mpr ⟨q_code80_ok, List.forall_mem_cons.mpr ⟨q_code81_ok, List.forall_mem_cons.mpr ⟨q_code82_ok, List.forall_mem_cons.mpr ⟨q_code83_ok, List.forall_mem_cons.mpr ⟨q_code84_ok, List.forall_mem_cons.mpr ⟨q_code85_ok, List.forall_mem_cons.mpr ⟨q_code86_ok, List.forall_mem_cons.mpr ⟨q_code87_ok, List.forall_mem_cons.mpr ⟨q_code88_ok, List.forall_mem_cons.mpr ⟨q_code89_ok, List.forall_mem_cons.mpr ⟨q_code90_ok, List.forall_mem_cons.mpr ⟨q_code91_ok, List.forall_mem_cons.mpr ⟨q_code92_ok, List.forall_mem_cons.mpr ⟨q_code93_ok, List.forall_mem_cons.mpr ⟨q_code94_ok, List.forall_mem_cons.mpr ⟨q_code95_ok, fun _ h => nomatch h⟩⟩⟩⟩⟩⟩⟩⟩⟩⟩⟩⟩⟩⟩⟩⟩
theorem q_rec6_ok : ∀ r ∈ q_rec6, q_dec r.2.1 r.2.2.2.2.2.2.2.2 := List.forall_mem_cons.mpr ⟨q_code96_ok, List.forall_mem_cons.mpr ⟨q_code97_ok, List.forall_mem_cons.mpr ⟨q_code98_ok, List.forall_mem_cons.mpr ⟨q_code99_ok, List.forall_mem_cons.mpr ⟨q_code100_ok, List.forall_mem_cons.mpr ⟨q_code101_ok, List.forall_mem_cons.mpr ⟨q_code102_ok, List.forall_mem_cons.mpr ⟨q_code103_ok, List.forall_mem_cons.mpr ⟨q_code104_ok, List.forall_mem_cons.mpr ⟨q_code105_ok, List.forall_mem_cons.mpr ⟨q_code106_ok, List.forall_mem_cons.mpr ⟨q_code107_ok, List.forall_mem_cons.mpr ⟨q_code108_ok, List.forall_mem_cons.mpr ⟨q_code109_ok, List.forall_mem_cons.mpr ⟨q_code110_ok, List.forall_mem_cons.mpr ⟨q_code111_ok, fun _ h => nomatch h⟩⟩⟩⟩⟩⟩⟩⟩⟩⟩⟩⟩⟩⟩⟩⟩
theorem q_rec7_ok : ∀ r ∈ q_rec7, q_dec r.2.1 r.2.2.2.2.2.2.2.2 := List.forall_mem_cons.mpr ⟨q_code112_ok, List.forall_mem_cons.mpr ⟨q_code113_ok, List.forall_mem_cons.mpr ⟨q_code114_ok, List.forall_mem_cons.mpr ⟨q_code115_ok, List.forall_mem_cons.mpr ⟨q_code116_ok, List.forall_mem_cons.mpr ⟨q_code117_ok, List.forall_mem_cons.mpr ⟨q_code118_ok, List.forall_mem_cons.mpr ⟨q_code119_ok, List.forall_mem_cons.mpr ⟨q_code120_ok, List.forall_mem_cons.mpr ⟨q_code121_ok, List.forall_mem_cons.mpr ⟨q_code122_ok, List.forall_mem_cons.mpr ⟨q_code123_ok, List.forall_mem_cons.mpr ⟨q_code124_ok, List.forall_mem_cons.mpr ⟨q_code125_ok, List.forall_mem_cons.mpr ⟨q_code126_ok, List.forall_mem_cons.mpr ⟨q_code127_ok, fun _ h => nomatch h⟩⟩⟩⟩⟩⟩⟩⟩⟩⟩⟩⟩⟩⟩⟩⟩
theorem q_rec8_ok : ∀ r ∈ q_rec8, q_dec r.2.1 r.2.2.2.2.2.2.2.2 := List.forall_mem_cons.mpr ⟨q_code128_ok, List.forall_mem_cons.mpr ⟨q_code129_ok, List.forall_mem_cons.mpr ⟨q_code130_ok, List.forall_mem_cons.mpr ⟨q_code131_ok, List.forall_mem_cons.mpr ⟨q_code132_ok, List.forall_mem_cons.mpr ⟨q_code133_ok, List.forall_mem_cons.mpr ⟨q_code134_ok, List.forall_mem_cons.mpr ⟨q_code135_ok, List.forall_mem_cons.mpr ⟨q_code136_ok, List.forall_mem_cons.mpr ⟨q_code137_ok, List.forall_mem_cons.mpr ⟨q_code138_ok, List.forall_mem_cons.mpr ⟨q_code139_ok, List.forall_mem_cons.mpr ⟨q_code140_ok, List.forall_mem_cons.mpr ⟨q_code141_ok, List.forall_mem_cons.mpr ⟨q_code142_ok, List.forall_mem_cons.mpr ⟨q_code143_ok, fun _ h => nomatch h⟩⟩⟩⟩⟩⟩⟩⟩⟩⟩⟩⟩⟩⟩⟩⟩
theorem q_rec9_ok : ∀ r ∈ q_rec9, q_dec r.2.1 r.2.2.2.2.2.2.2.2 := List.forall_mem_cons.mpr ⟨q_code144_ok, List.forall_mem_cons.mpr ⟨q_code145_ok, List.forall_mem_cons.mpr ⟨q_code146_ok, List.forall_mem_cons.mpr ⟨q_code147_ok, List.forall_mem_cons.mpr ⟨q_code148_ok, List.forall_mem_cons.mpr ⟨q_code149_ok, List.forall_mem_cons.mpr ⟨q_code150_ok, List.forall_mem_cons.mpr ⟨q_code151_ok, List.forall_mem_cons.mpr ⟨q_code152_ok, List.forall_mem_cons.mpr ⟨q_code153_ok, List.forall_mem_cons.mpr ⟨q_code154_ok, List.forall_mem_cons.mpr ⟨q_code155_ok, List.forall_mem_cons.mpr ⟨q_code156_ok, List.forall_mem_cons.mpr ⟨q_code157_ok, List.forall_mem_cons.mpr ⟨q_code158_ok, List.forall_mem_cons.mpr ⟨q_code159_ok, fun _ h => nomatch h⟩⟩⟩⟩⟩⟩⟩⟩⟩⟩⟩⟩⟩⟩⟩⟩
theorem q_rec10_ok : ∀ r ∈ q_rec10, q_dec r.2.1 r.2.2.2.2.2.2.2.2 := List.forall_mem_cons.mpr ⟨q_code160_ok, List.forall_mem_cons.mpr ⟨q_code161_ok, List.forall_mem_cons.mpr ⟨q_code162_ok, List.forall_mem_cons.mpr ⟨q_code163_ok, List.forall_mem_cons.mpr ⟨q_code164_ok, List.forall_mem_cons.mpr ⟨q_code165_ok, List.forall_mem_cons.mpr ⟨q_code166_ok, List.forall_mem_cons.mpr ⟨q_code167_ok, List.forall_mem_cons.mpr ⟨q_code168_ok, List.forall_mem_cons.mpr ⟨q_code169_ok, List.forall_mem_cons.mpr ⟨q_code170_ok, List.forall_mem_cons.mpr ⟨q_code171_ok, List.forall_mem_cons.mpr ⟨q_code172_ok, List.forall_mem_cons.mpr ⟨q_code173_ok, List.forall_mem_cons.mpr ⟨q_code174_ok, List.forall_mem_cons.mpr ⟨q_code175_ok, fun _ h => nomatch h⟩⟩⟩⟩⟩⟩⟩⟩⟩⟩⟩⟩⟩⟩⟩⟩
theorem q_rec11_ok : ∀ r ∈ q_rec11, q_dec r.2.1 r.2.2.2.2.2.2.2.2 := List.forall_mem_cons.mpr ⟨q_code176_ok, List.forall_mem_cons.mpr ⟨q_code177_ok, List.forall_mem_cons.mpr ⟨q_code178_ok, List.forall_mem_cons.mpr ⟨q_code179_ok, List.forall_mem_cons.mpr ⟨q_code180_ok, List.forall_mem_cons.mpr ⟨q_code181_ok, List.forall_mem_cons.mpr ⟨q_code182_ok, List.forall_mem_cons.mpr ⟨q_code183_ok, List.forall_mem_cons.mpr ⟨q_code184_ok, List.forall_mem_cons.mpr ⟨q_code185_ok, List.forall_mem_cons.mpr ⟨q_code186_ok, List.forall_mem_cons.mpr ⟨q_code187_ok, List.forall_mem_cons.mpr ⟨q_code188_ok, List.forall_mem_cons.mpr ⟨q_code189_ok, List.forall_mem_cons.mpr ⟨q_code190_ok, List.forall_mem_cons.mpr ⟨q_code191_ok, fun _ h => nomatch h⟩⟩⟩⟩⟩⟩⟩⟩⟩⟩⟩⟩⟩⟩⟩⟩
theorem q_rec12_ok : ∀ r ∈ q_rec12, q_dec r.2.1 r.2.2.2.2.2.2.2.2 := List.forall_mem_cons.mpr ⟨q_code192_ok, List.forall_mem_cons.mpr ⟨q_code193_ok, List.forall_mem_cons.mpr ⟨q_code194_ok, List.forall_mem_cons.mpr ⟨q_code195_ok, List.forall_mem_cons.mpr ⟨q_code196_ok, List.forall_mem_cons.mpr ⟨q_code197_ok, List.forall_mem_cons.mpr ⟨q_code198_ok, List.forall_mem_cons.mpr ⟨q_code199_ok, List.forall_mem_cons.mpr ⟨q_code200_ok, List.forall_mem_cons.mpr ⟨q_code201_ok, List.forall_mem_cons.mpr ⟨q_code202_ok, List.forall_mem_cons.mpr ⟨q_code203_ok, List.forall_mem_cons.mpr ⟨q_code204_ok, List.forall_mem_cons.mpr ⟨q_code205_ok, List.forall_mem_cons.mpr ⟨q_code206_ok, List.forall_mem_cons.mpr ⟨q_code207_ok, fun _ h => nomatch h⟩⟩⟩⟩⟩⟩⟩⟩⟩⟩⟩⟩⟩⟩⟩⟩
theorem q_rec13_ok : ∀ r ∈ q_rec13, q_dec r.2.1 r.2.2.2.2.2.2.2.2 := List.forall_mem_cons.mpr ⟨q_code208_ok, List.forall_mem_cons.mpr ⟨q_code209_ok, List.forall_mem_cons.mpr ⟨q_code210_ok, List.forall_mem_cons.mpr ⟨q_code211_ok, List.forall_mem_cons.mpr ⟨q_code212_ok, List.forall_mem_cons.mpr ⟨q_code213_ok, List.forall_mem_cons.mpr ⟨q_code214_ok, List.forall_mem_cons.mpr ⟨q_code215_ok, List.forall_mem_cons.mpr ⟨q_code216_ok, List.forall_mem_cons.mpr ⟨q_code217_ok, List.forall_mem_cons.mpr ⟨q_code218_ok, List.forall_mem_cons.mpr ⟨q_code219_ok, List.forall_mem_cons.mpr ⟨q_code220_ok, List.forall_mem_cons.mpr ⟨q_code221_ok, List.forall_mem_cons.mpr ⟨q_code222_ok, List.forall_mem_cons.mpr ⟨q_code223_ok, fun _ h => nomatch h⟩⟩⟩⟩⟩⟩⟩⟩⟩⟩⟩⟩⟩⟩⟩⟩
theorem q_rec14_ok : ∀ r ∈ q_rec14, q_dec r.2.1 r.2.2.2.2.2.2.2.2 := List.forall_mem_cons.mpr ⟨q_code224_ok, List.forall_mem_cons.mpr ⟨q_code225_ok, List.forall_mem_cons.mpr ⟨q_code226_ok, List.forall_mem_cons.mpr ⟨q_code227_ok, List.forall_mem_cons.mpr ⟨q_code228_ok, List.forall_mem_cons.mpr ⟨q_code229_ok, List.forall_mem_cons.mpr ⟨q_code230_ok, List.forall_mem_cons.mpr ⟨q_code231_ok, List.forall_mem_cons.mpr ⟨q_code232_ok, List.forall_mem_cons.mpr ⟨q_code233_ok, List.forall_mem_cons.mpr ⟨q_code234_ok, List.forall_mem_cons.mpr ⟨q_code235_ok, List.forall_mem_cons.mpr ⟨q_code236_ok, List.forall_mem_cons.mpr ⟨q_code237_ok, List.forall_mem_cons.mpr ⟨q_code238_ok, List.forall_mem_cons.mpr ⟨q_code239_ok, fun _ h => nomatch h⟩⟩⟩⟩⟩⟩⟩⟩⟩⟩⟩⟩⟩⟩⟩⟩
theorem q_rec15_ok : ∀ r ∈ q_rec15, q_dec r.2.1 r.2.2.2.2.2.2.2.2 := List.forall_mem_cons.mpr ⟨q_code240_ok, List.forall_mem_cons.mpr ⟨q_code241_ok, List.forall_mem_cons.mpr ⟨q_code242_ok, List.forall_mem_cons.mpr ⟨q_code243_ok, List.forall_mem_cons.mpr ⟨q_code244_ok, List.forall_mem_cons.mpr ⟨q_code245_ok, List.forall_mem_cons.mpr ⟨q_code246_ok, List.forall_mem_cons.mpr ⟨q_code247_ok, List.forall_mem_cons.mpr ⟨q_code248_ok, List.forall_mem_cons.mpr ⟨q_code249_ok, List.forall_mem_cons.mpr ⟨q_code250_ok, List.forall_mem_cons.mpr ⟨q_code251_ok, List.forall_mem_cons.mpr ⟨q_code252_ok, List.forall_mem_cons.mpr ⟨q_code253_ok, List.forall_mem_cons.mpr ⟨q_code254_ok, List.forall_mem_cons.mpr ⟨q_code255_ok, fun _ h => nomatch h⟩⟩⟩⟩⟩⟩⟩⟩⟩⟩⟩⟩⟩⟩⟩⟩
theorem q_rec16_ok : ∀ r ∈ q_rec16, q_dec r.2.1 r.2.2.2.2.2.2.2.2 := List.forall_mem_cons.mpr ⟨q_code256_ok, List.forall_mem_cons.mpr ⟨q_code257_ok, List.forall_mem_cons.mpr ⟨q_code258_ok, List.forall_mem_cons.mpr ⟨q_code259_ok, List.forall_mem_cons.mpr ⟨q_code260_ok, List.forall_mem_cons.mpr ⟨q_code261_ok, List.forall_mem_cons.mpr ⟨q_code262_ok, List.forall_mem_cons.mpr ⟨q_code263_ok, List.forall_mem_cons.mpr ⟨q_code264_ok, List.forall_mem_cons.mpr ⟨q_code265_ok, List.forall_mem_cons.mpr ⟨q_code266_ok, List.forall_mem_cons.mpr ⟨q_code267_ok, List.forall_mem_cons.mpr ⟨q_code268_ok, List.forall_mem_cons.mpr ⟨q_code269_ok, List.forall_mem_cons.mpr ⟨q_code270_ok, List.forall_mem_cons.mpr ⟨q_code271_ok, fun _ h => nomatch h⟩⟩⟩⟩⟩⟩⟩⟩⟩⟩⟩⟩⟩⟩⟩⟩
theorem q_rec17_ok : ∀ r ∈ q_rec17, q_dec r.2.1 r.2.2.2.2.2.2.2.2 := List.forall_mem_cons.mpr ⟨q_code272_ok, List.forall_mem_cons.mpr ⟨q_code273_ok, List.forall_mem_cons.mpr ⟨q_code274_ok, fun _ h => nomatch h⟩⟩⟩
theorem q_recs_ok : ∀ l ∈ q_recs, ∀ r ∈ l, q_dec r.2.1 r.2.2.2.2.2.2.2.2 := List.forall_mem_cons.mpr ⟨q_rec0_ok, List.forall_mem_cons.mpr ⟨q_rec1_ok, List.forall_mem_cons.mpr ⟨q_rec2_ok, List.forall_mem_cons.mpr ⟨q_rec3_ok, List.forall_mem_cons.mpr ⟨q_rec4_ok, List.forall_mem_cons.mpr ⟨q_rec5_ok, List.forall_mem_cons.mpr ⟨q_rec6_ok, List.forall_mem_cons.mpr ⟨q_rec7_ok, List.forall_mem_cons.mpr ⟨q_rec8_ok, List.forall_mem_cons.mpr ⟨q_rec9_ok, List.forall_mem_cons.mpr ⟨q_rec10_ok, List.forall_mem_cons.mpr ⟨q_rec11_ok, List.forall_mem_cons.mpr ⟨q_rec12_ok, List.forall_mem_cons.mpr ⟨q_rec13_ok, List.forall_mem_cons.mpr ⟨q_rec14_ok, List.forall_mem_cons.mpr ⟨q_rec15_ok, List.forall_mem_cons.mpr ⟨q_rec16_ok, List.forall_mem_cons.mpr ⟨q_rec17_ok, fun _ h => nomatch h⟩⟩⟩⟩⟩⟩⟩⟩⟩⟩⟩⟩⟩⟩⟩⟩⟩⟩
theorem q_r_all {P : MRec → Prop} (h0 : P q_dflt) (h : ∀ l ∈ q_recs, ∀ r ∈ l, P r) (mid : Nat) : P (q_r mid) := by
  unfold q_r
  rcases q_getD (L := q_recs) (i := mid / 16) with e | e
  · rw [e]; exact h0
  · rw [List.getD_eq_getElem?_getD (l := q_recs.getD (mid / 16) [])]
    cases h2 : (q_recs.getD (mid / 16) [])[mid % 16]? with
    | none => exact h0
    | some r => exact h _ e r (List.mem_of_getElem? h2)
theorem q_i_ok {mid pc : Nat} {i : Instr} (h : q_i mid pc = some i) : ∃ len, decode (q_b mid) pc = .ok (i, len) ∧ (m_len i = len ∨ m_len i = 0) :=
  q_r_all (P := fun r => q_dec r.2.1 r.2.2.2.2.2.2.2.2) (fun pc i h => by unfold q_at at h; cases h) q_recs_ok mid pc i h
/-- a method's class by its number; a constructor's name -/
def q_rchk (r : MRec) : Bool := decide (r.1.cls = q_cn.getD r.2.2.2.2.1 "") && (!r.2.2.2.2.2.1 || decide (r.1.name = "<init>"))
theorem q_rchk_recs : (q_recs.all fun l => l.all q_rchk) = true := by decide +kernel
theorem q_rchk_ok (mid : Nat) : q_rchk (q_r mid) = true := q_r_all (P := fun r => q_rchk r = true) (by decide +kernel) (fun l hl r hr => List.all_eq_true.mp (List.all_eq_true.mp q_rchk_recs l hl) r hr) mid
theorem q_cls (mid : Nat) : (q_y mid).cls = q_cn.getD (q_oc mid) "" := by
  have h := q_rchk_ok mid
  unfold q_rchk at h
  rw [Bool.and_eq_true] at h
  exact of_decide_eq_true h.1
theorem q_ini_ok {mid : Nat} (hi : q_ini mid = true) : (q_y mid).name = "<init>" := by
  have h := q_rchk_ok mid
  unfold q_rchk at h
  rw [Bool.and_eq_true, Bool.or_eq_true] at h
  rcases h.2 with h2 | h2
  · rw [show (q_r mid).2.2.2.2.2.1 = true from hi] at h2; cases h2
  · exact of_decide_eq_true h2
-- fields
def q_fchk (cn : String) (x : Nat × Nat × Nat × Nat × Bool × Bool) : Bool := match vwCl[x.2.1]? with
  | some q => Nat.blt x.2.2.1 q.2.2 && q_w (Cond.fieldLink cn x.1 (q.2.1 x.2.2.1).1 (q.2.1 x.2.2.1).2.1 (q.2.1 x.2.2.1).2.2.1) x.2.2.2.1 && decide (x.2.2.2.2.1 = (q.2.1 x.2.2.1).2.2.2) && (!x.2.2.2.2.2 || decide ((q.2.1 x.2.2.1).1 = cn))
  | none => false
-- classes, arrays of objects, constants
def q_clchk (cn : String) (x : Nat × Nat × Nat × Nat × Nat) : Bool := match vwCl[x.2.1]? with
  | some q => q_w (Cond.classLink cn x.1 q.1) x.2.2.1 && q_w (Cond.instantiable q.1 q.2.2) x.2.2.2.1 && q_w (Cond.initialized q.1) x.2.2.2.2
  | none => false
def q_cachk (cn : String) (x : Nat × Nat × Nat) : Bool := match vwCl[x.2.1]? with
  | some q => q_ra x.2.1 && q_w (Cond.classLink cn x.1 q.1) x.2.2
  | none => false
def q_kchk (cn : String) (x : Nat × Nat × Bool × Int) : Bool := bif x.2.2.1 then q_w (Cond.constantLong cn x.1 (Int64.ofInt x.2.2.2)) x.2.1 else q_w (Cond.constant cn x.1 (Int32.ofInt x.2.2.2)) x.2.1
-- calls
def q_gchk (cm : Nat) : Bool := q_w (Cond.initialized (q_y cm).cls) (q_ipl.getD (q_oc cm) 0) && decide ((q_y cm).cls ≠ "java/lang/invoke/MethodHandle" ∧ (q_y cm).cls ≠ "java/lang/invoke/VarHandle" ∧ (parseMethodDescriptor (q_y cm).desc).map (fun d => d.parameters.length) = some (q_np cm)) && plainName (q_y cm).cls && Nat.ble (q_nl cm) 45
def q_nhchk (cm : Nat) : Bool := q_htt.all (fun x => !Nat.beq x.1 cm)
def q_wcode (cm pl : Nat) : Bool := q_w (Cond.code (q_y cm) (q_b cm) (q_nl cm) (q_rt cm)) pl
def q_nchk (cn : String) (idx cm : Nat) : Bool := q_N.any (fun q => decide (q.1 = cn ∧ q.2.1 = idx ∧ q.2.2.1 = q_y cm))
def q_mchk (cn : String) (x : Nat × Nat × Nat × Nat × Nat × Nat × Nat) : Bool := match x with
  | (idx, cm, kd, p1, p2, p3, p4) => match kd with
    | 0 => q_gchk cm && q_nhchk cm && q_wcode cm p4 && q_w (Cond.methodLink cn idx (q_y cm)) p1 && q_w (Cond.instanceMethod (q_y cm)) p2 && q_w (Cond.selects (q_y cm).cls (q_y cm) (q_y cm)) p3 && (match q_rc cm with
      | some rc => (match vwCl[rc]? with
        | some q => decide (q.1 = (q_y cm).cls)
        | none => false)
      | none => false)
    | 1 => q_gchk cm && q_nhchk cm && q_wcode cm p4 && q_w (Cond.methodLink cn idx (q_y cm)) p1 && q_w (Cond.static (q_y cm)) p2
    | 2 => q_gchk cm && q_nhchk cm && q_wcode cm p4 && q_nchk cn idx cm && q_w (Cond.instanceMethod (q_y cm)) p2 && decide ((q_y cm).name = "<init>" ∧ q_rt cm = none)
    | 3 => q_gchk cm && q_nhchk cm && q_wcode cm p4 && q_nchk cn idx cm && q_w (Cond.static (q_y cm)) p2
    | 5 => q_w (Cond.methodLink cn idx Lib.objectInit) p1 && q_w (Cond.instanceMethod Lib.objectInit) p2 && q_w (Cond.code Lib.objectInit ⟨#[0xb1]⟩ 1 none) p3
    | 6 => q_gchk cm && q_nhchk cm && q_wcode cm p4 && q_w (Cond.methodLink cn idx (q_y cm)) p1 && q_w (Cond.instanceMethod (q_y cm)) p2 && decide ((q_y cm).name = "<init>" ∧ q_rt cm = none)
    | 7 => q_gchk cm && q_w (Cond.methodLink cn idx (q_y cm)) p1 && q_w (Cond.static (q_y cm)) p2 && q_w (Cond.codeWith (q_y cm) (q_b cm) (q_nl cm) (q_rt cm) (q_hh cm)) p4
    | 9 => q_w (Cond.methodLink cn idx arraycopyName) p1 && q_w (Cond.native arraycopyName) p2 && q_w (Cond.static arraycopyName) p3 && q_w (Cond.initialized "java/lang/System") p4
    | 10 => q_w (Cond.methodLink cn idx Lib.Math.max.name) p1 && q_w (Cond.static Lib.Math.max.name) p2 && q_w (Cond.initialized "java/lang/Math") p3 && q_w (Cond.code Lib.Math.max.name Lib.Math.max.code 2 (some .int)) p4
    | 11 => q_w (Cond.methodLink cn idx Lib.Math.min.name) p1 && q_w (Cond.static Lib.Math.min.name) p2 && q_w (Cond.initialized "java/lang/Math") p3 && q_w (Cond.code Lib.Math.min.name Lib.Math.min.code 2 (some .int)) p4
    | 12 => q_w (Cond.methodLink cn idx Lib.Math.abs.name) p1 && q_w (Cond.static Lib.Math.abs.name) p2 && q_w (Cond.initialized "java/lang/Math") p3 && q_w (Cond.code Lib.Math.abs.name Lib.Math.abs.code 1 (some .int)) p4
    | _ => false
theorem q_parts {α : Type} {L : List α} {f : α → Bool} (k : Nat) {m : Nat} (hm : L.length ≤ k * m) (h : ∀ j, j < m → ((L.drop (j * k)).take k).all f = true) : L.all f = true := by
  refine List.all_eq_true.mpr fun a ha => ?_
  obtain ⟨i, hi⟩ := List.getElem?_of_mem ha
  have hlt : i < L.length := (List.getElem?_eq_some_iff.mp hi).1
  have hk : 0 < k := Nat.pos_of_ne_zero fun h0 => by subst h0; omega
  have hj : i / k < m := (Nat.div_lt_iff_lt_mul hk).mpr (by rw [Nat.mul_comm]; omega)
  have h2 := h _ hj
  refine List.all_eq_true.mp h2 a (List.mem_of_getElem? (i := i % k) ?_)
  rw [List.getElem?_take_of_lt (Nat.mod_lt _ hk), List.getElem?_drop, show i / k * k + i % k = i by rw [Nat.mul_comm]; exact Nat.div_add_mod _ _]
  exact hi
theorem q_ft0_ok : (q_ft0.all (q_fchk (q_cn.getD 0 ""))) = true := by decide +kernel
theorem q_ft1_ok : (q_ft1.all (q_fchk (q_cn.getD 1 ""))) = true := by decide +kernel
theorem q_ft2_ok : (q_ft2.all (q_fchk (q_cn.getD 2 ""))) = true := by decide +kernel
theorem q_ft3_ok : (q_ft3.all (q_fchk (q_cn.getD 3 ""))) = true := by decide +kernel
theorem q_ft4_ok : (q_ft4.all (q_fchk (q_cn.getD 4 ""))) = true := by decide +kernel
theorem q_ft5_ok : (q_ft5.all (q_fchk (q_cn.getD 5 ""))) = true := by decide +kernel
theorem q_ft6_ok : (q_ft6.all (q_fchk (q_cn.getD 6 ""))) = true := by decide +kernel
theorem q_ft7_ok : (q_ft7.all (q_fchk (q_cn.getD 7 ""))) = true := by decide +kernel
theorem q_ft8_ok : (q_ft8.all (q_fchk (q_cn.getD 8 ""))) = true := by decide +kernel
theorem q_ft9_ok : (q_ft9.all (q_fchk (q_cn.getD 9 ""))) = true := by decide +kernel
theorem q_ft10_ok : (q_ft10.all (q_fchk (q_cn.getD 10 ""))) = true := by decide +kernel
theorem q_ft11_ok : (q_ft11.all (q_fchk (q_cn.getD 11 ""))) = true := by decide +kernel
theorem q_ft12_ok : (q_ft12.all (q_fchk (q_cn.getD 12 ""))) = true := by decide +kernel
theorem q_ft13_ok : (q_ft13.all (q_fchk (q_cn.getD 13 ""))) = true := by decide +kernel
theorem q_ft14_ok : (q_ft14.all (q_fchk (q_cn.getD 14 ""))) = true := by decide +kernel
theorem q_ft15_ok : (q_ft15.all (q_fchk (q_cn.getD 15 ""))) = true := by decide +kernel
theorem q_ft16_ok : (q_ft16.all (q_fchk (q_cn.getD 16 ""))) = true := by decide +kernel
theorem q_ft_ok : ∀ (c : Nat), ((q_ft.getD c []).all (q_fchk (q_cn.getD c ""))) = true
  | 0 => q_ft0_ok
  | 1 => q_ft1_ok
  | 2 => q_ft2_ok
  | 3 => q_ft3_ok
  | 4 => q_ft4_ok
  | 5 => q_ft5_ok
  | 6 => q_ft6_ok
  | 7 => q_ft7_ok
  | 8 => q_ft8_ok
  | 9 => q_ft9_ok
  | 10 => q_ft10_ok
  | 11 => q_ft11_ok
  | 12 => q_ft12_ok
  | 13 => q_ft13_ok
  | 14 => q_ft14_ok
  | 15 => q_ft15_ok
  | 16 => q_ft16_ok
  | n + 17 => rfl
theorem q_clt0_ok : (q_clt0.all (q_clchk (q_cn.getD 0 ""))) = true := by decide +kernel
theorem q_clt1_ok : (q_clt1.all (q_clchk (q_cn.getD 1 ""))) = true := by decide +kernel
theorem q_clt2_ok : (q_clt2.all (q_clchk (q_cn.getD 2 ""))) = true := by decide +kernel
theorem q_clt3_ok : (q_clt3.all (q_clchk (q_cn.getD 3 ""))) = true := by decide +kernel
theorem q_clt4_ok : (q_clt4.all (q_clchk (q_cn.getD 4 ""))) = true := by decide +kernel
theorem q_clt5_ok : (q_clt5.all (q_clchk (q_cn.getD 5 ""))) = true := by decide +kernel
theorem q_clt6_ok : (q_clt6.all (q_clchk (q_cn.getD 6 ""))) = true := by decide +kernel
theorem q_clt7_ok : (q_clt7.all (q_clchk (q_cn.getD 7 ""))) = true := by decide +kernel
theorem q_clt8_ok : (q_clt8.all (q_clchk (q_cn.getD 8 ""))) = true := by decide +kernel
theorem q_clt9_ok : (q_clt9.all (q_clchk (q_cn.getD 9 ""))) = true := by decide +kernel
theorem q_clt10_ok : (q_clt10.all (q_clchk (q_cn.getD 10 ""))) = true := by decide +kernel
theorem q_clt11_ok : (q_clt11.all (q_clchk (q_cn.getD 11 ""))) = true := by decide +kernel
theorem q_clt12_ok : (q_clt12.all (q_clchk (q_cn.getD 12 ""))) = true := by decide +kernel
theorem q_clt13_ok : (q_clt13.all (q_clchk (q_cn.getD 13 ""))) = true := by decide +kernel
theorem q_clt14_ok : (q_clt14.all (q_clchk (q_cn.getD 14 ""))) = true := by decide +kernel
theorem q_clt15_ok : (q_clt15.all (q_clchk (q_cn.getD 15 ""))) = true := by decide +kernel
theorem q_clt16_ok : (q_clt16.all (q_clchk (q_cn.getD 16 ""))) = true := by decide +kernel
theorem q_clt_ok : ∀ (c : Nat), ((q_clt.getD c []).all (q_clchk (q_cn.getD c ""))) = true
  | 0 => q_clt0_ok
  | 1 => q_clt1_ok
  | 2 => q_clt2_ok
  | 3 => q_clt3_ok
  | 4 => q_clt4_ok
  | 5 => q_clt5_ok
  | 6 => q_clt6_ok
  | 7 => q_clt7_ok
  | 8 => q_clt8_ok
  | 9 => q_clt9_ok
  | 10 => q_clt10_ok
  | 11 => q_clt11_ok
  | 12 => q_clt12_ok
  | 13 => q_clt13_ok
  | 14 => q_clt14_ok
  | 15 => q_clt15_ok
  | 16 => q_clt16_ok
  | n + 17 => rfl
theorem q_cat0_ok : (q_cat0.all (q_cachk (q_cn.getD 0 ""))) = true := by decide +kernel
theorem q_cat1_ok : (q_cat1.all (q_cachk (q_cn.getD 1 ""))) = true := by decide +kernel
theorem q_cat2_ok : (q_cat2.all (q_cachk (q_cn.getD 2 ""))) = true := by decide +kernel
theorem q_cat3_ok : (q_cat3.all (q_cachk (q_cn.getD 3 ""))) = true := by decide +kernel
theorem q_cat4_ok : (q_cat4.all (q_cachk (q_cn.getD 4 ""))) = true := by decide +kernel
theorem q_cat5_ok : (q_cat5.all (q_cachk (q_cn.getD 5 ""))) = true := by decide +kernel
theorem q_cat6_ok : (q_cat6.all (q_cachk (q_cn.getD 6 ""))) = true := by decide +kernel
theorem q_cat7_ok : (q_cat7.all (q_cachk (q_cn.getD 7 ""))) = true := by decide +kernel
theorem q_cat8_ok : (q_cat8.all (q_cachk (q_cn.getD 8 ""))) = true := by decide +kernel
theorem q_cat9_ok : (q_cat9.all (q_cachk (q_cn.getD 9 ""))) = true := by decide +kernel
theorem q_cat10_ok : (q_cat10.all (q_cachk (q_cn.getD 10 ""))) = true := by decide +kernel
theorem q_cat11_ok : (q_cat11.all (q_cachk (q_cn.getD 11 ""))) = true := by decide +kernel
theorem q_cat12_ok : (q_cat12.all (q_cachk (q_cn.getD 12 ""))) = true := by decide +kernel
theorem q_cat13_ok : (q_cat13.all (q_cachk (q_cn.getD 13 ""))) = true := by decide +kernel
theorem q_cat14_ok : (q_cat14.all (q_cachk (q_cn.getD 14 ""))) = true := by decide +kernel
theorem q_cat15_ok : (q_cat15.all (q_cachk (q_cn.getD 15 ""))) = true := by decide +kernel
theorem q_cat16_ok : (q_cat16.all (q_cachk (q_cn.getD 16 ""))) = true := by decide +kernel
theorem q_cat_ok : ∀ (c : Nat), ((q_cat.getD c []).all (q_cachk (q_cn.getD c ""))) = true
  | 0 => q_cat0_ok
  | 1 => q_cat1_ok
  | 2 => q_cat2_ok
  | 3 => q_cat3_ok
  | 4 => q_cat4_ok
  | 5 => q_cat5_ok
  | 6 => q_cat6_ok
  | 7 => q_cat7_ok
  | 8 => q_cat8_ok
  | 9 => q_cat9_ok
  | 10 => q_cat10_ok
  | 11 => q_cat11_ok
  | 12 => q_cat12_ok
  | 13 => q_cat13_ok
  | 14 => q_cat14_ok
  | 15 => q_cat15_ok
  | 16 => q_cat16_ok
  | n + 17 => rfl
theorem q_kt0_ok : (q_kt0.all (q_kchk (q_cn.getD 0 ""))) = true := by decide +kernel
theorem q_kt1_ok : (q_kt1.all (q_kchk (q_cn.getD 1 ""))) = true := by decide +kernel
theorem q_kt2_ok : (q_kt2.all (q_kchk (q_cn.getD 2 ""))) = true := by decide +kernel
theorem q_kt3_ok : (q_kt3.all (q_kchk (q_cn.getD 3 ""))) = true := by decide +kernel
theorem q_kt4_ok : (q_kt4.all (q_kchk (q_cn.getD 4 ""))) = true := by decide +kernel
theorem q_kt5_ok : (q_kt5.all (q_kchk (q_cn.getD 5 ""))) = true := by decide +kernel
theorem q_kt6_ok : (q_kt6.all (q_kchk (q_cn.getD 6 ""))) = true := by decide +kernel
theorem q_kt7_ok : (q_kt7.all (q_kchk (q_cn.getD 7 ""))) = true := by decide +kernel
theorem q_kt8_ok : (q_kt8.all (q_kchk (q_cn.getD 8 ""))) = true := by decide +kernel
theorem q_kt9_ok : (q_kt9.all (q_kchk (q_cn.getD 9 ""))) = true := by decide +kernel
theorem q_kt10_ok : (q_kt10.all (q_kchk (q_cn.getD 10 ""))) = true := by decide +kernel
theorem q_kt11_ok : (q_kt11.all (q_kchk (q_cn.getD 11 ""))) = true := by decide +kernel
theorem q_kt12_ok : (q_kt12.all (q_kchk (q_cn.getD 12 ""))) = true := by decide +kernel
theorem q_kt13_ok : (q_kt13.all (q_kchk (q_cn.getD 13 ""))) = true := by decide +kernel
theorem q_kt14_ok : (q_kt14.all (q_kchk (q_cn.getD 14 ""))) = true := by decide +kernel
theorem q_kt15_ok : (q_kt15.all (q_kchk (q_cn.getD 15 ""))) = true := by decide +kernel
theorem q_kt16_ok : (q_kt16.all (q_kchk (q_cn.getD 16 ""))) = true := by decide +kernel
theorem q_kt_ok : ∀ (c : Nat), ((q_kt.getD c []).all (q_kchk (q_cn.getD c ""))) = true
  | 0 => q_kt0_ok
  | 1 => q_kt1_ok
  | 2 => q_kt2_ok
  | 3 => q_kt3_ok
  | 4 => q_kt4_ok
  | 5 => q_kt5_ok
  | 6 => q_kt6_ok
  | 7 => q_kt7_ok
  | 8 => q_kt8_ok
  | 9 => q_kt9_ok
  | 10 => q_kt10_ok
  | 11 => q_kt11_ok
  | 12 => q_kt12_ok
  | 13 => q_kt13_ok
  | 14 => q_kt14_ok
  | 15 => q_kt15_ok
  | 16 => q_kt16_ok
  | n + 17 => rfl
theorem q_ct0_p0 : (((q_ct0.drop 0).take 24).all (q_mchk (q_cn.getD 0 ""))) = true := by decide +kernel
theorem q_ct0_p1 : (((q_ct0.drop 24).take 24).all (q_mchk (q_cn.getD 0 ""))) = true := by decide +kernel
theorem q_ct0_ok : (q_ct0.all (q_mchk (q_cn.getD 0 ""))) = true := q_parts 24 (m := 2) (by decide +kernel) (fun j hj => match j, hj with
  | 0, _ => q_ct0_p0
  | 1, _ => q_ct0_p1
  | n + 2, h => absurd h (by omega))
theorem q_ct1_ok : (q_ct1.all (q_mchk (q_cn.getD 1 ""))) = true := by decide +kernel
theorem q_ct2_ok : (q_ct2.all (q_mchk (q_cn.getD 2 ""))) = true := by decide +kernel
theorem q_ct3_ok : (q_ct3.all (q_mchk (q_cn.getD 3 ""))) = true := by decide +kernel
theorem q_ct4_ok : (q_ct4.all (q_mchk (q_cn.getD 4 ""))) = true := by decide +kernel
theorem q_ct5_ok : (q_ct5.all (q_mchk (q_cn.getD 5 ""))) = true := by decide +kernel
theorem q_ct6_ok : (q_ct6.all (q_mchk (q_cn.getD 6 ""))) = true := by decide +kernel
theorem q_ct7_ok : (q_ct7.all (q_mchk (q_cn.getD 7 ""))) = true := by decide +kernel
theorem q_ct8_ok : (q_ct8.all (q_mchk (q_cn.getD 8 ""))) = true := by decide +kernel
theorem q_ct9_ok : (q_ct9.all (q_mchk (q_cn.getD 9 ""))) = true := by decide +kernel
theorem q_ct10_ok : (q_ct10.all (q_mchk (q_cn.getD 10 ""))) = true := by decide +kernel
theorem q_ct11_p0 : (((q_ct11.drop 0).take 24).all (q_mchk (q_cn.getD 11 ""))) = true := by decide +kernel
theorem q_ct11_p1 : (((q_ct11.drop 24).take 24).all (q_mchk (q_cn.getD 11 ""))) = true := by decide +kernel
theorem q_ct11_p2 : (((q_ct11.drop 48).take 24).all (q_mchk (q_cn.getD 11 ""))) = true := by decide +kernel
theorem q_ct11_p3 : (((q_ct11.drop 72).take 24).all (q_mchk (q_cn.getD 11 ""))) = true := by decide +kernel
theorem q_ct11_ok : (q_ct11.all (q_mchk (q_cn.getD 11 ""))) = true := q_parts 24 (m := 4) (by decide +kernel) (fun j hj => match j, hj with
  | 0, _ => q_ct11_p0
  | 1, _ => q_ct11_p1
  | 2, _ => q_ct11_p2
  | 3, _ => q_ct11_p3
  | n + 4, h => absurd h (by omega))
theorem q_ct12_p0 : (((q_ct12.drop 0).take 24).all (q_mchk (q_cn.getD 12 ""))) = true := by decide +kernel
theorem q_ct12_p1 : (((q_ct12.drop 24).take 24).all (q_mchk (q_cn.getD 12 ""))) = true := by decide +kernel
theorem q_ct12_p2 : (((q_ct12.drop 48).take 24).all (q_mchk (q_cn.getD 12 ""))) = true := by decide +kernel
theorem q_ct12_ok : (q_ct12.all (q_mchk (q_cn.getD 12 ""))) = true := q_parts 24 (m := 3) (by decide +kernel) (fun j hj => match j, hj with
  | 0, _ => q_ct12_p0
  | 1, _ => q_ct12_p1
  | 2, _ => q_ct12_p2
  | n + 3, h => absurd h (by omega))
theorem q_ct13_p0 : (((q_ct13.drop 0).take 24).all (q_mchk (q_cn.getD 13 ""))) = true := by decide +kernel
theorem q_ct13_p1 : (((q_ct13.drop 24).take 24).all (q_mchk (q_cn.getD 13 ""))) = true := by decide +kernel
theorem q_ct13_p2 : (((q_ct13.drop 48).take 24).all (q_mchk (q_cn.getD 13 ""))) = true := by decide +kernel
theorem q_ct13_p3 : (((q_ct13.drop 72).take 24).all (q_mchk (q_cn.getD 13 ""))) = true := by decide +kernel
theorem q_ct13_ok : (q_ct13.all (q_mchk (q_cn.getD 13 ""))) = true := q_parts 24 (m := 4) (by decide +kernel) (fun j hj => match j, hj with
  | 0, _ => q_ct13_p0
  | 1, _ => q_ct13_p1
  | 2, _ => q_ct13_p2
  | 3, _ => q_ct13_p3
  | n + 4, h => absurd h (by omega))
theorem q_ct14_ok : (q_ct14.all (q_mchk (q_cn.getD 14 ""))) = true := by decide +kernel
theorem q_ct15_ok : (q_ct15.all (q_mchk (q_cn.getD 15 ""))) = true := by decide +kernel
theorem q_ct16_ok : (q_ct16.all (q_mchk (q_cn.getD 16 ""))) = true := by decide +kernel
theorem q_ct_ok : ∀ (c : Nat), ((q_ct.getD c []).all (q_mchk (q_cn.getD c ""))) = true
  | 0 => q_ct0_ok
  | 1 => q_ct1_ok
  | 2 => q_ct2_ok
  | 3 => q_ct3_ok
  | 4 => q_ct4_ok
  | 5 => q_ct5_ok
  | 6 => q_ct6_ok
  | 7 => q_ct7_ok
  | 8 => q_ct8_ok
  | 9 => q_ct9_ok
  | 10 => q_ct10_ok
  | 11 => q_ct11_ok
  | 12 => q_ct12_ok
  | 13 => q_ct13_ok
  | 14 => q_ct14_ok
  | 15 => q_ct15_ok
  | 16 => q_ct16_ok
  | n + 17 => rfl
theorem q_ai_ok : Cond.arrayClass .int ∈ q_W ∧ Cond.arrayClass .long ∈ q_W := ⟨q_w_ok (pl := 175) (by decide +kernel), q_w_ok (pl := 1880) (by decide +kernel)⟩
