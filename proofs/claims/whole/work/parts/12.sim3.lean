noncomputable def k_X8_leastBitsFrom : xCode := [(0, oConst (nI 0) 1), (1, oIstore 2 5 2), (2, oAload 0 3), (3, oGetR 8 7 6), (6, oCallU 2 0 f_X2_start 9), (9, oIload 1 10), (10, oIstore 3 5 11), (11, oIload 3 12), (12, oAload 0 13), (13, oGetR 8 0 16), (16, oGetI 0 4 19), (19, oIf2 (fun x y => decide (y ≤ x)) 91 22), (22, oIload 3 23), (23, oIload 1 24), (24, oConst (nI 12) 26), (26, oBin (fun x y => x + y) 27), (27, oIf2 (fun x y => decide (y ≤ x)) 91 30), (30, oAload 0 31), (31, oGetR 8 7 34), (34, oAload 0 35), (35, oGetR 8 0 38), (38, oIload 3 39), (39, oCallV 0 1 f_X0_valueAt 42), (42, oCallU 2 1 f_X2_include 45), (45, oAload 0 46), (46, oGetR 8 7 49), (49, oConst (-9999) 52), (52, oCallV 2 1 f_X2_sizeWhen 55), (55, oAload 0 56), (56, oGetR 8 8 59), (59, oIload 3 60), (60, oConst (nI 1) 61), (61, oBin (fun x y => x + y) 62), (62, oCallV 5 1 f_X5_get 65), (65, oBin (fun x y => x + y) 66), (66, oIstore 4 5 68), (68, oIload 3 69), (69, oIload 1 70), (70, oIf2 (fun x y => !(decide (x = y))) 78 73), (73, oIload 4 75), (75, oGoto 84), (78, oIload 2 79), (79, oIload 4 81), (81, oMin 84), (84, oIstore 2 5 85), (85, oIinc 3 (nI 1) 5 88), (88, oGoto 11), (91, oIload 2 92), (92, oIret)]
noncomputable def f_X8_leastBitsFrom : xRun := xrun k_X8_leastBitsFrom 5
set_option maxHeartbeats 4000000 in
set_option maxRecDepth 100000 in
theorem m_X8_leastBitsFrom (l : Launch) (g : xG) : xMet l g yX8_leastBitsFrom cX8_leastBitsFrom 5 (some .int) 3 68 f_X8_leastBitsFrom := by
  refine xmet_of (own := RX8) (by decide +kernel) rfl (fun p e s m args below meth c r0 C => ?_)
  refine xAll_c (xs_iconst C dX8_leastBitsFrom_0 (by decide)) ?_
  refine xAll_c (xs_istore_n C dX8_leastBitsFrom_1 rfl) ?_
  refine xAll_c (xs_aload_n C dX8_leastBitsFrom_2 rfl) ?_
  refine xAll_c (xs_getR C dX8_leastBitsFrom_3 (rfl : vwCl[8]? = some (RX8, TX8, 10)) win8 rfl (by decide) (by decide) rfl wm231) ?_
  refine xAll_c (xs_callU C (m_X2_start l g) dX8_leastBitsFrom_6 (rfl : vwCl[2]? = some (RX2, TX2, 10)) (by decide) rfl ⟨(by decide), (by decide), by decide +kernel⟩ wm437 wm380 wm381 wm4 wm382 ⟨Nat.le_of_ble_eq_true rfl, Nat.le_of_ble_eq_true rfl⟩) ?_
  refine xAll_c (xs_iload_n C dX8_leastBitsFrom_9 rfl) ?_
  refine xAll_c (xs_istore_n C dX8_leastBitsFrom_10 rfl) ?_
  refine xAll_c (xs_iload_n C dX8_leastBitsFrom_11 rfl) ?_
  refine xAll_c (xs_aload_n C dX8_leastBitsFrom_12 rfl) ?_
  refine xAll_c (xs_getR C dX8_leastBitsFrom_13 (rfl : vwCl[8]? = some (RX8, TX8, 10)) win8 rfl (by decide) (by decide) rfl wm224) ?_
  refine xAll_c (xs_getIN (host := "CodedColumn") C dX8_leastBitsFrom_16 (rfl : vwCl[0]? = some (RX0, TX0, 7)) win0 rfl (by decide) (by decide) rfl (by decide +kernel)) ?_
  refine xAll_c (xs_icmp_ge C dX8_leastBitsFrom_19 (by decide)) ?_
  refine xAll_c (xs_iload_n C dX8_leastBitsFrom_22 rfl) ?_
  refine xAll_c (xs_iload_n C dX8_leastBitsFrom_23 rfl) ?_
  refine xAll_c (xs_bipush C dX8_leastBitsFrom_24 (by decide)) ?_
  refine xAll_c (xs_iadd C dX8_leastBitsFrom_26) ?_
  refine xAll_c (xs_icmp_ge C dX8_leastBitsFrom_27 (by decide)) ?_
  refine xAll_c (xs_aload_n C dX8_leastBitsFrom_30 rfl) ?_
  refine xAll_c (xs_getR C dX8_leastBitsFrom_31 (rfl : vwCl[8]? = some (RX8, TX8, 10)) win8 rfl (by decide) (by decide) rfl wm231) ?_
  refine xAll_c (xs_aload_n C dX8_leastBitsFrom_34 rfl) ?_
  refine xAll_c (xs_getR C dX8_leastBitsFrom_35 (rfl : vwCl[8]? = some (RX8, TX8, 10)) win8 rfl (by decide) (by decide) rfl wm224) ?_
  refine xAll_c (xs_iload_n C dX8_leastBitsFrom_38 rfl) ?_
  refine xAll_c (xs_callV C (m_X0_valueAt l g) dX8_leastBitsFrom_39 (rfl : vwCl[0]? = some (RX0, TX0, 7)) (by decide) rfl ⟨(by decide), (by decide), by decide +kernel⟩ wm438 wm439 wm440 wm2 wm441 ⟨Nat.le_of_ble_eq_true rfl, Nat.le_of_ble_eq_true rfl⟩) ?_
  refine xAll_c (xs_callU C (m_X2_include l g) dX8_leastBitsFrom_42 (rfl : vwCl[2]? = some (RX2, TX2, 10)) (by decide) rfl ⟨(by decide), (by decide), by decide +kernel⟩ wm442 wm384 wm385 wm4 wm386 ⟨Nat.le_of_ble_eq_true rfl, Nat.le_of_ble_eq_true rfl⟩) ?_
  refine xAll_c (xs_aload_n C dX8_leastBitsFrom_45 rfl) ?_
  refine xAll_c (xs_getR C dX8_leastBitsFrom_46 (rfl : vwCl[8]? = some (RX8, TX8, 10)) win8 rfl (by decide) (by decide) rfl wm231) ?_
  refine xAll_c (xs_sipush C dX8_leastBitsFrom_49 (by decide)) ?_
  refine xAll_c (xs_callV C (m_X2_sizeWhen l g) dX8_leastBitsFrom_52 (rfl : vwCl[2]? = some (RX2, TX2, 10)) (by decide) rfl ⟨(by decide), (by decide), by decide +kernel⟩ wm443 wm399 wm400 wm4 wm401 ⟨Nat.le_of_ble_eq_true rfl, Nat.le_of_ble_eq_true rfl⟩) ?_
  refine xAll_c (xs_aload_n C dX8_leastBitsFrom_55 rfl) ?_
  refine xAll_c (xs_getR C dX8_leastBitsFrom_56 (rfl : vwCl[8]? = some (RX8, TX8, 10)) win8 rfl (by decide) (by decide) rfl wm232) ?_
  refine xAll_c (xs_iload_n C dX8_leastBitsFrom_59 rfl) ?_
  refine xAll_c (xs_iconst C dX8_leastBitsFrom_60 (by decide)) ?_
  refine xAll_c (xs_iadd C dX8_leastBitsFrom_61) ?_
  refine xAll_c (xs_callV C (m_X5_get l g) dX8_leastBitsFrom_62 (rfl : vwCl[5]? = some (RX5, TX5, 1)) (by decide) rfl ⟨(by decide), (by decide), by decide +kernel⟩ wm444 wm280 wm281 wm3 wm282 ⟨Nat.le_of_ble_eq_true rfl, Nat.le_of_ble_eq_true rfl⟩) ?_
  refine xAll_c (xs_iadd C dX8_leastBitsFrom_65) ?_
  refine xAll_c (xs_istore C dX8_leastBitsFrom_66) ?_
  refine xAll_c (xs_iload_n C dX8_leastBitsFrom_68 rfl) ?_
  refine xAll_c (xs_iload_n C dX8_leastBitsFrom_69 rfl) ?_
  refine xAll_c (xs_icmp_ne C dX8_leastBitsFrom_70 (by decide)) ?_
  refine xAll_c (xs_iload C dX8_leastBitsFrom_73) ?_
  refine xAll_c (xs_goto C dX8_leastBitsFrom_75 (by decide)) ?_
  refine xAll_c (xs_iload_n C dX8_leastBitsFrom_78 rfl) ?_
  refine xAll_c (xs_iload C dX8_leastBitsFrom_79) ?_
  refine xAll_c (xs_min C dX8_leastBitsFrom_81 wm445 wm348 wm16 wm349 ⟨Nat.le_of_ble_eq_true rfl, Nat.le_of_ble_eq_true rfl⟩) ?_
  refine xAll_c (xs_istore_n C dX8_leastBitsFrom_84 rfl) ?_
  refine xAll_c (xs_iinc C dX8_leastBitsFrom_85 rfl) ?_
  refine xAll_c (xs_goto C dX8_leastBitsFrom_88 (by decide)) ?_
  refine xAll_c (xs_iload_n C dX8_leastBitsFrom_91 rfl) ?_
  refine xAll_c (xs_iret C dX8_leastBitsFrom_92 rfl) ?_
  exact trivial
noncomputable def k_X8_smallest : xCode := [(0, oAload 0 1), (1, oGetR 8 0 4), (4, oGetI 0 4 7), (7, oIstore 1 3 8), (8, oAload 0 9), (9, oGetR 8 8 12), (12, oIload 1 13), (13, oConst (nI 0) 14), (14, oCallU 5 2 f_X5_set 17), (17, oIload 1 18), (18, oConst (nI 1) 19), (19, oBin (fun x y => x - y) 20), (20, oIstore 2 3 21), (21, oIload 2 22), (22, oIf1 (fun x => decide (x < 0)) 44 25), (25, oAload 0 26), (26, oGetR 8 8 29), (29, oIload 2 30), (30, oAload 0 31), (31, oIload 2 32), (32, oCallV 8 1 f_X8_leastBitsFrom 35), (35, oCallU 5 2 f_X5_set 38), (38, oIinc 2 (-1) 3 41), (41, oGoto 21), (44, oAload 0 45), (45, oGetR 8 8 48), (48, oConst (nI 0) 49), (49, oCallV 5 1 f_X5_get 52), (52, oIret)]
noncomputable def f_X8_smallest : xRun := xrun k_X8_smallest 3
set_option maxHeartbeats 4000000 in
set_option maxRecDepth 100000 in
theorem m_X8_smallest (l : Launch) (g : xG) : xMet l g yX8_smallest cX8_smallest 3 (some .int) 4 92 f_X8_smallest := by
  refine xmet_of (own := RX8) (by decide +kernel) rfl (fun p e s m args below meth c r0 C => ?_)
  refine xAll_c (xs_aload_n C dX8_smallest_0 rfl) ?_
  refine xAll_c (xs_getR C dX8_smallest_1 (rfl : vwCl[8]? = some (RX8, TX8, 10)) win8 rfl (by decide) (by decide) rfl wm224) ?_
  refine xAll_c (xs_getIN (host := "CodedColumn") C dX8_smallest_4 (rfl : vwCl[0]? = some (RX0, TX0, 7)) win0 rfl (by decide) (by decide) rfl (by decide +kernel)) ?_
  refine xAll_c (xs_istore_n C dX8_smallest_7 rfl) ?_
  refine xAll_c (xs_aload_n C dX8_smallest_8 rfl) ?_
  refine xAll_c (xs_getR C dX8_smallest_9 (rfl : vwCl[8]? = some (RX8, TX8, 10)) win8 rfl (by decide) (by decide) rfl wm232) ?_
  refine xAll_c (xs_iload_n C dX8_smallest_12 rfl) ?_
  refine xAll_c (xs_iconst C dX8_smallest_13 (by decide)) ?_
  refine xAll_c (xs_callU C (m_X5_set l g) dX8_smallest_14 (rfl : vwCl[5]? = some (RX5, TX5, 1)) (by decide) rfl ⟨(by decide), (by decide), by decide +kernel⟩ wm432 wm292 wm293 wm3 wm294 ⟨Nat.le_of_ble_eq_true rfl, Nat.le_of_ble_eq_true rfl⟩) ?_
  refine xAll_c (xs_iload_n C dX8_smallest_17 rfl) ?_
  refine xAll_c (xs_iconst C dX8_smallest_18 (by decide)) ?_
  refine xAll_c (xs_isub C dX8_smallest_19) ?_
  refine xAll_c (xs_istore_n C dX8_smallest_20 rfl) ?_
  refine xAll_c (xs_iload_n C dX8_smallest_21 rfl) ?_
  refine xAll_c (xs_if_lt C dX8_smallest_22 (by decide)) ?_
  refine xAll_c (xs_aload_n C dX8_smallest_25 rfl) ?_
  refine xAll_c (xs_getR C dX8_smallest_26 (rfl : vwCl[8]? = some (RX8, TX8, 10)) win8 rfl (by decide) (by decide) rfl wm232) ?_
  refine xAll_c (xs_iload_n C dX8_smallest_29 rfl) ?_
  refine xAll_c (xs_aload_n C dX8_smallest_30 rfl) ?_
  refine xAll_c (xs_iload_n C dX8_smallest_31 rfl) ?_
  refine xAll_c (xs_callV C (m_X8_leastBitsFrom l g) dX8_smallest_32 (rfl : vwCl[8]? = some (RX8, TX8, 10)) (by decide) rfl ⟨(by decide), (by decide), by decide +kernel⟩ wm433 wm435 wp13 wm1 wm436 ⟨Nat.le_of_ble_eq_true rfl, Nat.le_of_ble_eq_true rfl⟩) ?_
  refine xAll_c (xs_callU C (m_X5_set l g) dX8_smallest_35 (rfl : vwCl[5]? = some (RX5, TX5, 1)) (by decide) rfl ⟨(by decide), (by decide), by decide +kernel⟩ wm432 wm292 wm293 wm3 wm294 ⟨Nat.le_of_ble_eq_true rfl, Nat.le_of_ble_eq_true rfl⟩) ?_
  refine xAll_c (xs_iinc C dX8_smallest_38 rfl) ?_
  refine xAll_c (xs_goto C dX8_smallest_41 (by decide)) ?_
  refine xAll_c (xs_aload_n C dX8_smallest_44 rfl) ?_
  refine xAll_c (xs_getR C dX8_smallest_45 (rfl : vwCl[8]? = some (RX8, TX8, 10)) win8 rfl (by decide) (by decide) rfl wm232) ?_
  refine xAll_c (xs_iconst C dX8_smallest_48 (by decide)) ?_
  refine xAll_c (xs_callV C (m_X5_get l g) dX8_smallest_49 (rfl : vwCl[5]? = some (RX5, TX5, 1)) (by decide) rfl ⟨(by decide), (by decide), by decide +kernel⟩ wm444 wm280 wm281 wm3 wm282 ⟨Nat.le_of_ble_eq_true rfl, Nat.le_of_ble_eq_true rfl⟩) ?_
  refine xAll_c (xs_iret C dX8_smallest_52 rfl) ?_
  exact trivial
noncomputable def k_X8_bestNext : xCode := [(0, oAload 0 1), (1, oGetR 8 0 4), (4, oIload 1 5), (5, oCallV 0 1 f_X0_hasPage 8), (8, oIf1 (fun x => !(decide (x = 0))) 21 11), (11, oThrow 3), (21, oAload 0 22), (22, oGetR 8 0 25), (25, oIload 1 26), (26, oCallV 0 1 f_X0_lengthOf 29), (29, oConst (nI 12) 31), (31, oIf2 (fun x y => decide (x < y)) 38 34), (34, oConst (-9999) 37), (37, oIret), (38, oAload 0 39), (39, oGetR 8 0 42), (42, oIload 1 43), (43, oCallV 0 1 f_X0_measurePage 46), (46, oAstore 2 7 47), (47, oConst (nI 0) 48), (48, oIstore 3 7 49), (49, oConst (nI 0) 50), (50, oIstore 4 7 52), (52, oConst (nI 0) 53), (53, oIstore 5 7 55), (55, oIload 5 57), (57, oConst (nI 1023) 60), (60, oIf2 (fun x y => decide (y < x)) 122 63), (63, oAload 0 64), (64, oGetR 8 7 67), (67, oAload 2 68), (68, oCallU 2 1 f_X2_copyFrom 71), (71, oAload 0 72), (72, oGetR 8 7 75), (75, oIload 5 77), (77, oCallU 2 1 f_X2_include 80), (80, oAload 0 81), (81, oGetR 8 7 84), (84, oAload 0 85), (85, oGetR 8 0 88), (88, oIload 1 89), (89, oCallV 0 1 f_X0_pinOf 92), (92, oCallV 2 1 f_X2_sizeWhen 95), (95, oIstore 6 7 97), (97, oIload 5 99), (99, oIf1 (fun x => decide (x = 0)) 109 102), (102, oIload 6 104), (104, oIload 4 106), (106, oIf2 (fun x y => decide (y ≤ x)) 116 109), (109, oIload 5 111), (111, oIstore 3 7 112), (112, oIload 6 114), (114, oIstore 4 7 116), (116, oIinc 5 (nI 1) 7 119), (119, oGoto 55), (122, oIload 3 123), (123, oIret)]
noncomputable def f_X8_bestNext : xRun := xrun k_X8_bestNext 7
set_option maxHeartbeats 4000000 in
set_option maxRecDepth 100000 in
theorem m_X8_bestNext (l : Launch) (hfl : l.stackTraces = false) (g : xG) : xMetX l g yX8_bestNext cX8_bestNext 7 (some .int) 6 90 1 6 f_X8_bestNext := by
  refine xmetX_of (own := RX8) hfl (by decide +kernel) rfl (fun p e s m args below meth c r0 C => ?_)
  refine xAll_c (xs_aload_n C dX8_bestNext_0 rfl) ?_
  refine xAll_c (xs_getR C dX8_bestNext_1 (rfl : vwCl[8]? = some (RX8, TX8, 10)) win8 rfl (by decide) (by decide) rfl wm224) ?_
  refine xAll_c (xs_iload_n C dX8_bestNext_4 rfl) ?_
  refine xAll_c (xs_callV C (m_X0_hasPage l g) dX8_bestNext_5 (rfl : vwCl[0]? = some (RX0, TX0, 7)) (by decide) rfl ⟨(by decide), (by decide), by decide +kernel⟩ wm616 wm617 wm618 wm2 wm619 ⟨Nat.le_of_ble_eq_true rfl, Nat.le_of_ble_eq_true rfl⟩) ?_
  refine xAll_c (xs_if_ne C dX8_bestNext_8 (by decide)) ?_
  refine xAll_c (xs_throw (text := "there is no such page") C hfl dX8_bestNext_11 dX8_bestNext_14 dX8_bestNext_15 dX8_bestNext_17 dX8_bestNext_20 rfl (by decide +kernel) wm593 wm17 (by decide +kernel) (ths_3_135) ⟨Nat.le_of_ble_eq_true rfl, Nat.le_of_ble_eq_true rfl, Nat.le_of_ble_eq_true rfl, Nat.le_of_ble_eq_true rfl⟩ (Nat.le_refl _) (Nat.le_refl _)) ?_
  refine xAll_c (xs_aload_n C dX8_bestNext_21 rfl) ?_
  refine xAll_c (xs_getR C dX8_bestNext_22 (rfl : vwCl[8]? = some (RX8, TX8, 10)) win8 rfl (by decide) (by decide) rfl wm224) ?_
  refine xAll_c (xs_iload_n C dX8_bestNext_25 rfl) ?_
  refine xAll_c (xs_callV C (m_X0_lengthOf l g) dX8_bestNext_26 (rfl : vwCl[0]? = some (RX0, TX0, 7)) (by decide) rfl ⟨(by decide), (by decide), by decide +kernel⟩ wm879 wm367 wm368 wm2 wm369 ⟨Nat.le_of_ble_eq_true rfl, Nat.le_of_ble_eq_true rfl⟩) ?_
  refine xAll_c (xs_bipush C dX8_bestNext_29 (by decide)) ?_
  refine xAll_c (xs_icmp_lt C dX8_bestNext_31 (by decide)) ?_
  refine xAll_c (xs_sipush C dX8_bestNext_34 (by decide)) ?_
  refine xAll_c (xs_iret C dX8_bestNext_37 rfl) ?_
  refine xAll_c (xs_aload_n C dX8_bestNext_38 rfl) ?_
  refine xAll_c (xs_getR C dX8_bestNext_39 (rfl : vwCl[8]? = some (RX8, TX8, 10)) win8 rfl (by decide) (by decide) rfl wm224) ?_
  refine xAll_c (xs_iload_n C dX8_bestNext_42 rfl) ?_
  refine xAll_c (xs_callV C (m_X0_measurePage l g) dX8_bestNext_43 (rfl : vwCl[0]? = some (RX0, TX0, 7)) (by decide) rfl ⟨(by decide), (by decide), by decide +kernel⟩ wm621 wm622 wm623 wm2 wm624 ⟨Nat.le_of_ble_eq_true rfl, Nat.le_of_ble_eq_true rfl⟩) ?_
  refine xAll_c (xs_astore_n C dX8_bestNext_46 rfl) ?_
  refine xAll_c (xs_iconst C dX8_bestNext_47 (by decide)) ?_
  refine xAll_c (xs_istore_n C dX8_bestNext_48 rfl) ?_
  refine xAll_c (xs_iconst C dX8_bestNext_49 (by decide)) ?_
  refine xAll_c (xs_istore C dX8_bestNext_50) ?_
  refine xAll_c (xs_iconst C dX8_bestNext_52 (by decide)) ?_
  refine xAll_c (xs_istore C dX8_bestNext_53) ?_
  refine xAll_c (xs_iload C dX8_bestNext_55) ?_
  refine xAll_c (xs_sipush C dX8_bestNext_57 (by decide)) ?_
  refine xAll_c (xs_icmp_gt C dX8_bestNext_60 (by decide)) ?_
  refine xAll_c (xs_aload_n C dX8_bestNext_63 rfl) ?_
  refine xAll_c (xs_getR C dX8_bestNext_64 (rfl : vwCl[8]? = some (RX8, TX8, 10)) win8 rfl (by decide) (by decide) rfl wm231) ?_
  refine xAll_c (xs_aload_n C dX8_bestNext_67 rfl) ?_
  refine xAll_c (xs_callU C (m_X2_copyFrom l g) dX8_bestNext_68 (rfl : vwCl[2]? = some (RX2, TX2, 10)) (by decide) rfl ⟨(by decide), (by decide), by decide +kernel⟩ wm891 wm892 wm893 wm4 wm894 ⟨Nat.le_of_ble_eq_true rfl, Nat.le_of_ble_eq_true rfl⟩) ?_
  refine xAll_c (xs_aload_n C dX8_bestNext_71 rfl) ?_
  refine xAll_c (xs_getR C dX8_bestNext_72 (rfl : vwCl[8]? = some (RX8, TX8, 10)) win8 rfl (by decide) (by decide) rfl wm231) ?_
  refine xAll_c (xs_iload C dX8_bestNext_75) ?_
  refine xAll_c (xs_callU C (m_X2_include l g) dX8_bestNext_77 (rfl : vwCl[2]? = some (RX2, TX2, 10)) (by decide) rfl ⟨(by decide), (by decide), by decide +kernel⟩ wm442 wm384 wm385 wm4 wm386 ⟨Nat.le_of_ble_eq_true rfl, Nat.le_of_ble_eq_true rfl⟩) ?_
  refine xAll_c (xs_aload_n C dX8_bestNext_80 rfl) ?_
  refine xAll_c (xs_getR C dX8_bestNext_81 (rfl : vwCl[8]? = some (RX8, TX8, 10)) win8 rfl (by decide) (by decide) rfl wm231) ?_
  refine xAll_c (xs_aload_n C dX8_bestNext_84 rfl) ?_
  refine xAll_c (xs_getR C dX8_bestNext_85 (rfl : vwCl[8]? = some (RX8, TX8, 10)) win8 rfl (by decide) (by decide) rfl wm224) ?_
  refine xAll_c (xs_iload_n C dX8_bestNext_88 rfl) ?_
  refine xAll_c (xs_callV C (m_X0_pinOf l g) dX8_bestNext_89 (rfl : vwCl[0]? = some (RX0, TX0, 7)) (by decide) rfl ⟨(by decide), (by decide), by decide +kernel⟩ wm626 wm395 wm396 wm2 wm397 ⟨Nat.le_of_ble_eq_true rfl, Nat.le_of_ble_eq_true rfl⟩) ?_
  refine xAll_c (xs_callV C (m_X2_sizeWhen l g) dX8_bestNext_92 (rfl : vwCl[2]? = some (RX2, TX2, 10)) (by decide) rfl ⟨(by decide), (by decide), by decide +kernel⟩ wm443 wm399 wm400 wm4 wm401 ⟨Nat.le_of_ble_eq_true rfl, Nat.le_of_ble_eq_true rfl⟩) ?_
  refine xAll_c (xs_istore C dX8_bestNext_95) ?_
  refine xAll_c (xs_iload C dX8_bestNext_97) ?_
  refine xAll_c (xs_if_eq C dX8_bestNext_99 (by decide)) ?_
  refine xAll_c (xs_iload C dX8_bestNext_102) ?_
  refine xAll_c (xs_iload C dX8_bestNext_104) ?_
  refine xAll_c (xs_icmp_ge C dX8_bestNext_106 (by decide)) ?_
  refine xAll_c (xs_iload C dX8_bestNext_109) ?_
  refine xAll_c (xs_istore_n C dX8_bestNext_111 rfl) ?_
  refine xAll_c (xs_iload C dX8_bestNext_112) ?_
  refine xAll_c (xs_istore C dX8_bestNext_114) ?_
  refine xAll_c (xs_iinc C dX8_bestNext_116 rfl) ?_
  refine xAll_c (xs_goto C dX8_bestNext_119 (by decide)) ?_
  refine xAll_c (xs_iload_n C dX8_bestNext_122 rfl) ?_
  refine xAll_c (xs_iret C dX8_bestNext_123 rfl) ?_
  exact trivial
noncomputable def k_X8_runScript : xCode := [(0, oIload 1 1), (1, oConst (nI 1) 2), (2, oIf2 (fun x y => decide (x < y)) 10 5), (5, oIload 1 6), (6, oConst (nI 3) 7), (7, oIf2 (fun x y => decide (x ≤ y)) 21 10), (10, oThrow 1), (21, oLload 2 22), (22, oLconst (0) 23), (23, oLcmp 24), (24, oIf1 (fun x => decide (0 ≤ x)) 38 27), (27, oThrow 1), (38, oLload 2 39), (39, oLstore 4 7 41), (41, oIload 1 42), (42, oConst (nI 1) 43), (43, oBin (fun x y => x - y) 44), (44, oIstore 6 7 46), (46, oIload 6 48), (48, oIf1 (fun x => decide (x < 0)) 81 51), (51, oAload 0 52), (52, oGetR 8 9 55), (55, oIload 6 57), (57, oLload 4 59), (59, oLconst (1000000) 62), (62, oLDiv (fun x y => x - x / y * y) 63), (63, oL2i 64), (64, oCallU 5 2 f_X5_set 67), (67, oLload 4 69), (69, oLconst (1000000) 72), (72, oLDiv (fun x y => x / y) 73), (73, oLstore 4 7 75), (75, oIinc 6 (-1) 7 78), (78, oGoto 46), (81, oLload 4 83), (83, oLconst (0) 84), (84, oLcmp 85), (85, oIf1 (fun x => decide (x = 0)) 99 88), (88, oThrow 1), (99, oAload 0 100), (100, oGetR 8 6 103), (103, oAload 0 104), (104, oGetR 8 0 107), (107, oCallU 6 1 f_X6_startFrom 110), (110, oConst (nI 0) 111), (111, oIstore 6 7 113), (113, oIload 6 115), (115, oIload 1 116), (116, oIf2 (fun x y => decide (y ≤ x)) 147 119), (119, oAload 0 120), (120, oGetR 8 6 123), (123, oAload 0 124), (124, oGetR 8 9 127), (127, oIload 6 129), (129, oCallV 5 1 f_X5_get 132), (132, oCallV 6 1 f_X6_succeeds 135), (135, oIf1 (fun x => !(decide (x = 0))) 141 138), (138, oIload 6 140), (140, oIret), (141, oIinc 6 (nI 1) 7 144), (144, oGoto 113), (147, oConst (-9999) 150), (150, oIret)]
noncomputable def f_X8_runScript : xRun := xrun k_X8_runScript 7
set_option maxHeartbeats 4000000 in
set_option maxRecDepth 100000 in
theorem m_X8_runScript (l : Launch) (hfl : l.stackTraces = false) (g : xG) : xMetX l g yX8_runScript cX8_runScript 7 (some .int) 6 137 1 6 f_X8_runScript := by
  refine xmetX_of (own := RX8) hfl (by decide +kernel) rfl (fun p e s m args below meth c r0 C => ?_)
  refine xAll_c (xs_iload_n C dX8_runScript_0 rfl) ?_
  refine xAll_c (xs_iconst C dX8_runScript_1 (by decide)) ?_
  refine xAll_c (xs_icmp_lt C dX8_runScript_2 (by decide)) ?_
  refine xAll_c (xs_iload_n C dX8_runScript_5 rfl) ?_
  refine xAll_c (xs_iconst C dX8_runScript_6 (by decide)) ?_
  refine xAll_c (xs_icmp_le C dX8_runScript_7 (by decide)) ?_
  refine xAll_c (xs_throwW (text := "a script has 1 to 3 commands") C hfl dX8_runScript_10 dX8_runScript_13 dX8_runScript_14 dX8_runScript_17 dX8_runScript_20 rfl (by decide +kernel) wm455 wm14 (by decide +kernel) (ths_1_77) ⟨Nat.le_of_ble_eq_true rfl, Nat.le_of_ble_eq_true rfl, Nat.le_of_ble_eq_true rfl, Nat.le_of_ble_eq_true rfl⟩ (Nat.le_refl _) (Nat.le_refl _)) ?_
  refine xAll_c (xs_lload_n C dX8_runScript_21 rfl) ?_
  refine xAll_c (xs_lconst C dX8_runScript_22 (by decide)) ?_
  refine xAll_c (xs_lcmp C dX8_runScript_23) ?_
  refine xAll_c (xs_if_ge C dX8_runScript_24 (by decide)) ?_
  refine xAll_c (xs_throwW (text := "a script is not negative") C hfl dX8_runScript_27 dX8_runScript_30 dX8_runScript_31 dX8_runScript_34 dX8_runScript_37 rfl (by decide +kernel) wm455 wm14 (by decide +kernel) (ths_1_77) ⟨Nat.le_of_ble_eq_true rfl, Nat.le_of_ble_eq_true rfl, Nat.le_of_ble_eq_true rfl, Nat.le_of_ble_eq_true rfl⟩ (Nat.le_refl _) (Nat.le_refl _)) ?_
  refine xAll_c (xs_lload_n C dX8_runScript_38 rfl) ?_
  refine xAll_c (xs_lstore C dX8_runScript_39) ?_
  refine xAll_c (xs_iload_n C dX8_runScript_41 rfl) ?_
  refine xAll_c (xs_iconst C dX8_runScript_42 (by decide)) ?_
  refine xAll_c (xs_isub C dX8_runScript_43) ?_
  refine xAll_c (xs_istore C dX8_runScript_44) ?_
  refine xAll_c (xs_iload C dX8_runScript_46) ?_
  refine xAll_c (xs_if_lt C dX8_runScript_48 (by decide)) ?_
  refine xAll_c (xs_aload_n C dX8_runScript_51 rfl) ?_
  refine xAll_c (xs_getR C dX8_runScript_52 (rfl : vwCl[8]? = some (RX8, TX8, 10)) win8 rfl (by decide) (by decide) rfl wm233) ?_
  refine xAll_c (xs_iload C dX8_runScript_55) ?_
  refine xAll_c (xs_lload C dX8_runScript_57) ?_
  refine xAll_c (xs_ldc2 C dX8_runScript_59 wm905) ?_
  refine xAll_c (xs_lrem C dX8_runScript_62) ?_
  refine xAll_c (xs_l2i C dX8_runScript_63) ?_
  refine xAll_c (xs_callU C (m_X5_set l g) dX8_runScript_64 (rfl : vwCl[5]? = some (RX5, TX5, 1)) (by decide) rfl ⟨(by decide), (by decide), by decide +kernel⟩ wm432 wm292 wm293 wm3 wm294 ⟨Nat.le_of_ble_eq_true rfl, Nat.le_of_ble_eq_true rfl⟩) ?_
  refine xAll_c (xs_lload C dX8_runScript_67) ?_
  refine xAll_c (xs_ldc2 C dX8_runScript_69 wm905) ?_
  refine xAll_c (xs_ldiv C dX8_runScript_72) ?_
  refine xAll_c (xs_lstore C dX8_runScript_73) ?_
  refine xAll_c (xs_iinc C dX8_runScript_75 rfl) ?_
  refine xAll_c (xs_goto C dX8_runScript_78 (by decide)) ?_
  refine xAll_c (xs_lload C dX8_runScript_81) ?_
  refine xAll_c (xs_lconst C dX8_runScript_83 (by decide)) ?_
  refine xAll_c (xs_lcmp C dX8_runScript_84) ?_
  refine xAll_c (xs_if_eq C dX8_runScript_85 (by decide)) ?_
  refine xAll_c (xs_throwW (text := "a script has at most six digits for each command") C hfl dX8_runScript_88 dX8_runScript_91 dX8_runScript_92 dX8_runScript_95 dX8_runScript_98 rfl (by decide +kernel) wm455 wm14 (by decide +kernel) (ths_1_77) ⟨Nat.le_of_ble_eq_true rfl, Nat.le_of_ble_eq_true rfl, Nat.le_of_ble_eq_true rfl, Nat.le_of_ble_eq_true rfl⟩ (Nat.le_refl _) (Nat.le_refl _)) ?_
  refine xAll_c (xs_aload_n C dX8_runScript_99 rfl) ?_
  refine xAll_c (xs_getR C dX8_runScript_100 (rfl : vwCl[8]? = some (RX8, TX8, 10)) win8 rfl (by decide) (by decide) rfl wm230) ?_
  refine xAll_c (xs_aload_n C dX8_runScript_103 rfl) ?_
  refine xAll_c (xs_getR C dX8_runScript_104 (rfl : vwCl[8]? = some (RX8, TX8, 10)) win8 rfl (by decide) (by decide) rfl wm224) ?_
  refine xAll_c (xs_callU C (m_X6_startFrom l g) dX8_runScript_107 (rfl : vwCl[6]? = some (RX6, TX6, 1)) (by decide) rfl ⟨(by decide), (by decide), by decide +kernel⟩ wm907 wm908 wm909 wm9 wm910 ⟨Nat.le_of_ble_eq_true rfl, Nat.le_of_ble_eq_true rfl⟩) ?_
  refine xAll_c (xs_iconst C dX8_runScript_110 (by decide)) ?_
  refine xAll_c (xs_istore C dX8_runScript_111) ?_
  refine xAll_c (xs_iload C dX8_runScript_113) ?_
  refine xAll_c (xs_iload_n C dX8_runScript_115 rfl) ?_
  refine xAll_c (xs_icmp_ge C dX8_runScript_116 (by decide)) ?_
  refine xAll_c (xs_aload_n C dX8_runScript_119 rfl) ?_
  refine xAll_c (xs_getR C dX8_runScript_120 (rfl : vwCl[8]? = some (RX8, TX8, 10)) win8 rfl (by decide) (by decide) rfl wm230) ?_
  refine xAll_c (xs_aload_n C dX8_runScript_123 rfl) ?_
  refine xAll_c (xs_getR C dX8_runScript_124 (rfl : vwCl[8]? = some (RX8, TX8, 10)) win8 rfl (by decide) (by decide) rfl wm233) ?_
  refine xAll_c (xs_iload C dX8_runScript_127) ?_
  refine xAll_c (xs_callV C (m_X5_get l g) dX8_runScript_129 (rfl : vwCl[5]? = some (RX5, TX5, 1)) (by decide) rfl ⟨(by decide), (by decide), by decide +kernel⟩ wm444 wm280 wm281 wm3 wm282 ⟨Nat.le_of_ble_eq_true rfl, Nat.le_of_ble_eq_true rfl⟩) ?_
  refine xAll_c (xs_callV C (m_X6_succeeds l g) dX8_runScript_132 (rfl : vwCl[6]? = some (RX6, TX6, 1)) (by decide) rfl ⟨(by decide), (by decide), by decide +kernel⟩ wm912 wm913 wm914 wm9 wm915 ⟨Nat.le_of_ble_eq_true rfl, Nat.le_of_ble_eq_true rfl⟩) ?_
  refine xAll_c (xs_if_ne C dX8_runScript_135 (by decide)) ?_
  refine xAll_c (xs_iload C dX8_runScript_138) ?_
  refine xAll_c (xs_iret C dX8_runScript_140 rfl) ?_
  refine xAll_c (xs_iinc C dX8_runScript_141 rfl) ?_
  refine xAll_c (xs_goto C dX8_runScript_144 (by decide)) ?_
  refine xAll_c (xs_sipush C dX8_runScript_147 (by decide)) ?_
  refine xAll_c (xs_iret C dX8_runScript_150 rfl) ?_
  exact trivial
noncomputable def k_X8_simulatedValue : xCode := [(0, oAload 0 1), (1, oGetR 8 5 4), (4, oCallV 0 0 f_X0_lastValue 7), (7, oIstore 2 4 8), (8, oIload 1 9), (9, oConst (nI 4) 10), (10, oDiv (fun x y => x / y) 11), (11, oIstore 3 4 12), (12, oIload 1 13), (13, oConst (nI 4) 14), (14, oDiv (fun x y => x - x / y * y) 15), (15, oTab 0 [40, 46, 48] 61), (40, oIload 3 41), (41, oConst (nI 1024) 44), (44, oDiv (fun x y => x - x / y * y) 45), (45, oIret), (46, oIload 2 47), (47, oIret), (48, oIload 2 49), (49, oIload 3 50), (50, oConst (nI 8) 52), (52, oDiv (fun x y => x - x / y * y) 53), (53, oBin (fun x y => x + y) 54), (54, oConst (nI 1023) 57), (57, oMin 60), (60, oIret), (61, oIload 2 62), (62, oIload 3 63), (63, oConst (nI 8) 65), (65, oDiv (fun x y => x - x / y * y) 66), (66, oBin (fun x y => x - y) 67), (67, oConst (nI 0) 68), (68, oMax 71), (71, oIret)]
noncomputable def f_X8_simulatedValue : xRun := xrun k_X8_simulatedValue 4
set_option maxHeartbeats 4000000 in
set_option maxRecDepth 100000 in
theorem m_X8_simulatedValue (l : Launch) (g : xG) : xMet l g yX8_simulatedValue cX8_simulatedValue 4 (some .int) 2 41 f_X8_simulatedValue := by
  refine xmet_of (own := RX8) (by decide +kernel) rfl (fun p e s m args below meth c r0 C => ?_)
  refine xAll_c (xs_aload_n C dX8_simulatedValue_0 rfl) ?_
  refine xAll_c (xs_getR C dX8_simulatedValue_1 (rfl : vwCl[8]? = some (RX8, TX8, 10)) win8 rfl (by decide) (by decide) rfl wm229) ?_
  refine xAll_c (xs_callV C (m_X0_lastValue l g) dX8_simulatedValue_4 (rfl : vwCl[0]? = some (RX0, TX0, 7)) (by decide) rfl ⟨(by decide), (by decide), by decide +kernel⟩ wm968 wm969 wm970 wm2 wm971 ⟨Nat.le_of_ble_eq_true rfl, Nat.le_of_ble_eq_true rfl⟩) ?_
  refine xAll_c (xs_istore_n C dX8_simulatedValue_7 rfl) ?_
  refine xAll_c (xs_iload_n C dX8_simulatedValue_8 rfl) ?_
  refine xAll_c (xs_iconst C dX8_simulatedValue_9 (by decide)) ?_
  refine xAll_c (xs_idiv C dX8_simulatedValue_10) ?_
  refine xAll_c (xs_istore_n C dX8_simulatedValue_11 rfl) ?_
  refine xAll_c (xs_iload_n C dX8_simulatedValue_12 rfl) ?_
  refine xAll_c (xs_iconst C dX8_simulatedValue_13 (by decide)) ?_
  refine xAll_c (xs_irem C dX8_simulatedValue_14) ?_
  refine xAll_c (xs_tab C dX8_simulatedValue_15 (by decide) (by decide) (by decide)) ?_
  refine xAll_c (xs_iload_n C dX8_simulatedValue_40 rfl) ?_
  refine xAll_c (xs_sipush C dX8_simulatedValue_41 (by decide)) ?_
  refine xAll_c (xs_irem C dX8_simulatedValue_44) ?_
  refine xAll_c (xs_iret C dX8_simulatedValue_45 rfl) ?_
  refine xAll_c (xs_iload_n C dX8_simulatedValue_46 rfl) ?_
  refine xAll_c (xs_iret C dX8_simulatedValue_47 rfl) ?_
  refine xAll_c (xs_iload_n C dX8_simulatedValue_48 rfl) ?_
  refine xAll_c (xs_iload_n C dX8_simulatedValue_49 rfl) ?_
  refine xAll_c (xs_bipush C dX8_simulatedValue_50 (by decide)) ?_
  refine xAll_c (xs_irem C dX8_simulatedValue_52) ?_
  refine xAll_c (xs_iadd C dX8_simulatedValue_53) ?_
  refine xAll_c (xs_sipush C dX8_simulatedValue_54 (by decide)) ?_
  refine xAll_c (xs_min C dX8_simulatedValue_57 wm445 wm348 wm16 wm349 ⟨Nat.le_of_ble_eq_true rfl, Nat.le_of_ble_eq_true rfl⟩) ?_
  refine xAll_c (xs_iret C dX8_simulatedValue_60 rfl) ?_
  refine xAll_c (xs_iload_n C dX8_simulatedValue_61 rfl) ?_
  refine xAll_c (xs_iload_n C dX8_simulatedValue_62 rfl) ?_
  refine xAll_c (xs_bipush C dX8_simulatedValue_63 (by decide)) ?_
  refine xAll_c (xs_irem C dX8_simulatedValue_65) ?_
  refine xAll_c (xs_isub C dX8_simulatedValue_66) ?_
  refine xAll_c (xs_iconst C dX8_simulatedValue_67 (by decide)) ?_
  refine xAll_c (xs_max C dX8_simulatedValue_68 wm972 wm315 wm16 wm316 ⟨Nat.le_of_ble_eq_true rfl, Nat.le_of_ble_eq_true rfl⟩) ?_
  refine xAll_c (xs_iret C dX8_simulatedValue_71 rfl) ?_
  exact trivial
noncomputable def k_X8_simulate : xCode := [(0, oIload 3 1), (1, oConst (nI 1) 2), (2, oIf2 (fun x y => decide (x < y)) 11 5), (5, oIload 3 6), (6, oConst (nI 99) 8), (8, oIf2 (fun x y => decide (x ≤ y)) 22 11), (11, oThrow 1), (22, oAload 0 23), (23, oGetR 8 5 26), (26, oAload 0 27), (27, oGetR 8 0 30), (30, oCallU 0 1 f_X0_copyFrom 33), (33, oLload 1 34), (34, oLstore 4 8 36), (36, oConst (nI 0) 37), (37, oIstore 6 8 39), (39, oIload 6 41), (41, oIload 3 42), (42, oIf2 (fun x y => decide (y ≤ x)) 106 45), (45, oLload 4 47), (47, oLconst (6364136223846793005) 50), (50, oLBin (fun x y => x * y) 51), (51, oLconst (1442695040888963407) 54), (54, oLBin (fun x y => x + y) 55), (55, oLstore 4 8 57), (57, oAload 0 58), (58, oLload 4 60), (60, oConst (nI 33) 62), (62, oLSh (fun x y => (x.toUInt64 >>> (y.toInt64.toUInt64 &&& Int64.toUInt64 63)).toInt64) 63), (63, oL2i 64), (64, oCallV 8 1 f_X8_simulatedValue 67), (67, oIstore 7 8 69), (69, oAload 0 70), (70, oGetR 8 5 73), (73, oCallV 0 0 f_X0_canAppend 76), (76, oIf1 (fun x => decide (x = 0)) 92 79), (79, oAload 0 80), (80, oGetR 8 5 83), (83, oIload 7 85), (85, oCallV 0 1 f_X0_appendValue 88), (88, oPop 89), (89, oGoto 100), (92, oAload 0 93), (93, oGetR 8 5 96), (96, oCallV 0 0 f_X0_joinWhileItSaves 99), (99, oPop 100), (100, oIinc 6 (nI 1) 8 103), (103, oGoto 39), (106, oConst (nI 10) 108), (108, oAload 0 109), (109, oGetR 8 5 112), (112, oCallV 0 0 f_X0_totalSize 115), (115, oBin (fun x y => x * y) 116), (116, oAload 0 117), (117, oGetR 8 5 120), (120, oCallV 0 0 f_X0_differentCodings 123), (123, oBin (fun x y => x + y) 124), (124, oIret)]
noncomputable def f_X8_simulate : xRun := xrun k_X8_simulate 8
set_option maxHeartbeats 4000000 in
set_option maxRecDepth 100000 in
theorem m_X8_simulate (l : Launch) (hfl : l.stackTraces = false) (g : xG) : xMetX l g yX8_simulate cX8_simulate 8 (some .int) 6 131 1 6 f_X8_simulate := by
  refine xmetX_of (own := RX8) hfl (by decide +kernel) rfl (fun p e s m args below meth c r0 C => ?_)
  refine xAll_c (xs_iload_n C dX8_simulate_0 rfl) ?_
  refine xAll_c (xs_iconst C dX8_simulate_1 (by decide)) ?_
  refine xAll_c (xs_icmp_lt C dX8_simulate_2 (by decide)) ?_
  refine xAll_c (xs_iload_n C dX8_simulate_5 rfl) ?_
  refine xAll_c (xs_bipush C dX8_simulate_6 (by decide)) ?_
  refine xAll_c (xs_icmp_le C dX8_simulate_8 (by decide)) ?_
  refine xAll_c (xs_throwW (text := "1 to 99 values are simulated") C hfl dX8_simulate_11 dX8_simulate_14 dX8_simulate_15 dX8_simulate_18 dX8_simulate_21 rfl (by decide +kernel) wm455 wm14 (by decide +kernel) (ths_1_77) ⟨Nat.le_of_ble_eq_true rfl, Nat.le_of_ble_eq_true rfl, Nat.le_of_ble_eq_true rfl, Nat.le_of_ble_eq_true rfl⟩ (Nat.le_refl _) (Nat.le_refl _)) ?_
  refine xAll_c (xs_aload_n C dX8_simulate_22 rfl) ?_
  refine xAll_c (xs_getR C dX8_simulate_23 (rfl : vwCl[8]? = some (RX8, TX8, 10)) win8 rfl (by decide) (by decide) rfl wm229) ?_
  refine xAll_c (xs_aload_n C dX8_simulate_26 rfl) ?_
  refine xAll_c (xs_getR C dX8_simulate_27 (rfl : vwCl[8]? = some (RX8, TX8, 10)) win8 rfl (by decide) (by decide) rfl wm224) ?_
  refine xAll_c (xs_callU C (m_X0_copyFrom l g) dX8_simulate_30 (rfl : vwCl[0]? = some (RX0, TX0, 7)) (by decide) rfl ⟨(by decide), (by decide), by decide +kernel⟩ wm961 wm338 wm339 wm2 wm340 ⟨Nat.le_of_ble_eq_true rfl, Nat.le_of_ble_eq_true rfl⟩) ?_
  refine xAll_c (xs_lload_n C dX8_simulate_33 rfl) ?_
  refine xAll_c (xs_lstore C dX8_simulate_34) ?_
  refine xAll_c (xs_iconst C dX8_simulate_36 (by decide)) ?_
  refine xAll_c (xs_istore C dX8_simulate_37) ?_
  refine xAll_c (xs_iload C dX8_simulate_39) ?_
  refine xAll_c (xs_iload_n C dX8_simulate_41 rfl) ?_
  refine xAll_c (xs_icmp_ge C dX8_simulate_42 (by decide)) ?_
  refine xAll_c (xs_lload C dX8_simulate_45) ?_
  refine xAll_c (xs_ldc2 C dX8_simulate_47 wm962) ?_
  refine xAll_c (xs_lmul C dX8_simulate_50) ?_
  refine xAll_c (xs_ldc2 C dX8_simulate_51 wm963) ?_
  refine xAll_c (xs_ladd C dX8_simulate_54) ?_
  refine xAll_c (xs_lstore C dX8_simulate_55) ?_
  refine xAll_c (xs_aload_n C dX8_simulate_57 rfl) ?_
  refine xAll_c (xs_lload C dX8_simulate_58) ?_
  refine xAll_c (xs_bipush C dX8_simulate_60 (by decide)) ?_
  refine xAll_c (xs_lushr C dX8_simulate_62) ?_
  refine xAll_c (xs_l2i C dX8_simulate_63) ?_
  refine xAll_c (xs_callV C (m_X8_simulatedValue l g) dX8_simulate_64 (rfl : vwCl[8]? = some (RX8, TX8, 10)) (by decide) rfl ⟨(by decide), (by decide), by decide +kernel⟩ wm964 wm966 wp30 wm1 wm967 ⟨Nat.le_of_ble_eq_true rfl, Nat.le_of_ble_eq_true rfl⟩) ?_
  refine xAll_c (xs_istore C dX8_simulate_67) ?_
  refine xAll_c (xs_aload_n C dX8_simulate_69 rfl) ?_
  refine xAll_c (xs_getR C dX8_simulate_70 (rfl : vwCl[8]? = some (RX8, TX8, 10)) win8 rfl (by decide) (by decide) rfl wm229) ?_
  refine xAll_c (xs_callV C (m_X0_canAppend l g) dX8_simulate_73 (rfl : vwCl[0]? = some (RX0, TX0, 7)) (by decide) rfl ⟨(by decide), (by decide), by decide +kernel⟩ wm727 wm728 wm729 wm2 wm730 ⟨Nat.le_of_ble_eq_true rfl, Nat.le_of_ble_eq_true rfl⟩) ?_
  refine xAll_c (xs_if_eq C dX8_simulate_76 (by decide)) ?_
  refine xAll_c (xs_aload_n C dX8_simulate_79 rfl) ?_
  refine xAll_c (xs_getR C dX8_simulate_80 (rfl : vwCl[8]? = some (RX8, TX8, 10)) win8 rfl (by decide) (by decide) rfl wm229) ?_
  refine xAll_c (xs_iload C dX8_simulate_83) ?_
  refine xAll_c (xs_callV C (m_X0_appendValue l g) dX8_simulate_85 (rfl : vwCl[0]? = some (RX0, TX0, 7)) (by decide) rfl ⟨(by decide), (by decide), by decide +kernel⟩ wm740 wm741 wm742 wm2 wm743 ⟨Nat.le_of_ble_eq_true rfl, Nat.le_of_ble_eq_true rfl⟩) ?_
  refine xAll_c (xs_pop C dX8_simulate_88) ?_
  refine xAll_c (xs_goto C dX8_simulate_89 (by decide)) ?_
  refine xAll_c (xs_aload_n C dX8_simulate_92 rfl) ?_
  refine xAll_c (xs_getR C dX8_simulate_93 (rfl : vwCl[8]? = some (RX8, TX8, 10)) win8 rfl (by decide) (by decide) rfl wm229) ?_
  refine xAll_c (xs_callV C (m_X0_joinWhileItSaves l g) dX8_simulate_96 (rfl : vwCl[0]? = some (RX0, TX0, 7)) (by decide) rfl ⟨(by decide), (by decide), by decide +kernel⟩ wm350 wm351 wm352 wm2 wm353 ⟨Nat.le_of_ble_eq_true rfl, Nat.le_of_ble_eq_true rfl⟩) ?_
  refine xAll_c (xs_pop C dX8_simulate_99) ?_
  refine xAll_c (xs_iinc C dX8_simulate_100 rfl) ?_
  refine xAll_c (xs_goto C dX8_simulate_103 (by decide)) ?_
  refine xAll_c (xs_bipush C dX8_simulate_106 (by decide)) ?_
  refine xAll_c (xs_aload_n C dX8_simulate_108 rfl) ?_
  refine xAll_c (xs_getR C dX8_simulate_109 (rfl : vwCl[8]? = some (RX8, TX8, 10)) win8 rfl (by decide) (by decide) rfl wm229) ?_
  refine xAll_c (xs_callV C (m_X0_totalSize l g) dX8_simulate_112 (rfl : vwCl[0]? = some (RX0, TX0, 7)) (by decide) rfl ⟨(by decide), (by decide), by decide +kernel⟩ wm554 wm555 wm556 wm2 wm557 ⟨Nat.le_of_ble_eq_true rfl, Nat.le_of_ble_eq_true rfl⟩) ?_
  refine xAll_c (xs_imul C dX8_simulate_115) ?_
  refine xAll_c (xs_aload_n C dX8_simulate_116 rfl) ?_
  refine xAll_c (xs_getR C dX8_simulate_117 (rfl : vwCl[8]? = some (RX8, TX8, 10)) win8 rfl (by decide) (by decide) rfl wm229) ?_
  refine xAll_c (xs_callV C (m_X0_differentCodings l g) dX8_simulate_120 (rfl : vwCl[0]? = some (RX0, TX0, 7)) (by decide) rfl ⟨(by decide), (by decide), by decide +kernel⟩ wm973 wm974 wm975 wm2 wm976 ⟨Nat.le_of_ble_eq_true rfl, Nat.le_of_ble_eq_true rfl⟩) ?_
  refine xAll_c (xs_iadd C dX8_simulate_123) ?_
  refine xAll_c (xs_iret C dX8_simulate_124 rfl) ?_
  exact trivial
noncomputable def k_X8_save : xCode := [(0, oIload 1 1), (1, oIf1 (fun x => decide (x < 0)) 9 4), (4, oIload 1 5), (5, oConst (nI 2) 6), (6, oIf2 (fun x y => decide (x < y)) 20 9), (9, oThrow 3), (20, oAload 0 21), (21, oGetR 8 4 24), (24, oIload 1 25), (25, oAload 0 26), (26, oGetR 8 0 29), (29, oCallU 7 2 f_X7_store 32), (32, oAload 0 33), (33, oGetR 8 0 36), (36, oGetI 0 4 39), (39, oIret)]
noncomputable def f_X8_save : xRun := xrun k_X8_save 2
set_option maxHeartbeats 4000000 in
set_option maxRecDepth 100000 in
theorem m_X8_save (l : Launch) (hfl : l.stackTraces = false) (g : xG) : xMetX l g yX8_save cX8_save 2 (some .int) 6 90 1 6 f_X8_save := by
  refine xmetX_of (own := RX8) hfl (by decide +kernel) rfl (fun p e s m args below meth c r0 C => ?_)
  refine xAll_c (xs_iload_n C dX8_save_0 rfl) ?_
  refine xAll_c (xs_if_lt C dX8_save_1 (by decide)) ?_
  refine xAll_c (xs_iload_n C dX8_save_4 rfl) ?_
  refine xAll_c (xs_iconst C dX8_save_5 (by decide)) ?_
  refine xAll_c (xs_icmp_lt C dX8_save_6 (by decide)) ?_
  refine xAll_c (xs_throwW (text := "a save slot is 0 or 1") C hfl dX8_save_9 dX8_save_12 dX8_save_13 dX8_save_16 dX8_save_19 rfl (by decide +kernel) wm593 wm17 (by decide +kernel) (ths_3_135) ⟨Nat.le_of_ble_eq_true rfl, Nat.le_of_ble_eq_true rfl, Nat.le_of_ble_eq_true rfl, Nat.le_of_ble_eq_true rfl⟩ (Nat.le_refl _) (Nat.le_refl _)) ?_
  refine xAll_c (xs_aload_n C dX8_save_20 rfl) ?_
  refine xAll_c (xs_getR C dX8_save_21 (rfl : vwCl[8]? = some (RX8, TX8, 10)) win8 rfl (by decide) (by decide) rfl wm228) ?_
  refine xAll_c (xs_iload_n C dX8_save_24 rfl) ?_
  refine xAll_c (xs_aload_n C dX8_save_25 rfl) ?_
  refine xAll_c (xs_getR C dX8_save_26 (rfl : vwCl[8]? = some (RX8, TX8, 10)) win8 rfl (by decide) (by decide) rfl wm224) ?_
  refine xAll_c (xs_callU C (m_X7_store l g) dX8_save_29 (rfl : vwCl[7]? = some (RX7, TX7, 2)) (by decide) rfl ⟨(by decide), (by decide), by decide +kernel⟩ wm992 wm330 wm331 wm8 wm332 ⟨Nat.le_of_ble_eq_true rfl, Nat.le_of_ble_eq_true rfl⟩) ?_
  refine xAll_c (xs_aload_n C dX8_save_32 rfl) ?_
  refine xAll_c (xs_getR C dX8_save_33 (rfl : vwCl[8]? = some (RX8, TX8, 10)) win8 rfl (by decide) (by decide) rfl wm224) ?_
  refine xAll_c (xs_getIN (host := "CodedColumn") C dX8_save_36 (rfl : vwCl[0]? = some (RX0, TX0, 7)) win0 rfl (by decide) (by decide) rfl (by decide +kernel)) ?_
  refine xAll_c (xs_iret C dX8_save_39 rfl) ?_
  exact trivial
noncomputable def k_X8_restore : xCode := [(0, oIload 1 1), (1, oIf1 (fun x => decide (x < 0)) 9 4), (4, oIload 1 5), (5, oConst (nI 2) 6), (6, oIf2 (fun x y => decide (x < y)) 20 9), (9, oThrow 3), (20, oAload 0 21), (21, oGetR 8 4 24), (24, oIload 1 25), (25, oCallV 7 1 f_X7_isFilled 28), (28, oIf1 (fun x => !(decide (x = 0))) 42 31), (31, oThrow 2), (42, oAload 0 43), (43, oGetR 8 4 46), (46, oIload 1 47), (47, oAload 0 48), (48, oGetR 8 0 51), (51, oCallU 7 2 f_X7_fetch 54), (54, oAload 0 55), (55, oGetR 8 3 58), (58, oCallU 1 0 f_X1_forgetAll 61), (61, oAload 0 62), (62, oGetR 8 0 65), (65, oGetI 0 4 68), (68, oIret)]
noncomputable def f_X8_restore : xRun := xrun k_X8_restore 2
set_option maxHeartbeats 4000000 in
set_option maxRecDepth 100000 in
theorem m_X8_restore (l : Launch) (hfl : l.stackTraces = false) (g : xG) : xMetX l g yX8_restore cX8_restore 2 (some .int) 6 90 1 6 f_X8_restore := by
  refine xmetX_of (own := RX8) hfl (by decide +kernel) rfl (fun p e s m args below meth c r0 C => ?_)
  refine xAll_c (xs_iload_n C dX8_restore_0 rfl) ?_
  refine xAll_c (xs_if_lt C dX8_restore_1 (by decide)) ?_
  refine xAll_c (xs_iload_n C dX8_restore_4 rfl) ?_
  refine xAll_c (xs_iconst C dX8_restore_5 (by decide)) ?_
  refine xAll_c (xs_icmp_lt C dX8_restore_6 (by decide)) ?_
  refine xAll_c (xs_throwW (text := "a save slot is 0 or 1") C hfl dX8_restore_9 dX8_restore_12 dX8_restore_13 dX8_restore_16 dX8_restore_19 rfl (by decide +kernel) wm593 wm17 (by decide +kernel) (ths_3_135) ⟨Nat.le_of_ble_eq_true rfl, Nat.le_of_ble_eq_true rfl, Nat.le_of_ble_eq_true rfl, Nat.le_of_ble_eq_true rfl⟩ (Nat.le_refl _) (Nat.le_refl _)) ?_
  refine xAll_c (xs_aload_n C dX8_restore_20 rfl) ?_
  refine xAll_c (xs_getR C dX8_restore_21 (rfl : vwCl[8]? = some (RX8, TX8, 10)) win8 rfl (by decide) (by decide) rfl wm228) ?_
  refine xAll_c (xs_iload_n C dX8_restore_24 rfl) ?_
  refine xAll_c (xs_callV C (m_X7_isFilled l g) dX8_restore_25 (rfl : vwCl[7]? = some (RX7, TX7, 2)) (by decide) rfl ⟨(by decide), (by decide), by decide +kernel⟩ wm1000 wm1001 wm1002 wm8 wm1003 ⟨Nat.le_of_ble_eq_true rfl, Nat.le_of_ble_eq_true rfl⟩) ?_
  refine xAll_c (xs_if_ne C dX8_restore_28 (by decide)) ?_
  refine xAll_c (xs_throwW (text := "nothing has been saved in this slot") C hfl dX8_restore_31 dX8_restore_34 dX8_restore_35 dX8_restore_38 dX8_restore_41 rfl (by decide +kernel) wm527 wm15 (by decide +kernel) (ths_2_88) ⟨Nat.le_of_ble_eq_true rfl, Nat.le_of_ble_eq_true rfl, Nat.le_of_ble_eq_true rfl, Nat.le_of_ble_eq_true rfl⟩ (Nat.le_refl _) (Nat.le_refl _)) ?_
  refine xAll_c (xs_aload_n C dX8_restore_42 rfl) ?_
  refine xAll_c (xs_getR C dX8_restore_43 (rfl : vwCl[8]? = some (RX8, TX8, 10)) win8 rfl (by decide) (by decide) rfl wm228) ?_
  refine xAll_c (xs_iload_n C dX8_restore_46 rfl) ?_
  refine xAll_c (xs_aload_n C dX8_restore_47 rfl) ?_
  refine xAll_c (xs_getR C dX8_restore_48 (rfl : vwCl[8]? = some (RX8, TX8, 10)) win8 rfl (by decide) (by decide) rfl wm224) ?_
  refine xAll_c (xs_callU C (m_X7_fetch l g) dX8_restore_51 (rfl : vwCl[7]? = some (RX7, TX7, 2)) (by decide) rfl ⟨(by decide), (by decide), by decide +kernel⟩ wm1006 wm861 wm862 wm8 wm863 ⟨Nat.le_of_ble_eq_true rfl, Nat.le_of_ble_eq_true rfl⟩) ?_
  refine xAll_c (xs_aload_n C dX8_restore_54 rfl) ?_
  refine xAll_c (xs_getR C dX8_restore_55 (rfl : vwCl[8]? = some (RX8, TX8, 10)) win8 rfl (by decide) (by decide) rfl wm227) ?_
  refine xAll_c (xs_callU C (m_X1_forgetAll l g) dX8_restore_58 (rfl : vwCl[1]? = some (RX1, TX1, 3)) (by decide) rfl ⟨(by decide), (by decide), by decide +kernel⟩ wm1007 wm1008 wm1009 wm7 wm1010 ⟨Nat.le_of_ble_eq_true rfl, Nat.le_of_ble_eq_true rfl⟩) ?_
  refine xAll_c (xs_aload_n C dX8_restore_61 rfl) ?_
  refine xAll_c (xs_getR C dX8_restore_62 (rfl : vwCl[8]? = some (RX8, TX8, 10)) win8 rfl (by decide) (by decide) rfl wm224) ?_
  refine xAll_c (xs_getIN (host := "CodedColumn") C dX8_restore_65 (rfl : vwCl[0]? = some (RX0, TX0, 7)) win0 rfl (by decide) (by decide) rfl (by decide +kernel)) ?_
  refine xAll_c (xs_iret C dX8_restore_68 rfl) ?_
  exact trivial
noncomputable def k_X9_thrown : xCode := [(0, oAload 0 1), (1, oGetI 9 0 4), (4, oIret)]
noncomputable def f_X9_thrown : xRun := xrun k_X9_thrown 1
set_option maxHeartbeats 4000000 in
set_option maxRecDepth 100000 in
theorem m_X9_thrown (l : Launch) (g : xG) : xMet l g yX9_thrown cX9_thrown 1 (some .int) 0 0 f_X9_thrown := by
  refine xmet_of (own := RX9) (by decide +kernel) rfl (fun p e s m args below meth c r0 C => ?_)
  refine xAll_c (xs_aload_n C dX9_thrown_0 rfl) ?_
  refine xAll_c (xs_getI C dX9_thrown_1 (rfl : vwCl[9]? = some (RX9, TX9, 17)) win9 rfl (by decide) (by decide) rfl wm1017) ?_
  refine xAll_c (xs_iret C dX9_thrown_4 rfl) ?_
  exact trivial
noncomputable def k_X9_refused : xCode := [(0, oAload 0 1), (1, oIload 1 2), (2, oPutI 9 0 5), (5, oIload 1 6), (6, oIf1 (fun x => decide (x ≤ 0)) 13 9), (9, oConst (nI 1) 10), (10, oGoto 14), (13, oConst (nI 0) 14), (14, oZret)]
noncomputable def f_X9_refused : xRun := xrun k_X9_refused 2
set_option maxHeartbeats 4000000 in
set_option maxRecDepth 100000 in
theorem m_X9_refused (l : Launch) (g : xG) : xMet l g yX9_refused cX9_refused 2 (some .boolean) 0 0 f_X9_refused := by
  refine xmet_of (own := RX9) (by decide +kernel) rfl (fun p e s m args below meth c r0 C => ?_)
  refine xAll_c (xs_aload_n C dX9_refused_0 rfl) ?_
  refine xAll_c (xs_iload_n C dX9_refused_1 rfl) ?_
  refine xAll_c (xs_putI C dX9_refused_2 (rfl : vwCl[9]? = some (RX9, TX9, 17)) win9 tyX9_ok nmX9 rfl (by decide) (by decide) rfl rfl (by decide) wm1017) ?_
  refine xAll_c (xs_iload_n C dX9_refused_5 rfl) ?_
  refine xAll_c (xs_if_le C dX9_refused_6 (by decide)) ?_
  refine xAll_c (xs_iconst C dX9_refused_9 (by decide)) ?_
  refine xAll_c (xs_goto C dX9_refused_10 (by decide)) ?_
  refine xAll_c (xs_iconst C dX9_refused_13 (by decide)) ?_
  refine xAll_c (xs_zret C dX9_refused_14 rfl) ?_
  exact trivial
noncomputable def k_X9_in : xCode := [(0, oLload 0 1), (1, oLload 2 2), (2, oLcmp 3), (3, oIf1 (fun x => decide (x < 0)) 17 6), (6, oLload 0 7), (7, oLload 4 9), (9, oLcmp 10), (10, oIf1 (fun x => decide (0 < x)) 17 13), (13, oConst (nI 1) 14), (14, oGoto 18), (17, oConst (nI 0) 18), (18, oZret)]
noncomputable def f_X9_in : xRun := xrun k_X9_in 6
set_option maxHeartbeats 4000000 in
set_option maxRecDepth 100000 in
theorem m_X9_in (l : Launch) (g : xG) : xMet l g yX9_in cX9_in 6 (some .boolean) 0 0 f_X9_in := by
  refine xmet_of (own := RX9) (by decide +kernel) rfl (fun p e s m args below meth c r0 C => ?_)
  refine xAll_c (xs_lload_n C dX9_in_0 rfl) ?_
  refine xAll_c (xs_lload_n C dX9_in_1 rfl) ?_
  refine xAll_c (xs_lcmp C dX9_in_2) ?_
  refine xAll_c (xs_if_lt C dX9_in_3 (by decide)) ?_
  refine xAll_c (xs_lload_n C dX9_in_6 rfl) ?_
  refine xAll_c (xs_lload C dX9_in_7) ?_
  refine xAll_c (xs_lcmp C dX9_in_9) ?_
  refine xAll_c (xs_if_gt C dX9_in_10 (by decide)) ?_
  refine xAll_c (xs_iconst C dX9_in_13 (by decide)) ?_
  refine xAll_c (xs_goto C dX9_in_14 (by decide)) ?_
  refine xAll_c (xs_iconst C dX9_in_17 (by decide)) ?_
  refine xAll_c (xs_zret C dX9_in_18 rfl) ?_
  exact trivial
noncomputable def k_X9_less : xCode := [(0, oIload 0 1), (1, oIload 1 2), (2, oIf2 (fun x y => decide (y ≤ x)) 9 5), (5, oIload 0 6), (6, oGoto 10), (9, oIload 1 10), (10, oIret)]
noncomputable def f_X9_less : xRun := xrun k_X9_less 2
set_option maxHeartbeats 4000000 in
set_option maxRecDepth 100000 in
theorem m_X9_less (l : Launch) (g : xG) : xMet l g yX9_less cX9_less 2 (some .int) 0 0 f_X9_less := by
  refine xmet_of (own := RX9) (by decide +kernel) rfl (fun p e s m args below meth c r0 C => ?_)
  refine xAll_c (xs_iload_n C dX9_less_0 rfl) ?_
  refine xAll_c (xs_iload_n C dX9_less_1 rfl) ?_
  refine xAll_c (xs_icmp_ge C dX9_less_2 (by decide)) ?_
  refine xAll_c (xs_iload_n C dX9_less_5 rfl) ?_
  refine xAll_c (xs_goto C dX9_less_6 (by decide)) ?_
  refine xAll_c (xs_iload_n C dX9_less_9 rfl) ?_
  refine xAll_c (xs_iret C dX9_less_10 rfl) ?_
  exact trivial
noncomputable def k_X9_more : xCode := [(0, oIload 0 1), (1, oIload 1 2), (2, oIf2 (fun x y => decide (x ≤ y)) 9 5), (5, oIload 0 6), (6, oGoto 10), (9, oIload 1 10), (10, oIret)]
noncomputable def f_X9_more : xRun := xrun k_X9_more 2
set_option maxHeartbeats 4000000 in
set_option maxRecDepth 100000 in
theorem m_X9_more (l : Launch) (g : xG) : xMet l g yX9_more cX9_more 2 (some .int) 0 0 f_X9_more := by
  refine xmet_of (own := RX9) (by decide +kernel) rfl (fun p e s m args below meth c r0 C => ?_)
  refine xAll_c (xs_iload_n C dX9_more_0 rfl) ?_
  refine xAll_c (xs_iload_n C dX9_more_1 rfl) ?_
  refine xAll_c (xs_icmp_le C dX9_more_2 (by decide)) ?_
  refine xAll_c (xs_iload_n C dX9_more_5 rfl) ?_
  refine xAll_c (xs_goto C dX9_more_6 (by decide)) ?_
  refine xAll_c (xs_iload_n C dX9_more_9 rfl) ?_
  refine xAll_c (xs_iret C dX9_more_10 rfl) ?_
  exact trivial
noncomputable def k_X9_copyColumn : xCode := [(0, oConst (nI 0) 1), (1, oIstore 4 5 3), (3, oIload 4 5), (5, oConst (nI 142) 8), (8, oIf2 (fun x y => decide (y ≤ x)) 29 11), (11, oAload 2 12), (12, oIload 3 13), (13, oIload 4 15), (15, oBin (fun x y => x + y) 16), (16, oAload 0 17), (17, oIload 1 18), (18, oIload 4 20), (20, oBin (fun x y => x + y) 21), (21, oIald 22), (22, oIast 23), (23, oIinc 4 (nI 1) 5 26), (26, oGoto 3), (29, oVret)]
noncomputable def f_X9_copyColumn : xRun := xrun k_X9_copyColumn 5
set_option maxHeartbeats 4000000 in
set_option maxRecDepth 100000 in
theorem m_X9_copyColumn (l : Launch) (g : xG) : xMet l g yX9_copyColumn cX9_copyColumn 5 none 0 0 f_X9_copyColumn := by
  refine xmet_of (own := RX9) (by decide +kernel) rfl (fun p e s m args below meth c r0 C => ?_)
  refine xAll_c (xs_iconst C dX9_copyColumn_0 (by decide)) ?_
  refine xAll_c (xs_istore C dX9_copyColumn_1) ?_
  refine xAll_c (xs_iload C dX9_copyColumn_3) ?_
  refine xAll_c (xs_sipush C dX9_copyColumn_5 (by decide)) ?_
  refine xAll_c (xs_icmp_ge C dX9_copyColumn_8 (by decide)) ?_
  refine xAll_c (xs_aload_n C dX9_copyColumn_11 rfl) ?_
  refine xAll_c (xs_iload_n C dX9_copyColumn_12 rfl) ?_
  refine xAll_c (xs_iload C dX9_copyColumn_13) ?_
  refine xAll_c (xs_iadd C dX9_copyColumn_15) ?_
  refine xAll_c (xs_aload_n C dX9_copyColumn_16 rfl) ?_
  refine xAll_c (xs_iload_n C dX9_copyColumn_17 rfl) ?_
  refine xAll_c (xs_iload C dX9_copyColumn_18) ?_
  refine xAll_c (xs_iadd C dX9_copyColumn_20) ?_
  refine xAll_c (xs_iald C dX9_copyColumn_21) ?_
  refine xAll_c (xs_iast C dX9_copyColumn_22) ?_
  refine xAll_c (xs_iinc C dX9_copyColumn_23 rfl) ?_
  refine xAll_c (xs_goto C dX9_copyColumn_26 (by decide)) ?_
  refine xAll_c (xs_vret C dX9_copyColumn_29 rfl) ?_
  exact trivial
noncomputable def k_X9_firstOf : xCode := [(0, oConst (nI 0) 1), (1, oIstore 2 4 2), (2, oConst (nI 0) 3), (3, oIstore 3 4 4), (4, oIload 3 5), (5, oIload 1 6), (6, oIf2 (fun x y => decide (y ≤ x)) 23 9), (9, oIload 2 10), (10, oAload 0 11), (11, oConst (nI 2) 12), (12, oIload 3 13), (13, oBin (fun x y => x + y) 14), (14, oIald 15), (15, oBin (fun x y => x + y) 16), (16, oIstore 2 4 17), (17, oIinc 3 (nI 1) 4 20), (20, oGoto 4), (23, oIload 2 24), (24, oIret)]
noncomputable def f_X9_firstOf : xRun := xrun k_X9_firstOf 4
set_option maxHeartbeats 4000000 in
set_option maxRecDepth 100000 in
theorem m_X9_firstOf (l : Launch) (g : xG) : xMet l g yX9_firstOf cX9_firstOf 4 (some .int) 0 0 f_X9_firstOf := by
  refine xmet_of (own := RX9) (by decide +kernel) rfl (fun p e s m args below meth c r0 C => ?_)
  refine xAll_c (xs_iconst C dX9_firstOf_0 (by decide)) ?_
  refine xAll_c (xs_istore_n C dX9_firstOf_1 rfl) ?_
  refine xAll_c (xs_iconst C dX9_firstOf_2 (by decide)) ?_
  refine xAll_c (xs_istore_n C dX9_firstOf_3 rfl) ?_
  refine xAll_c (xs_iload_n C dX9_firstOf_4 rfl) ?_
  refine xAll_c (xs_iload_n C dX9_firstOf_5 rfl) ?_
  refine xAll_c (xs_icmp_ge C dX9_firstOf_6 (by decide)) ?_
  refine xAll_c (xs_iload_n C dX9_firstOf_9 rfl) ?_
  refine xAll_c (xs_aload_n C dX9_firstOf_10 rfl) ?_
  refine xAll_c (xs_iconst C dX9_firstOf_11 (by decide)) ?_
  refine xAll_c (xs_iload_n C dX9_firstOf_12 rfl) ?_
  refine xAll_c (xs_iadd C dX9_firstOf_13) ?_
  refine xAll_c (xs_iald C dX9_firstOf_14) ?_
  refine xAll_c (xs_iadd C dX9_firstOf_15) ?_
  refine xAll_c (xs_istore_n C dX9_firstOf_16 rfl) ?_
  refine xAll_c (xs_iinc C dX9_firstOf_17 rfl) ?_
  refine xAll_c (xs_goto C dX9_firstOf_20 (by decide)) ?_
  refine xAll_c (xs_iload_n C dX9_firstOf_23 rfl) ?_
  refine xAll_c (xs_iret C dX9_firstOf_24 rfl) ?_
  exact trivial
noncomputable def k_X9_valuesOf : xCode := [(0, oAload 0 1), (1, oAload 0 2), (2, oConst (nI 0) 3), (3, oIald 4), (4, oCallSV 2 f_X9_firstOf 7), (7, oIret)]
noncomputable def f_X9_valuesOf : xRun := xrun k_X9_valuesOf 1
set_option maxHeartbeats 4000000 in
set_option maxRecDepth 100000 in
theorem m_X9_valuesOf (l : Launch) (g : xG) : xMet l g yX9_valuesOf cX9_valuesOf 1 (some .int) 1 23 f_X9_valuesOf := by
  refine xmet_of (own := RX9) (by decide +kernel) rfl (fun p e s m args below meth c r0 C => ?_)
  refine xAll_c (xs_aload_n C dX9_valuesOf_0 rfl) ?_
  refine xAll_c (xs_aload_n C dX9_valuesOf_1 rfl) ?_
  refine xAll_c (xs_iconst C dX9_valuesOf_2 (by decide)) ?_
  refine xAll_c (xs_iald C dX9_valuesOf_3) ?_
  refine xAll_c (xs_callSV C (m_X9_firstOf l g) dX9_valuesOf_4 rfl ⟨(by decide), (by decide), by decide +kernel⟩ wm1143 wm1144 wm10 wm1145 ⟨Nat.le_of_ble_eq_true rfl, Nat.le_of_ble_eq_true rfl⟩) ?_
  refine xAll_c (xs_iret C dX9_valuesOf_7 rfl) ?_
  exact trivial
noncomputable def k_X9_isPage : xCode := [(0, oIload 1 1), (1, oI2l 2), (2, oLconst (0) 3), (3, oAload 0 4), (4, oConst (nI 0) 5), (5, oIald 6), (6, oConst (nI 1) 7), (7, oBin (fun x y => x - y) 8), (8, oI2l 9), (9, oCallSV 3 f_X9_in 12), (12, oZret)]
noncomputable def f_X9_isPage : xRun := xrun k_X9_isPage 2
set_option maxHeartbeats 4000000 in
set_option maxRecDepth 100000 in
theorem m_X9_isPage (l : Launch) (g : xG) : xMet l g yX9_isPage cX9_isPage 2 (some .boolean) 1 25 f_X9_isPage := by
  refine xmet_of (own := RX9) (by decide +kernel) rfl (fun p e s m args below meth c r0 C => ?_)
  refine xAll_c (xs_iload_n C dX9_isPage_0 rfl) ?_
  refine xAll_c (xs_i2l C dX9_isPage_1) ?_
  refine xAll_c (xs_lconst C dX9_isPage_2 (by decide)) ?_
  refine xAll_c (xs_aload_n C dX9_isPage_3 rfl) ?_
  refine xAll_c (xs_iconst C dX9_isPage_4 (by decide)) ?_
  refine xAll_c (xs_iald C dX9_isPage_5) ?_
  refine xAll_c (xs_iconst C dX9_isPage_6 (by decide)) ?_
  refine xAll_c (xs_isub C dX9_isPage_7) ?_
  refine xAll_c (xs_i2l C dX9_isPage_8) ?_
  refine xAll_c (xs_callSV C (m_X9_in l g) dX9_isPage_9 rfl ⟨(by decide), (by decide), by decide +kernel⟩ wm1079 wm1080 wm10 wm1081 ⟨Nat.le_of_ble_eq_true rfl, Nat.le_of_ble_eq_true rfl⟩) ?_
  refine xAll_c (xs_zret C dX9_isPage_12 rfl) ?_
  exact trivial
noncomputable def k_X9_isValue : xCode := [(0, oIload 1 1), (1, oI2l 2), (2, oLconst (0) 3), (3, oAload 0 4), (4, oCallSV 1 f_X9_valuesOf 7), (7, oConst (nI 1) 8), (8, oBin (fun x y => x - y) 9), (9, oI2l 10), (10, oCallSV 3 f_X9_in 13), (13, oZret)]
noncomputable def f_X9_isValue : xRun := xrun k_X9_isValue 2
set_option maxHeartbeats 4000000 in
set_option maxRecDepth 100000 in
theorem m_X9_isValue (l : Launch) (g : xG) : xMet l g yX9_isValue cX9_isValue 2 (some .boolean) 2 43 f_X9_isValue := by
  refine xmet_of (own := RX9) (by decide +kernel) rfl (fun p e s m args below meth c r0 C => ?_)
  refine xAll_c (xs_iload_n C dX9_isValue_0 rfl) ?_
  refine xAll_c (xs_i2l C dX9_isValue_1) ?_
  refine xAll_c (xs_lconst C dX9_isValue_2 (by decide)) ?_
  refine xAll_c (xs_aload_n C dX9_isValue_3 rfl) ?_
  refine xAll_c (xs_callSV C (m_X9_valuesOf l g) dX9_isValue_4 rfl ⟨(by decide), (by decide), by decide +kernel⟩ wm1140 wm1141 wm10 wm1142 ⟨Nat.le_of_ble_eq_true rfl, Nat.le_of_ble_eq_true rfl⟩) ?_
  refine xAll_c (xs_iconst C dX9_isValue_7 (by decide)) ?_
  refine xAll_c (xs_isub C dX9_isValue_8) ?_
  refine xAll_c (xs_i2l C dX9_isValue_9) ?_
  refine xAll_c (xs_callSV C (m_X9_in l g) dX9_isValue_10 rfl ⟨(by decide), (by decide), by decide +kernel⟩ wm1079 wm1080 wm10 wm1081 ⟨Nat.le_of_ble_eq_true rfl, Nat.le_of_ble_eq_true rfl⟩) ?_
  refine xAll_c (xs_zret C dX9_isValue_13 rfl) ?_
  exact trivial
noncomputable def k_X9_pageOf : xCode := [(0, oConst (nI 0) 1), (1, oIstore 2 4 2), (2, oAload 0 3), (3, oConst (nI 2) 4), (4, oIald 5), (5, oIstore 3 4 6), (6, oIload 3 7), (7, oIload 1 8), (8, oIf2 (fun x y => decide (y < x)) 25 11), (11, oIinc 2 (nI 1) 4 14), (14, oIload 3 15), (15, oAload 0 16), (16, oConst (nI 2) 17), (17, oIload 2 18), (18, oBin (fun x y => x + y) 19), (19, oIald 20), (20, oBin (fun x y => x + y) 21), (21, oIstore 3 4 22), (22, oGoto 6), (25, oIload 2 26), (26, oIret)]
noncomputable def f_X9_pageOf : xRun := xrun k_X9_pageOf 4
set_option maxHeartbeats 4000000 in
set_option maxRecDepth 100000 in
theorem m_X9_pageOf (l : Launch) (g : xG) : xMet l g yX9_pageOf cX9_pageOf 4 (some .int) 0 0 f_X9_pageOf := by
  refine xmet_of (own := RX9) (by decide +kernel) rfl (fun p e s m args below meth c r0 C => ?_)
  refine xAll_c (xs_iconst C dX9_pageOf_0 (by decide)) ?_
  refine xAll_c (xs_istore_n C dX9_pageOf_1 rfl) ?_
  refine xAll_c (xs_aload_n C dX9_pageOf_2 rfl) ?_
  refine xAll_c (xs_iconst C dX9_pageOf_3 (by decide)) ?_
  refine xAll_c (xs_iald C dX9_pageOf_4) ?_
  refine xAll_c (xs_istore_n C dX9_pageOf_5 rfl) ?_
  refine xAll_c (xs_iload_n C dX9_pageOf_6 rfl) ?_
  refine xAll_c (xs_iload_n C dX9_pageOf_7 rfl) ?_
  refine xAll_c (xs_icmp_gt C dX9_pageOf_8 (by decide)) ?_
  refine xAll_c (xs_iinc C dX9_pageOf_11 rfl) ?_
  refine xAll_c (xs_iload_n C dX9_pageOf_14 rfl) ?_
  refine xAll_c (xs_aload_n C dX9_pageOf_15 rfl) ?_
  refine xAll_c (xs_iconst C dX9_pageOf_16 (by decide)) ?_
  refine xAll_c (xs_iload_n C dX9_pageOf_17 rfl) ?_
  refine xAll_c (xs_iadd C dX9_pageOf_18) ?_
  refine xAll_c (xs_iald C dX9_pageOf_19) ?_
  refine xAll_c (xs_iadd C dX9_pageOf_20) ?_
  refine xAll_c (xs_istore_n C dX9_pageOf_21 rfl) ?_
  refine xAll_c (xs_goto C dX9_pageOf_22 (by decide)) ?_
  refine xAll_c (xs_iload_n C dX9_pageOf_25 rfl) ?_
  refine xAll_c (xs_iret C dX9_pageOf_26 rfl) ?_
  exact trivial
noncomputable def k_X9_width : xCode := [(0, oConst (nI 0) 1), (1, oIstore 1 2 2), (2, oIload 0 3), (3, oIload 1 4), (4, oBin (fun x y => x >>> (y &&& 31)) 5), (5, oIf1 (fun x => decide (x ≤ 0)) 14 8), (8, oIinc 1 (nI 1) 2 11), (11, oGoto 2), (14, oIload 1 15), (15, oIret)]
noncomputable def f_X9_width : xRun := xrun k_X9_width 2
set_option maxHeartbeats 4000000 in
set_option maxRecDepth 100000 in
theorem m_X9_width (l : Launch) (g : xG) : xMet l g yX9_width cX9_width 2 (some .int) 0 0 f_X9_width := by
  refine xmet_of (own := RX9) (by decide +kernel) rfl (fun p e s m args below meth c r0 C => ?_)
  refine xAll_c (xs_iconst C dX9_width_0 (by decide)) ?_
  refine xAll_c (xs_istore_n C dX9_width_1 rfl) ?_
  refine xAll_c (xs_iload_n C dX9_width_2 rfl) ?_
  refine xAll_c (xs_iload_n C dX9_width_3 rfl) ?_
  refine xAll_c (xs_ishr C dX9_width_4) ?_
  refine xAll_c (xs_if_le C dX9_width_5 (by decide)) ?_
  refine xAll_c (xs_iinc C dX9_width_8 rfl) ?_
  refine xAll_c (xs_goto C dX9_width_11 (by decide)) ?_
  refine xAll_c (xs_iload_n C dX9_width_14 rfl) ?_
  refine xAll_c (xs_iret C dX9_width_15 rfl) ?_
  exact trivial
noncomputable def k_X9_smallestIn : xCode := [(0, oConst (nI 1023) 3), (3, oIstore 3 5 4), (4, oIload 1 5), (5, oIstore 4 5 7), (7, oIload 4 9), (9, oIload 1 10), (10, oIload 2 11), (11, oBin (fun x y => x + y) 12), (12, oIf2 (fun x y => decide (y ≤ x)) 30 15), (15, oIload 3 16), (16, oAload 0 17), (17, oIload 4 19), (19, oIald 20), (20, oCallSV 2 f_X9_less 23), (23, oIstore 3 5 24), (24, oIinc 4 (nI 1) 5 27), (27, oGoto 7), (30, oIload 3 31), (31, oIret)]
noncomputable def f_X9_smallestIn : xRun := xrun k_X9_smallestIn 5
set_option maxHeartbeats 4000000 in
set_option maxRecDepth 100000 in
theorem m_X9_smallestIn (l : Launch) (g : xG) : xMet l g yX9_smallestIn cX9_smallestIn 5 (some .int) 1 21 f_X9_smallestIn := by
  refine xmet_of (own := RX9) (by decide +kernel) rfl (fun p e s m args below meth c r0 C => ?_)
  refine xAll_c (xs_sipush C dX9_smallestIn_0 (by decide)) ?_
  refine xAll_c (xs_istore_n C dX9_smallestIn_3 rfl) ?_
  refine xAll_c (xs_iload_n C dX9_smallestIn_4 rfl) ?_
  refine xAll_c (xs_istore C dX9_smallestIn_5) ?_
  refine xAll_c (xs_iload C dX9_smallestIn_7) ?_
  refine xAll_c (xs_iload_n C dX9_smallestIn_9 rfl) ?_
  refine xAll_c (xs_iload_n C dX9_smallestIn_10 rfl) ?_
  refine xAll_c (xs_iadd C dX9_smallestIn_11) ?_
  refine xAll_c (xs_icmp_ge C dX9_smallestIn_12 (by decide)) ?_
  refine xAll_c (xs_iload_n C dX9_smallestIn_15 rfl) ?_
  refine xAll_c (xs_aload_n C dX9_smallestIn_16 rfl) ?_
  refine xAll_c (xs_iload C dX9_smallestIn_17) ?_
  refine xAll_c (xs_iald C dX9_smallestIn_19) ?_
  refine xAll_c (xs_callSV C (m_X9_less l g) dX9_smallestIn_20 rfl ⟨(by decide), (by decide), by decide +kernel⟩ wm1106 wm1107 wm10 wm1108 ⟨Nat.le_of_ble_eq_true rfl, Nat.le_of_ble_eq_true rfl⟩) ?_
  refine xAll_c (xs_istore_n C dX9_smallestIn_23 rfl) ?_
  refine xAll_c (xs_iinc C dX9_smallestIn_24 rfl) ?_
  refine xAll_c (xs_goto C dX9_smallestIn_27 (by decide)) ?_
  refine xAll_c (xs_iload_n C dX9_smallestIn_30 rfl) ?_
  refine xAll_c (xs_iret C dX9_smallestIn_31 rfl) ?_
  exact trivial
noncomputable def k_X9_greatestIn : xCode := [(0, oConst (nI 0) 1), (1, oIstore 3 5 2), (2, oIload 1 3), (3, oIstore 4 5 5), (5, oIload 4 7), (7, oIload 1 8), (8, oIload 2 9), (9, oBin (fun x y => x + y) 10), (10, oIf2 (fun x y => decide (y ≤ x)) 28 13), (13, oIload 3 14), (14, oAload 0 15), (15, oIload 4 17), (17, oIald 18), (18, oCallSV 2 f_X9_more 21), (21, oIstore 3 5 22), (22, oIinc 4 (nI 1) 5 25), (25, oGoto 5), (28, oIload 3 29), (29, oIret)]
noncomputable def f_X9_greatestIn : xRun := xrun k_X9_greatestIn 5
set_option maxHeartbeats 4000000 in
set_option maxRecDepth 100000 in
theorem m_X9_greatestIn (l : Launch) (g : xG) : xMet l g yX9_greatestIn cX9_greatestIn 5 (some .int) 1 21 f_X9_greatestIn := by
  refine xmet_of (own := RX9) (by decide +kernel) rfl (fun p e s m args below meth c r0 C => ?_)
  refine xAll_c (xs_iconst C dX9_greatestIn_0 (by decide)) ?_
  refine xAll_c (xs_istore_n C dX9_greatestIn_1 rfl) ?_
  refine xAll_c (xs_iload_n C dX9_greatestIn_2 rfl) ?_
  refine xAll_c (xs_istore C dX9_greatestIn_3) ?_
  refine xAll_c (xs_iload C dX9_greatestIn_5) ?_
  refine xAll_c (xs_iload_n C dX9_greatestIn_7 rfl) ?_
  refine xAll_c (xs_iload_n C dX9_greatestIn_8 rfl) ?_
  refine xAll_c (xs_iadd C dX9_greatestIn_9) ?_
  refine xAll_c (xs_icmp_ge C dX9_greatestIn_10 (by decide)) ?_
  refine xAll_c (xs_iload_n C dX9_greatestIn_13 rfl) ?_
  refine xAll_c (xs_aload_n C dX9_greatestIn_14 rfl) ?_
  refine xAll_c (xs_iload C dX9_greatestIn_15) ?_
  refine xAll_c (xs_iald C dX9_greatestIn_17) ?_
  refine xAll_c (xs_callSV C (m_X9_more l g) dX9_greatestIn_18 rfl ⟨(by decide), (by decide), by decide +kernel⟩ wm1109 wm1110 wm10 wm1111 ⟨Nat.le_of_ble_eq_true rfl, Nat.le_of_ble_eq_true rfl⟩) ?_
  refine xAll_c (xs_istore_n C dX9_greatestIn_21 rfl) ?_
  refine xAll_c (xs_iinc C dX9_greatestIn_22 rfl) ?_
  refine xAll_c (xs_goto C dX9_greatestIn_25 (by decide)) ?_
  refine xAll_c (xs_iload_n C dX9_greatestIn_28 rfl) ?_
  refine xAll_c (xs_iret C dX9_greatestIn_29 rfl) ?_
  exact trivial
noncomputable def k_X9_isNew : xCode := [(0, oIload 1 1), (1, oIstore 3 4 2), (2, oIload 3 3), (3, oIload 2 4), (4, oIf2 (fun x y => decide (y ≤ x)) 24 7), (7, oAload 0 8), (8, oIload 3 9), (9, oIald 10), (10, oAload 0 11), (11, oIload 2 12), (12, oIald 13), (13, oIf2 (fun x y => !(decide (x = y))) 18 16), (16, oConst (nI 0) 17), (17, oZret), (18, oIinc 3 (nI 1) 4 21), (21, oGoto 2), (24, oConst (nI 1) 25), (25, oZret)]
noncomputable def f_X9_isNew : xRun := xrun k_X9_isNew 4
set_option maxHeartbeats 4000000 in
set_option maxRecDepth 100000 in
theorem m_X9_isNew (l : Launch) (g : xG) : xMet l g yX9_isNew cX9_isNew 4 (some .boolean) 0 0 f_X9_isNew := by
  refine xmet_of (own := RX9) (by decide +kernel) rfl (fun p e s m args below meth c r0 C => ?_)
  refine xAll_c (xs_iload_n C dX9_isNew_0 rfl) ?_
  refine xAll_c (xs_istore_n C dX9_isNew_1 rfl) ?_
  refine xAll_c (xs_iload_n C dX9_isNew_2 rfl) ?_
  refine xAll_c (xs_iload_n C dX9_isNew_3 rfl) ?_
  refine xAll_c (xs_icmp_ge C dX9_isNew_4 (by decide)) ?_
  refine xAll_c (xs_aload_n C dX9_isNew_7 rfl) ?_
  refine xAll_c (xs_iload_n C dX9_isNew_8 rfl) ?_
  refine xAll_c (xs_iald C dX9_isNew_9) ?_
  refine xAll_c (xs_aload_n C dX9_isNew_10 rfl) ?_
  refine xAll_c (xs_iload_n C dX9_isNew_11 rfl) ?_
  refine xAll_c (xs_iald C dX9_isNew_12) ?_
  refine xAll_c (xs_icmp_ne C dX9_isNew_13 (by decide)) ?_
  refine xAll_c (xs_iconst C dX9_isNew_16 (by decide)) ?_
  refine xAll_c (xs_zret C dX9_isNew_17 rfl) ?_
  refine xAll_c (xs_iinc C dX9_isNew_18 rfl) ?_
  refine xAll_c (xs_goto C dX9_isNew_21 (by decide)) ?_
  refine xAll_c (xs_iconst C dX9_isNew_24 (by decide)) ?_
  refine xAll_c (xs_zret C dX9_isNew_25 rfl) ?_
  exact trivial
noncomputable def k_X9_differentIn : xCode := [(0, oConst (nI 0) 1), (1, oIstore 3 5 2), (2, oIload 1 3), (3, oIstore 4 5 5), (5, oIload 4 7), (7, oIload 1 8), (8, oIload 2 9), (9, oBin (fun x y => x + y) 10), (10, oIf2 (fun x y => decide (y ≤ x)) 37 13), (13, oIload 3 14), (14, oAload 0 15), (15, oIload 1 16), (16, oIload 4 18), (18, oCallSV 3 f_X9_isNew 21), (21, oIf1 (fun x => decide (x = 0)) 28 24), (24, oConst (nI 1) 25), (25, oGoto 29), (28, oConst (nI 0) 29), (29, oBin (fun x y => x + y) 30), (30, oIstore 3 5 31), (31, oIinc 4 (nI 1) 5 34), (34, oGoto 5), (37, oIload 3 38), (38, oIret)]
noncomputable def f_X9_differentIn : xRun := xrun k_X9_differentIn 5
set_option maxHeartbeats 4000000 in
set_option maxRecDepth 100000 in
theorem m_X9_differentIn (l : Launch) (g : xG) : xMet l g yX9_differentIn cX9_differentIn 5 (some .int) 1 23 f_X9_differentIn := by
  refine xmet_of (own := RX9) (by decide +kernel) rfl (fun p e s m args below meth c r0 C => ?_)
  refine xAll_c (xs_iconst C dX9_differentIn_0 (by decide)) ?_
  refine xAll_c (xs_istore_n C dX9_differentIn_1 rfl) ?_
  refine xAll_c (xs_iload_n C dX9_differentIn_2 rfl) ?_
  refine xAll_c (xs_istore C dX9_differentIn_3) ?_
  refine xAll_c (xs_iload C dX9_differentIn_5) ?_
  refine xAll_c (xs_iload_n C dX9_differentIn_7 rfl) ?_
  refine xAll_c (xs_iload_n C dX9_differentIn_8 rfl) ?_
  refine xAll_c (xs_iadd C dX9_differentIn_9) ?_
  refine xAll_c (xs_icmp_ge C dX9_differentIn_10 (by decide)) ?_
  refine xAll_c (xs_iload_n C dX9_differentIn_13 rfl) ?_
  refine xAll_c (xs_aload_n C dX9_differentIn_14 rfl) ?_
  refine xAll_c (xs_iload_n C dX9_differentIn_15 rfl) ?_
  refine xAll_c (xs_iload C dX9_differentIn_16) ?_
  refine xAll_c (xs_callSV C (m_X9_isNew l g) dX9_differentIn_18 rfl ⟨(by decide), (by decide), by decide +kernel⟩ wm1164 wm1165 wm10 wm1166 ⟨Nat.le_of_ble_eq_true rfl, Nat.le_of_ble_eq_true rfl⟩) ?_
  refine xAll_c (xs_if_eq C dX9_differentIn_21 (by decide)) ?_
  refine xAll_c (xs_iconst C dX9_differentIn_24 (by decide)) ?_
  refine xAll_c (xs_goto C dX9_differentIn_25 (by decide)) ?_
  refine xAll_c (xs_iconst C dX9_differentIn_28 (by decide)) ?_
  refine xAll_c (xs_iadd C dX9_differentIn_29) ?_
  refine xAll_c (xs_istore_n C dX9_differentIn_30 rfl) ?_
  refine xAll_c (xs_iinc C dX9_differentIn_31 rfl) ?_
  refine xAll_c (xs_goto C dX9_differentIn_34 (by decide)) ?_
  refine xAll_c (xs_iload_n C dX9_differentIn_37 rfl) ?_
  refine xAll_c (xs_iret C dX9_differentIn_38 rfl) ?_
  exact trivial
noncomputable def k_X9_wordOf : xCode := [(0, oConst (nI 0) 1), (1, oIstore 4 6 3), (3, oIload 1 4), (4, oIstore 5 6 6), (6, oIload 5 8), (8, oIload 1 9), (9, oIload 2 10), (10, oBin (fun x y => x + y) 11), (11, oIf2 (fun x y => decide (y ≤ x)) 44 14), (14, oAload 0 15), (15, oIload 1 16), (16, oIload 5 18), (18, oCallSV 3 f_X9_isNew 21), (21, oIf1 (fun x => decide (x = 0)) 38 24), (24, oAload 0 25), (25, oIload 5 27), (27, oIald 28), (28, oIload 3 29), (29, oIf2 (fun x y => !(decide (x = y))) 35 32), (32, oIload 4 34), (34, oIret), (35, oIinc 4 (nI 1) 6 38), (38, oIinc 5 (nI 1) 6 41), (41, oGoto 6), (44, oIload 4 46), (46, oIret)]
noncomputable def f_X9_wordOf : xRun := xrun k_X9_wordOf 6
set_option maxHeartbeats 4000000 in
set_option maxRecDepth 100000 in
theorem m_X9_wordOf (l : Launch) (g : xG) : xMet l g yX9_wordOf cX9_wordOf 6 (some .int) 1 23 f_X9_wordOf := by
  refine xmet_of (own := RX9) (by decide +kernel) rfl (fun p e s m args below meth c r0 C => ?_)
  refine xAll_c (xs_iconst C dX9_wordOf_0 (by decide)) ?_
  refine xAll_c (xs_istore C dX9_wordOf_1) ?_
  refine xAll_c (xs_iload_n C dX9_wordOf_3 rfl) ?_
  refine xAll_c (xs_istore C dX9_wordOf_4) ?_
  refine xAll_c (xs_iload C dX9_wordOf_6) ?_
  refine xAll_c (xs_iload_n C dX9_wordOf_8 rfl) ?_
  refine xAll_c (xs_iload_n C dX9_wordOf_9 rfl) ?_
  refine xAll_c (xs_iadd C dX9_wordOf_10) ?_
  refine xAll_c (xs_icmp_ge C dX9_wordOf_11 (by decide)) ?_
  refine xAll_c (xs_aload_n C dX9_wordOf_14 rfl) ?_
  refine xAll_c (xs_iload_n C dX9_wordOf_15 rfl) ?_
  refine xAll_c (xs_iload C dX9_wordOf_16) ?_
  refine xAll_c (xs_callSV C (m_X9_isNew l g) dX9_wordOf_18 rfl ⟨(by decide), (by decide), by decide +kernel⟩ wm1164 wm1165 wm10 wm1166 ⟨Nat.le_of_ble_eq_true rfl, Nat.le_of_ble_eq_true rfl⟩) ?_
  refine xAll_c (xs_if_eq C dX9_wordOf_21 (by decide)) ?_
  refine xAll_c (xs_aload_n C dX9_wordOf_24 rfl) ?_
  refine xAll_c (xs_iload C dX9_wordOf_25) ?_
  refine xAll_c (xs_iald C dX9_wordOf_27) ?_
  refine xAll_c (xs_iload_n C dX9_wordOf_28 rfl) ?_
  refine xAll_c (xs_icmp_ne C dX9_wordOf_29 (by decide)) ?_
  refine xAll_c (xs_iload C dX9_wordOf_32) ?_
  refine xAll_c (xs_iret C dX9_wordOf_34 rfl) ?_
  refine xAll_c (xs_iinc C dX9_wordOf_35 rfl) ?_
  refine xAll_c (xs_iinc C dX9_wordOf_38 rfl) ?_
  refine xAll_c (xs_goto C dX9_wordOf_41 (by decide)) ?_
  refine xAll_c (xs_iload C dX9_wordOf_44) ?_
  refine xAll_c (xs_iret C dX9_wordOf_46 rfl) ?_
  exact trivial
noncomputable def k_X9_runsIn : xCode := [(0, oConst (nI 1) 1), (1, oIstore 3 5 2), (2, oIload 1 3), (3, oConst (nI 1) 4), (4, oBin (fun x y => x + y) 5), (5, oIstore 4 5 7), (7, oIload 4 9), (9, oIload 1 10), (10, oIload 2 11), (11, oBin (fun x y => x + y) 12), (12, oIf2 (fun x y => decide (y ≤ x)) 42 15), (15, oIload 3 16), (16, oAload 0 17), (17, oIload 4 19), (19, oIald 20), (20, oAload 0 21), (21, oIload 4 23), (23, oConst (nI 1) 24), (24, oBin (fun x y => x - y) 25), (25, oIald 26), (26, oIf2 (fun x y => !(decide (x = y))) 33 29), (29, oConst (nI 0) 30), (30, oGoto 34), (33, oConst (nI 1) 34), (34, oBin (fun x y => x + y) 35), (35, oIstore 3 5 36), (36, oIinc 4 (nI 1) 5 39), (39, oGoto 7), (42, oIload 3 43), (43, oIret)]
noncomputable def f_X9_runsIn : xRun := xrun k_X9_runsIn 5
set_option maxHeartbeats 4000000 in
set_option maxRecDepth 100000 in
theorem m_X9_runsIn (l : Launch) (g : xG) : xMet l g yX9_runsIn cX9_runsIn 5 (some .int) 0 0 f_X9_runsIn := by
  refine xmet_of (own := RX9) (by decide +kernel) rfl (fun p e s m args below meth c r0 C => ?_)
  refine xAll_c (xs_iconst C dX9_runsIn_0 (by decide)) ?_
  refine xAll_c (xs_istore_n C dX9_runsIn_1 rfl) ?_
  refine xAll_c (xs_iload_n C dX9_runsIn_2 rfl) ?_
  refine xAll_c (xs_iconst C dX9_runsIn_3 (by decide)) ?_
  refine xAll_c (xs_iadd C dX9_runsIn_4) ?_
  refine xAll_c (xs_istore C dX9_runsIn_5) ?_
  refine xAll_c (xs_iload C dX9_runsIn_7) ?_
  refine xAll_c (xs_iload_n C dX9_runsIn_9 rfl) ?_
  refine xAll_c (xs_iload_n C dX9_runsIn_10 rfl) ?_
  refine xAll_c (xs_iadd C dX9_runsIn_11) ?_
  refine xAll_c (xs_icmp_ge C dX9_runsIn_12 (by decide)) ?_
  refine xAll_c (xs_iload_n C dX9_runsIn_15 rfl) ?_
  refine xAll_c (xs_aload_n C dX9_runsIn_16 rfl) ?_
  refine xAll_c (xs_iload C dX9_runsIn_17) ?_
  refine xAll_c (xs_iald C dX9_runsIn_19) ?_
  refine xAll_c (xs_aload_n C dX9_runsIn_20 rfl) ?_
  refine xAll_c (xs_iload C dX9_runsIn_21) ?_
  refine xAll_c (xs_iconst C dX9_runsIn_23 (by decide)) ?_
  refine xAll_c (xs_isub C dX9_runsIn_24) ?_
  refine xAll_c (xs_iald C dX9_runsIn_25) ?_
  refine xAll_c (xs_icmp_ne C dX9_runsIn_26 (by decide)) ?_
  refine xAll_c (xs_iconst C dX9_runsIn_29 (by decide)) ?_
  refine xAll_c (xs_goto C dX9_runsIn_30 (by decide)) ?_
  refine xAll_c (xs_iconst C dX9_runsIn_33 (by decide)) ?_
  refine xAll_c (xs_iadd C dX9_runsIn_34) ?_
  refine xAll_c (xs_istore_n C dX9_runsIn_35 rfl) ?_
  refine xAll_c (xs_iinc C dX9_runsIn_36 rfl) ?_
  refine xAll_c (xs_goto C dX9_runsIn_39 (by decide)) ?_
  refine xAll_c (xs_iload_n C dX9_runsIn_42 rfl) ?_
  refine xAll_c (xs_iret C dX9_runsIn_43 rfl) ?_
  exact trivial
noncomputable def k_X9_stepWidth : xCode := [(0, oConst (nI 1) 1), (1, oIstore 3 6 2), (2, oIload 1 3), (3, oConst (nI 1) 4), (4, oBin (fun x y => x + y) 5), (5, oIstore 4 6 7), (7, oIload 4 9), (9, oIload 1 10), (10, oIload 2 11), (11, oBin (fun x y => x + y) 12), (12, oIf2 (fun x y => decide (y ≤ x)) 61 15), (15, oAload 0 16), (16, oIload 4 18), (18, oIald 19), (19, oAload 0 20), (20, oIload 4 22), (22, oConst (nI 1) 23), (23, oBin (fun x y => x - y) 24), (24, oIald 25), (25, oBin (fun x y => x - y) 26), (26, oIstore 5 6 28), (28, oIload 5 30), (30, oConst (nI 1) 31), (31, oIload 3 32), (32, oConst (nI 1) 33), (33, oBin (fun x y => x - y) 34), (34, oBin (fun x y => x <<< (y &&& 31)) 35), (35, oIf2 (fun x y => decide (y ≤ x)) 49 38), (38, oIload 5 40), (40, oConst (nI 1) 41), (41, oIload 3 42), (42, oConst (nI 1) 43), (43, oBin (fun x y => x - y) 44), (44, oBin (fun x y => x <<< (y &&& 31)) 45), (45, oUn (fun x => -x) 46), (46, oIf2 (fun x y => decide (y ≤ x)) 55 49), (49, oIinc 3 (nI 1) 6 52), (52, oGoto 28), (55, oIinc 4 (nI 1) 6 58), (58, oGoto 7), (61, oIload 3 62), (62, oIret)]
noncomputable def f_X9_stepWidth : xRun := xrun k_X9_stepWidth 6
set_option maxHeartbeats 4000000 in
set_option maxRecDepth 100000 in
theorem m_X9_stepWidth (l : Launch) (g : xG) : xMet l g yX9_stepWidth cX9_stepWidth 6 (some .int) 0 0 f_X9_stepWidth := by
  refine xmet_of (own := RX9) (by decide +kernel) rfl (fun p e s m args below meth c r0 C => ?_)
  refine xAll_c (xs_iconst C dX9_stepWidth_0 (by decide)) ?_
  refine xAll_c (xs_istore_n C dX9_stepWidth_1 rfl) ?_
  refine xAll_c (xs_iload_n C dX9_stepWidth_2 rfl) ?_
  refine xAll_c (xs_iconst C dX9_stepWidth_3 (by decide)) ?_
  refine xAll_c (xs_iadd C dX9_stepWidth_4) ?_
  refine xAll_c (xs_istore C dX9_stepWidth_5) ?_
  refine xAll_c (xs_iload C dX9_stepWidth_7) ?_
  refine xAll_c (xs_iload_n C dX9_stepWidth_9 rfl) ?_
  refine xAll_c (xs_iload_n C dX9_stepWidth_10 rfl) ?_
  refine xAll_c (xs_iadd C dX9_stepWidth_11) ?_
  refine xAll_c (xs_icmp_ge C dX9_stepWidth_12 (by decide)) ?_
  refine xAll_c (xs_aload_n C dX9_stepWidth_15 rfl) ?_
  refine xAll_c (xs_iload C dX9_stepWidth_16) ?_
  refine xAll_c (xs_iald C dX9_stepWidth_18) ?_
  refine xAll_c (xs_aload_n C dX9_stepWidth_19 rfl) ?_
  refine xAll_c (xs_iload C dX9_stepWidth_20) ?_
  refine xAll_c (xs_iconst C dX9_stepWidth_22 (by decide)) ?_
  refine xAll_c (xs_isub C dX9_stepWidth_23) ?_
  refine xAll_c (xs_iald C dX9_stepWidth_24) ?_
  refine xAll_c (xs_isub C dX9_stepWidth_25) ?_
  refine xAll_c (xs_istore C dX9_stepWidth_26) ?_
  refine xAll_c (xs_iload C dX9_stepWidth_28) ?_
  refine xAll_c (xs_iconst C dX9_stepWidth_30 (by decide)) ?_
  refine xAll_c (xs_iload_n C dX9_stepWidth_31 rfl) ?_
  refine xAll_c (xs_iconst C dX9_stepWidth_32 (by decide)) ?_
  refine xAll_c (xs_isub C dX9_stepWidth_33) ?_
  refine xAll_c (xs_ishl C dX9_stepWidth_34) ?_
  refine xAll_c (xs_icmp_ge C dX9_stepWidth_35 (by decide)) ?_
  refine xAll_c (xs_iload C dX9_stepWidth_38) ?_
  refine xAll_c (xs_iconst C dX9_stepWidth_40 (by decide)) ?_
  refine xAll_c (xs_iload_n C dX9_stepWidth_41 rfl) ?_
  refine xAll_c (xs_iconst C dX9_stepWidth_42 (by decide)) ?_
  refine xAll_c (xs_isub C dX9_stepWidth_43) ?_
  refine xAll_c (xs_ishl C dX9_stepWidth_44) ?_
  refine xAll_c (xs_ineg C dX9_stepWidth_45) ?_
  refine xAll_c (xs_icmp_ge C dX9_stepWidth_46 (by decide)) ?_
  refine xAll_c (xs_iinc C dX9_stepWidth_49 rfl) ?_
  refine xAll_c (xs_goto C dX9_stepWidth_52 (by decide)) ?_
  refine xAll_c (xs_iinc C dX9_stepWidth_55 rfl) ?_
  refine xAll_c (xs_goto C dX9_stepWidth_58 (by decide)) ?_
  refine xAll_c (xs_iload_n C dX9_stepWidth_61 rfl) ?_
  refine xAll_c (xs_iret C dX9_stepWidth_62 rfl) ?_
  exact trivial
noncomputable def k_X9_sizeBy : xCode := [(0, oIload 3 1), (1, oTab 0 [32, 40, 67, 80] 102), (32, oConst (nI 7) 34), (34, oConst (nI 10) 36), (36, oIload 2 37), (37, oBin (fun x y => x * y) 38), (38, oBin (fun x y => x + y) 39), (39, oIret), (40, oAload 0 41), (41, oIload 1 42), (42, oIload 2 43), (43, oCallSV 3 f_X9_differentIn 46), (46, oIstore 4 5 48), (48, oConst (nI 11) 50), (50, oConst (nI 10) 52), (52, oIload 4 54), (54, oBin (fun x y => x * y) 55), (55, oBin (fun x y => x + y) 56), (56, oIload 2 57), (57, oIload 4 59), (59, oConst (nI 1) 60), (60, oBin (fun x y => x - y) 61), (61, oCallSV 1 f_X9_width 64), (64, oBin (fun x y => x * y) 65), (65, oBin (fun x y => x + y) 66), (66, oIret), (67, oConst (nI 7) 69), (69, oConst (nI 14) 71), (71, oAload 0 72), (72, oIload 1 73), (73, oIload 2 74), (74, oCallSV 3 f_X9_runsIn 77), (77, oBin (fun x y => x * y) 78), (78, oBin (fun x y => x + y) 79), (79, oIret), (80, oConst (nI 21) 82), (82, oIload 2 83), (83, oAload 0 84), (84, oIload 1 85), (85, oIload 2 86), (86, oCallSV 3 f_X9_greatestIn 89), (89, oAload 0 90), (90, oIload 1 91), (91, oIload 2 92), (92, oCallSV 3 f_X9_smallestIn 95), (95, oBin (fun x y => x - y) 96), (96, oCallSV 1 f_X9_width 99), (99, oBin (fun x y => x * y) 100), (100, oBin (fun x y => x + y) 101), (101, oIret), (102, oConst (nI 21) 104), (104, oIload 2 105), (105, oConst (nI 1) 106), (106, oBin (fun x y => x - y) 107), (107, oAload 0 108), (108, oIload 1 109), (109, oIload 2 110), (110, oCallSV 3 f_X9_stepWidth 113), (113, oBin (fun x y => x * y) 114), (114, oBin (fun x y => x + y) 115), (115, oIret)]
noncomputable def f_X9_sizeBy : xRun := xrun k_X9_sizeBy 5
set_option maxHeartbeats 4000000 in
set_option maxRecDepth 100000 in
theorem m_X9_sizeBy (l : Launch) (g : xG) : xMet l g yX9_sizeBy cX9_sizeBy 5 (some .int) 2 47 f_X9_sizeBy := by
  refine xmet_of (own := RX9) (by decide +kernel) rfl (fun p e s m args below meth c r0 C => ?_)
  refine xAll_c (xs_iload_n C dX9_sizeBy_0 rfl) ?_
  refine xAll_c (xs_tab C dX9_sizeBy_1 (by decide) (by decide) (by decide)) ?_
  refine xAll_c (xs_bipush C dX9_sizeBy_32 (by decide)) ?_
  refine xAll_c (xs_bipush C dX9_sizeBy_34 (by decide)) ?_
  refine xAll_c (xs_iload_n C dX9_sizeBy_36 rfl) ?_
  refine xAll_c (xs_imul C dX9_sizeBy_37) ?_
  refine xAll_c (xs_iadd C dX9_sizeBy_38) ?_
  refine xAll_c (xs_iret C dX9_sizeBy_39 rfl) ?_
  refine xAll_c (xs_aload_n C dX9_sizeBy_40 rfl) ?_
  refine xAll_c (xs_iload_n C dX9_sizeBy_41 rfl) ?_
  refine xAll_c (xs_iload_n C dX9_sizeBy_42 rfl) ?_
  refine xAll_c (xs_callSV C (m_X9_differentIn l g) dX9_sizeBy_43 rfl ⟨(by decide), (by decide), by decide +kernel⟩ wm1161 wm1162 wm10 wm1163 ⟨Nat.le_of_ble_eq_true rfl, Nat.le_of_ble_eq_true rfl⟩) ?_
  refine xAll_c (xs_istore C dX9_sizeBy_46) ?_
  refine xAll_c (xs_bipush C dX9_sizeBy_48 (by decide)) ?_
  refine xAll_c (xs_bipush C dX9_sizeBy_50 (by decide)) ?_
  refine xAll_c (xs_iload C dX9_sizeBy_52) ?_
  refine xAll_c (xs_imul C dX9_sizeBy_54) ?_
  refine xAll_c (xs_iadd C dX9_sizeBy_55) ?_
  refine xAll_c (xs_iload_n C dX9_sizeBy_56 rfl) ?_
  refine xAll_c (xs_iload C dX9_sizeBy_57) ?_
  refine xAll_c (xs_iconst C dX9_sizeBy_59 (by decide)) ?_
  refine xAll_c (xs_isub C dX9_sizeBy_60) ?_
  refine xAll_c (xs_callSV C (m_X9_width l g) dX9_sizeBy_61 rfl ⟨(by decide), (by decide), by decide +kernel⟩ wm1120 wm1121 wm10 wm1122 ⟨Nat.le_of_ble_eq_true rfl, Nat.le_of_ble_eq_true rfl⟩) ?_
  refine xAll_c (xs_imul C dX9_sizeBy_64) ?_
  refine xAll_c (xs_iadd C dX9_sizeBy_65) ?_
  refine xAll_c (xs_iret C dX9_sizeBy_66 rfl) ?_
  refine xAll_c (xs_bipush C dX9_sizeBy_67 (by decide)) ?_
  refine xAll_c (xs_bipush C dX9_sizeBy_69 (by decide)) ?_
  refine xAll_c (xs_aload_n C dX9_sizeBy_71 rfl) ?_
  refine xAll_c (xs_iload_n C dX9_sizeBy_72 rfl) ?_
  refine xAll_c (xs_iload_n C dX9_sizeBy_73 rfl) ?_
  refine xAll_c (xs_callSV C (m_X9_runsIn l g) dX9_sizeBy_74 rfl ⟨(by decide), (by decide), by decide +kernel⟩ wm1167 wm1168 wm10 wm1169 ⟨Nat.le_of_ble_eq_true rfl, Nat.le_of_ble_eq_true rfl⟩) ?_
  refine xAll_c (xs_imul C dX9_sizeBy_77) ?_
  refine xAll_c (xs_iadd C dX9_sizeBy_78) ?_
  refine xAll_c (xs_iret C dX9_sizeBy_79 rfl) ?_
  refine xAll_c (xs_bipush C dX9_sizeBy_80 (by decide)) ?_
  refine xAll_c (xs_iload_n C dX9_sizeBy_82 rfl) ?_
  refine xAll_c (xs_aload_n C dX9_sizeBy_83 rfl) ?_
  refine xAll_c (xs_iload_n C dX9_sizeBy_84 rfl) ?_
  refine xAll_c (xs_iload_n C dX9_sizeBy_85 rfl) ?_
  refine xAll_c (xs_callSV C (m_X9_greatestIn l g) dX9_sizeBy_86 rfl ⟨(by decide), (by decide), by decide +kernel⟩ wm1170 wm1171 wm10 wm1172 ⟨Nat.le_of_ble_eq_true rfl, Nat.le_of_ble_eq_true rfl⟩) ?_
  refine xAll_c (xs_aload_n C dX9_sizeBy_89 rfl) ?_
  refine xAll_c (xs_iload_n C dX9_sizeBy_90 rfl) ?_
  refine xAll_c (xs_iload_n C dX9_sizeBy_91 rfl) ?_
  refine xAll_c (xs_callSV C (m_X9_smallestIn l g) dX9_sizeBy_92 rfl ⟨(by decide), (by decide), by decide +kernel⟩ wm1173 wm1174 wm10 wm1175 ⟨Nat.le_of_ble_eq_true rfl, Nat.le_of_ble_eq_true rfl⟩) ?_
  refine xAll_c (xs_isub C dX9_sizeBy_95) ?_
  refine xAll_c (xs_callSV C (m_X9_width l g) dX9_sizeBy_96 rfl ⟨(by decide), (by decide), by decide +kernel⟩ wm1120 wm1121 wm10 wm1122 ⟨Nat.le_of_ble_eq_true rfl, Nat.le_of_ble_eq_true rfl⟩) ?_
  refine xAll_c (xs_imul C dX9_sizeBy_99) ?_
  refine xAll_c (xs_iadd C dX9_sizeBy_100) ?_
  refine xAll_c (xs_iret C dX9_sizeBy_101 rfl) ?_
  refine xAll_c (xs_bipush C dX9_sizeBy_102 (by decide)) ?_
  refine xAll_c (xs_iload_n C dX9_sizeBy_104 rfl) ?_
  refine xAll_c (xs_iconst C dX9_sizeBy_105 (by decide)) ?_
  refine xAll_c (xs_isub C dX9_sizeBy_106) ?_
  refine xAll_c (xs_aload_n C dX9_sizeBy_107 rfl) ?_
  refine xAll_c (xs_iload_n C dX9_sizeBy_108 rfl) ?_
  refine xAll_c (xs_iload_n C dX9_sizeBy_109 rfl) ?_
  refine xAll_c (xs_callSV C (m_X9_stepWidth l g) dX9_sizeBy_110 rfl ⟨(by decide), (by decide), by decide +kernel⟩ wm1176 wm1177 wm10 wm1178 ⟨Nat.le_of_ble_eq_true rfl, Nat.le_of_ble_eq_true rfl⟩) ?_
  refine xAll_c (xs_imul C dX9_sizeBy_113) ?_
  refine xAll_c (xs_iadd C dX9_sizeBy_114) ?_
  refine xAll_c (xs_iret C dX9_sizeBy_115 rfl) ?_
  exact trivial
noncomputable def k_X9_bestCoding : xCode := [(0, oConst (nI 0) 1), (1, oIstore 3 5 2), (2, oConst (nI 1) 3), (3, oIstore 4 5 5), (5, oIload 4 7), (7, oConst (nI 5) 8), (8, oIf2 (fun x y => decide (y ≤ x)) 42 11), (11, oAload 0 12), (12, oIload 1 13), (13, oIload 2 14), (14, oIload 4 16), (16, oCallSV 4 f_X9_sizeBy 19), (19, oAload 0 20), (20, oIload 1 21), (21, oIload 2 22), (22, oIload 3 23), (23, oCallSV 4 f_X9_sizeBy 26), (26, oIf2 (fun x y => decide (y ≤ x)) 34 29), (29, oIload 4 31), (31, oGoto 35), (34, oIload 3 35), (35, oIstore 3 5 36), (36, oIinc 4 (nI 1) 5 39), (39, oGoto 5), (42, oIload 3 43), (43, oIret)]
noncomputable def f_X9_bestCoding : xRun := xrun k_X9_bestCoding 5
set_option maxHeartbeats 4000000 in
set_option maxRecDepth 100000 in
theorem m_X9_bestCoding (l : Launch) (g : xG) : xMet l g yX9_bestCoding cX9_bestCoding 5 (some .int) 3 71 f_X9_bestCoding := by
  refine xmet_of (own := RX9) (by decide +kernel) rfl (fun p e s m args below meth c r0 C => ?_)
  refine xAll_c (xs_iconst C dX9_bestCoding_0 (by decide)) ?_
  refine xAll_c (xs_istore_n C dX9_bestCoding_1 rfl) ?_
  refine xAll_c (xs_iconst C dX9_bestCoding_2 (by decide)) ?_
  refine xAll_c (xs_istore C dX9_bestCoding_3) ?_
  refine xAll_c (xs_iload C dX9_bestCoding_5) ?_
  refine xAll_c (xs_iconst C dX9_bestCoding_7 (by decide)) ?_
  refine xAll_c (xs_icmp_ge C dX9_bestCoding_8 (by decide)) ?_
  refine xAll_c (xs_aload_n C dX9_bestCoding_11 rfl) ?_
  refine xAll_c (xs_iload_n C dX9_bestCoding_12 rfl) ?_
  refine xAll_c (xs_iload_n C dX9_bestCoding_13 rfl) ?_
  refine xAll_c (xs_iload C dX9_bestCoding_14) ?_
  refine xAll_c (xs_callSV C (m_X9_sizeBy l g) dX9_bestCoding_16 rfl ⟨(by decide), (by decide), by decide +kernel⟩ wm1158 wm1159 wm10 wm1160 ⟨Nat.le_of_ble_eq_true rfl, Nat.le_of_ble_eq_true rfl⟩) ?_
  refine xAll_c (xs_aload_n C dX9_bestCoding_19 rfl) ?_
  refine xAll_c (xs_iload_n C dX9_bestCoding_20 rfl) ?_
  refine xAll_c (xs_iload_n C dX9_bestCoding_21 rfl) ?_
  refine xAll_c (xs_iload_n C dX9_bestCoding_22 rfl) ?_
  refine xAll_c (xs_callSV C (m_X9_sizeBy l g) dX9_bestCoding_23 rfl ⟨(by decide), (by decide), by decide +kernel⟩ wm1158 wm1159 wm10 wm1160 ⟨Nat.le_of_ble_eq_true rfl, Nat.le_of_ble_eq_true rfl⟩) ?_
  refine xAll_c (xs_icmp_ge C dX9_bestCoding_26 (by decide)) ?_
  refine xAll_c (xs_iload C dX9_bestCoding_29) ?_
  refine xAll_c (xs_goto C dX9_bestCoding_31 (by decide)) ?_
  refine xAll_c (xs_iload_n C dX9_bestCoding_34 rfl) ?_
  refine xAll_c (xs_istore_n C dX9_bestCoding_35 rfl) ?_
  refine xAll_c (xs_iinc C dX9_bestCoding_36 rfl) ?_
  refine xAll_c (xs_goto C dX9_bestCoding_39 (by decide)) ?_
  refine xAll_c (xs_iload_n C dX9_bestCoding_42 rfl) ?_
  refine xAll_c (xs_iret C dX9_bestCoding_43 rfl) ?_
  exact trivial
noncomputable def k_X9_pinnedSize : xCode := [(0, oAload 0 1), (1, oIload 1 2), (2, oIload 2 3), (3, oIload 3 4), (4, oIf1 (fun x => !(decide (x = 0))) 16 7), (7, oAload 0 8), (8, oIload 1 9), (9, oIload 2 10), (10, oCallSV 3 f_X9_bestCoding 13), (13, oGoto 19), (16, oIload 3 17), (17, oConst (nI 1) 18), (18, oBin (fun x y => x - y) 19), (19, oCallSV 4 f_X9_sizeBy 22), (22, oIret)]
noncomputable def f_X9_pinnedSize : xRun := xrun k_X9_pinnedSize 4
set_option maxHeartbeats 4000000 in
set_option maxRecDepth 100000 in
theorem m_X9_pinnedSize (l : Launch) (g : xG) : xMet l g yX9_pinnedSize cX9_pinnedSize 4 (some .int) 4 95 f_X9_pinnedSize := by
  refine xmet_of (own := RX9) (by decide +kernel) rfl (fun p e s m args below meth c r0 C => ?_)
  refine xAll_c (xs_aload_n C dX9_pinnedSize_0 rfl) ?_
  refine xAll_c (xs_iload_n C dX9_pinnedSize_1 rfl) ?_
  refine xAll_c (xs_iload_n C dX9_pinnedSize_2 rfl) ?_
  refine xAll_c (xs_iload_n C dX9_pinnedSize_3 rfl) ?_
  refine xAll_c (xs_if_ne C dX9_pinnedSize_4 (by decide)) ?_
  refine xAll_c (xs_aload_n C dX9_pinnedSize_7 rfl) ?_
  refine xAll_c (xs_iload_n C dX9_pinnedSize_8 rfl) ?_
  refine xAll_c (xs_iload_n C dX9_pinnedSize_9 rfl) ?_
  refine xAll_c (xs_callSV C (m_X9_bestCoding l g) dX9_pinnedSize_10 rfl ⟨(by decide), (by decide), by decide +kernel⟩ wm1155 wm1156 wm10 wm1157 ⟨Nat.le_of_ble_eq_true rfl, Nat.le_of_ble_eq_true rfl⟩) ?_
  refine xAll_c (xs_goto C dX9_pinnedSize_13 (by decide)) ?_
  refine xAll_c (xs_iload_n C dX9_pinnedSize_16 rfl) ?_
  refine xAll_c (xs_iconst C dX9_pinnedSize_17 (by decide)) ?_
  refine xAll_c (xs_isub C dX9_pinnedSize_18) ?_
  refine xAll_c (xs_callSV C (m_X9_sizeBy l g) dX9_pinnedSize_19 rfl ⟨(by decide), (by decide), by decide +kernel⟩ wm1158 wm1159 wm10 wm1160 ⟨Nat.le_of_ble_eq_true rfl, Nat.le_of_ble_eq_true rfl⟩) ?_
  refine xAll_c (xs_iret C dX9_pinnedSize_22 rfl) ?_
  exact trivial
noncomputable def k_X9_codingOf : xCode := [(0, oAload 0 1), (1, oConst (nI 12) 3), (3, oIload 1 4), (4, oBin (fun x y => x + y) 5), (5, oIald 6), (6, oIf1 (fun x => !(decide (x = 0))) 29 9), (9, oAload 0 10), (10, oConst (nI 22) 12), (12, oAload 0 13), (13, oIload 1 14), (14, oCallSV 2 f_X9_firstOf 17), (17, oBin (fun x y => x + y) 18), (18, oAload 0 19), (19, oConst (nI 2) 20), (20, oIload 1 21), (21, oBin (fun x y => x + y) 22), (22, oIald 23), (23, oCallSV 3 f_X9_bestCoding 26), (26, oGoto 37), (29, oAload 0 30), (30, oConst (nI 12) 32), (32, oIload 1 33), (33, oBin (fun x y => x + y) 34), (34, oIald 35), (35, oConst (nI 1) 36), (36, oBin (fun x y => x - y) 37), (37, oIret)]
noncomputable def f_X9_codingOf : xRun := xrun k_X9_codingOf 2
set_option maxHeartbeats 4000000 in
set_option maxRecDepth 100000 in
theorem m_X9_codingOf (l : Launch) (g : xG) : xMet l g yX9_codingOf cX9_codingOf 2 (some .int) 4 95 f_X9_codingOf := by
  refine xmet_of (own := RX9) (by decide +kernel) rfl (fun p e s m args below meth c r0 C => ?_)
  refine xAll_c (xs_aload_n C dX9_codingOf_0 rfl) ?_
  refine xAll_c (xs_bipush C dX9_codingOf_1 (by decide)) ?_
  refine xAll_c (xs_iload_n C dX9_codingOf_3 rfl) ?_
  refine xAll_c (xs_iadd C dX9_codingOf_4) ?_
  refine xAll_c (xs_iald C dX9_codingOf_5) ?_
  refine xAll_c (xs_if_ne C dX9_codingOf_6 (by decide)) ?_
  refine xAll_c (xs_aload_n C dX9_codingOf_9 rfl) ?_
  refine xAll_c (xs_bipush C dX9_codingOf_10 (by decide)) ?_
  refine xAll_c (xs_aload_n C dX9_codingOf_12 rfl) ?_
  refine xAll_c (xs_iload_n C dX9_codingOf_13 rfl) ?_
  refine xAll_c (xs_callSV C (m_X9_firstOf l g) dX9_codingOf_14 rfl ⟨(by decide), (by decide), by decide +kernel⟩ wm1143 wm1144 wm10 wm1145 ⟨Nat.le_of_ble_eq_true rfl, Nat.le_of_ble_eq_true rfl⟩) ?_
  refine xAll_c (xs_iadd C dX9_codingOf_17) ?_
  refine xAll_c (xs_aload_n C dX9_codingOf_18 rfl) ?_
  refine xAll_c (xs_iconst C dX9_codingOf_19 (by decide)) ?_
  refine xAll_c (xs_iload_n C dX9_codingOf_20 rfl) ?_
  refine xAll_c (xs_iadd C dX9_codingOf_21) ?_
  refine xAll_c (xs_iald C dX9_codingOf_22) ?_
  refine xAll_c (xs_callSV C (m_X9_bestCoding l g) dX9_codingOf_23 rfl ⟨(by decide), (by decide), by decide +kernel⟩ wm1155 wm1156 wm10 wm1157 ⟨Nat.le_of_ble_eq_true rfl, Nat.le_of_ble_eq_true rfl⟩) ?_
  refine xAll_c (xs_goto C dX9_codingOf_26 (by decide)) ?_
  refine xAll_c (xs_aload_n C dX9_codingOf_29 rfl) ?_
  refine xAll_c (xs_bipush C dX9_codingOf_30 (by decide)) ?_
  refine xAll_c (xs_iload_n C dX9_codingOf_32 rfl) ?_
  refine xAll_c (xs_iadd C dX9_codingOf_33) ?_
  refine xAll_c (xs_iald C dX9_codingOf_34) ?_
  refine xAll_c (xs_iconst C dX9_codingOf_35 (by decide)) ?_
  refine xAll_c (xs_isub C dX9_codingOf_36) ?_
  refine xAll_c (xs_iret C dX9_codingOf_37 rfl) ?_
  exact trivial
noncomputable def k_X9_sizeOfPage : xCode := [(0, oAload 0 1), (1, oConst (nI 22) 3), (3, oAload 0 4), (4, oIload 1 5), (5, oCallSV 2 f_X9_firstOf 8), (8, oBin (fun x y => x + y) 9), (9, oAload 0 10), (10, oConst (nI 2) 11), (11, oIload 1 12), (12, oBin (fun x y => x + y) 13), (13, oIald 14), (14, oAload 0 15), (15, oConst (nI 12) 17), (17, oIload 1 18), (18, oBin (fun x y => x + y) 19), (19, oIald 20), (20, oCallSV 4 f_X9_pinnedSize 23), (23, oIret)]
noncomputable def f_X9_sizeOfPage : xRun := xrun k_X9_sizeOfPage 2
set_option maxHeartbeats 4000000 in
set_option maxRecDepth 100000 in
theorem m_X9_sizeOfPage (l : Launch) (g : xG) : xMet l g yX9_sizeOfPage cX9_sizeOfPage 2 (some .int) 5 118 f_X9_sizeOfPage := by
  refine xmet_of (own := RX9) (by decide +kernel) rfl (fun p e s m args below meth c r0 C => ?_)
  refine xAll_c (xs_aload_n C dX9_sizeOfPage_0 rfl) ?_
  refine xAll_c (xs_bipush C dX9_sizeOfPage_1 (by decide)) ?_
  refine xAll_c (xs_aload_n C dX9_sizeOfPage_3 rfl) ?_
  refine xAll_c (xs_iload_n C dX9_sizeOfPage_4 rfl) ?_
  refine xAll_c (xs_callSV C (m_X9_firstOf l g) dX9_sizeOfPage_5 rfl ⟨(by decide), (by decide), by decide +kernel⟩ wm1143 wm1144 wm10 wm1145 ⟨Nat.le_of_ble_eq_true rfl, Nat.le_of_ble_eq_true rfl⟩) ?_
  refine xAll_c (xs_iadd C dX9_sizeOfPage_8) ?_
  refine xAll_c (xs_aload_n C dX9_sizeOfPage_9 rfl) ?_
  refine xAll_c (xs_iconst C dX9_sizeOfPage_10 (by decide)) ?_
  refine xAll_c (xs_iload_n C dX9_sizeOfPage_11 rfl) ?_
  refine xAll_c (xs_iadd C dX9_sizeOfPage_12) ?_
  refine xAll_c (xs_iald C dX9_sizeOfPage_13) ?_
  refine xAll_c (xs_aload_n C dX9_sizeOfPage_14 rfl) ?_
  refine xAll_c (xs_bipush C dX9_sizeOfPage_15 (by decide)) ?_
  refine xAll_c (xs_iload_n C dX9_sizeOfPage_17 rfl) ?_
  refine xAll_c (xs_iadd C dX9_sizeOfPage_18) ?_
  refine xAll_c (xs_iald C dX9_sizeOfPage_19) ?_
  refine xAll_c (xs_callSV C (m_X9_pinnedSize l g) dX9_sizeOfPage_20 rfl ⟨(by decide), (by decide), by decide +kernel⟩ wm1152 wm1153 wm10 wm1154 ⟨Nat.le_of_ble_eq_true rfl, Nat.le_of_ble_eq_true rfl⟩) ?_
  refine xAll_c (xs_iret C dX9_sizeOfPage_23 rfl) ?_
  exact trivial
noncomputable def k_X9_sizeOfAll : xCode := [(0, oConst (nI 0) 1), (1, oIstore 1 3 2), (2, oConst (nI 0) 3), (3, oIstore 2 3 4), (4, oIload 2 5), (5, oAload 0 6), (6, oConst (nI 0) 7), (7, oIald 8), (8, oIf2 (fun x y => decide (y ≤ x)) 25 11), (11, oIload 1 12), (12, oAload 0 13), (13, oIload 2 14), (14, oCallSV 2 f_X9_sizeOfPage 17), (17, oBin (fun x y => x + y) 18), (18, oIstore 1 3 19), (19, oIinc 2 (nI 1) 3 22), (22, oGoto 4), (25, oIload 1 26), (26, oIret)]
noncomputable def f_X9_sizeOfAll : xRun := xrun k_X9_sizeOfAll 3
set_option maxHeartbeats 4000000 in
set_option maxRecDepth 100000 in
theorem m_X9_sizeOfAll (l : Launch) (g : xG) : xMet l g yX9_sizeOfAll cX9_sizeOfAll 3 (some .int) 6 139 f_X9_sizeOfAll := by
  refine xmet_of (own := RX9) (by decide +kernel) rfl (fun p e s m args below meth c r0 C => ?_)
  refine xAll_c (xs_iconst C dX9_sizeOfAll_0 (by decide)) ?_
  refine xAll_c (xs_istore_n C dX9_sizeOfAll_1 rfl) ?_
  refine xAll_c (xs_iconst C dX9_sizeOfAll_2 (by decide)) ?_
  refine xAll_c (xs_istore_n C dX9_sizeOfAll_3 rfl) ?_
  refine xAll_c (xs_iload_n C dX9_sizeOfAll_4 rfl) ?_
  refine xAll_c (xs_aload_n C dX9_sizeOfAll_5 rfl) ?_
  refine xAll_c (xs_iconst C dX9_sizeOfAll_6 (by decide)) ?_
  refine xAll_c (xs_iald C dX9_sizeOfAll_7) ?_
  refine xAll_c (xs_icmp_ge C dX9_sizeOfAll_8 (by decide)) ?_
  refine xAll_c (xs_iload_n C dX9_sizeOfAll_11 rfl) ?_
  refine xAll_c (xs_aload_n C dX9_sizeOfAll_12 rfl) ?_
  refine xAll_c (xs_iload_n C dX9_sizeOfAll_13 rfl) ?_
  refine xAll_c (xs_callSV C (m_X9_sizeOfPage l g) dX9_sizeOfAll_14 rfl ⟨(by decide), (by decide), by decide +kernel⟩ wm1149 wm1150 wm10 wm1151 ⟨Nat.le_of_ble_eq_true rfl, Nat.le_of_ble_eq_true rfl⟩) ?_
  refine xAll_c (xs_iadd C dX9_sizeOfAll_17) ?_
  refine xAll_c (xs_istore_n C dX9_sizeOfAll_18 rfl) ?_
  refine xAll_c (xs_iinc C dX9_sizeOfAll_19 rfl) ?_
  refine xAll_c (xs_goto C dX9_sizeOfAll_22 (by decide)) ?_
  refine xAll_c (xs_iload_n C dX9_sizeOfAll_25 rfl) ?_
  refine xAll_c (xs_iret C dX9_sizeOfAll_26 rfl) ?_
  exact trivial
noncomputable def k_X9_write : xCode := [(0, oIload 2 1), (1, oConst (nI 1) 2), (2, oBin (fun x y => x - y) 3), (3, oIstore 3 4 4), (4, oIload 3 5), (5, oIf1 (fun x => decide (x < 0)) 38 8), (8, oAload 0 9), (9, oGetR 9 11 12), (12, oAload 0 13), (13, oGetI 9 12 16), (16, oIload 1 17), (17, oIload 3 18), (18, oBin (fun x y => x >>> (y &&& 31)) 19), (19, oConst (nI 1) 20), (20, oBin (fun x y => x &&& y) 21), (21, oIast 22), (22, oAload 0 23), (23, oDup 24), (24, oGetI 9 12 27), (27, oConst (nI 1) 28), (28, oBin (fun x y => x + y) 29), (29, oPutI 9 12 32), (32, oIinc 3 (-1) 4 35), (35, oGoto 4), (38, oVret)]
noncomputable def f_X9_write : xRun := xrun k_X9_write 4
set_option maxHeartbeats 4000000 in
set_option maxRecDepth 100000 in
theorem m_X9_write (l : Launch) (g : xG) : xMet l g yX9_write cX9_write 4 none 0 0 f_X9_write := by
  refine xmet_of (own := RX9) (by decide +kernel) rfl (fun p e s m args below meth c r0 C => ?_)
  refine xAll_c (xs_iload_n C dX9_write_0 rfl) ?_
  refine xAll_c (xs_iconst C dX9_write_1 (by decide)) ?_
  refine xAll_c (xs_isub C dX9_write_2) ?_
  refine xAll_c (xs_istore_n C dX9_write_3 rfl) ?_
  refine xAll_c (xs_iload_n C dX9_write_4 rfl) ?_
  refine xAll_c (xs_if_lt C dX9_write_5 (by decide)) ?_
  refine xAll_c (xs_aload_n C dX9_write_8 rfl) ?_
  refine xAll_c (xs_getR C dX9_write_9 (rfl : vwCl[9]? = some (RX9, TX9, 17)) win9 rfl (by decide) (by decide) rfl wm1028) ?_
  refine xAll_c (xs_aload_n C dX9_write_12 rfl) ?_
  refine xAll_c (xs_getI C dX9_write_13 (rfl : vwCl[9]? = some (RX9, TX9, 17)) win9 rfl (by decide) (by decide) rfl wm1029) ?_
  refine xAll_c (xs_iload_n C dX9_write_16 rfl) ?_
  refine xAll_c (xs_iload_n C dX9_write_17 rfl) ?_
  refine xAll_c (xs_ishr C dX9_write_18) ?_
  refine xAll_c (xs_iconst C dX9_write_19 (by decide)) ?_
  refine xAll_c (xs_iand C dX9_write_20) ?_
  refine xAll_c (xs_iast C dX9_write_21) ?_
  refine xAll_c (xs_aload_n C dX9_write_22 rfl) ?_
  refine xAll_c (xs_dup C dX9_write_23) ?_
  refine xAll_c (xs_getI C dX9_write_24 (rfl : vwCl[9]? = some (RX9, TX9, 17)) win9 rfl (by decide) (by decide) rfl wm1029) ?_
  refine xAll_c (xs_iconst C dX9_write_27 (by decide)) ?_
  refine xAll_c (xs_iadd C dX9_write_28) ?_
  refine xAll_c (xs_putI C dX9_write_29 (rfl : vwCl[9]? = some (RX9, TX9, 17)) win9 tyX9_ok nmX9 rfl (by decide) (by decide) rfl rfl (by decide) wm1029) ?_
  refine xAll_c (xs_iinc C dX9_write_32 rfl) ?_
  refine xAll_c (xs_goto C dX9_write_35 (by decide)) ?_
  refine xAll_c (xs_vret C dX9_write_38 rfl) ?_
  exact trivial
noncomputable def k_X9_writeRuns : xCode := [(0, oIload 1 1), (1, oIstore 3 5 2), (2, oIload 3 3), (3, oIload 1 4), (4, oIload 2 5), (5, oBin (fun x y => x + y) 6), (6, oIf2 (fun x y => decide (y ≤ x)) 73 9), (9, oConst (nI 1) 10), (10, oIstore 4 5 12), (12, oIload 3 13), (13, oIload 4 15), (15, oBin (fun x y => x + y) 16), (16, oIload 1 17), (17, oIload 2 18), (18, oBin (fun x y => x + y) 19), (19, oIf2 (fun x y => decide (y ≤ x)) 46 22), (22, oAload 0 23), (23, oGetR 9 4 26), (26, oIload 3 27), (27, oIload 4 29), (29, oBin (fun x y => x + y) 30), (30, oIald 31), (31, oAload 0 32), (32, oGetR 9 4 35), (35, oIload 3 36), (36, oIald 37), (37, oIf2 (fun x y => !(decide (x = y))) 46 40), (40, oIinc 4 (nI 1) 5 43), (43, oGoto 12), (46, oAload 0 47), (47, oAload 0 48), (48, oGetR 9 4 51), (51, oIload 3 52), (52, oIald 53), (53, oConst (nI 10) 55), (55, oCallU 9 2 f_X9_write 58), (58, oAload 0 59), (59, oIload 4 61), (61, oConst (nI 4) 62), (62, oCallU 9 2 f_X9_write 65), (65, oIload 3 66), (66, oIload 4 68), (68, oBin (fun x y => x + y) 69), (69, oIstore 3 5 70), (70, oGoto 2), (73, oVret)]
noncomputable def f_X9_writeRuns : xRun := xrun k_X9_writeRuns 5
set_option maxHeartbeats 4000000 in
set_option maxRecDepth 100000 in
theorem m_X9_writeRuns (l : Launch) (g : xG) : xMet l g yX9_writeRuns cX9_writeRuns 5 none 1 23 f_X9_writeRuns := by
  refine xmet_of (own := RX9) (by decide +kernel) rfl (fun p e s m args below meth c r0 C => ?_)
  refine xAll_c (xs_iload_n C dX9_writeRuns_0 rfl) ?_
  refine xAll_c (xs_istore_n C dX9_writeRuns_1 rfl) ?_
  refine xAll_c (xs_iload_n C dX9_writeRuns_2 rfl) ?_
  refine xAll_c (xs_iload_n C dX9_writeRuns_3 rfl) ?_
  refine xAll_c (xs_iload_n C dX9_writeRuns_4 rfl) ?_
  refine xAll_c (xs_iadd C dX9_writeRuns_5) ?_
  refine xAll_c (xs_icmp_ge C dX9_writeRuns_6 (by decide)) ?_
  refine xAll_c (xs_iconst C dX9_writeRuns_9 (by decide)) ?_
  refine xAll_c (xs_istore C dX9_writeRuns_10) ?_
  refine xAll_c (xs_iload_n C dX9_writeRuns_12 rfl) ?_
  refine xAll_c (xs_iload C dX9_writeRuns_13) ?_
  refine xAll_c (xs_iadd C dX9_writeRuns_15) ?_
  refine xAll_c (xs_iload_n C dX9_writeRuns_16 rfl) ?_
  refine xAll_c (xs_iload_n C dX9_writeRuns_17 rfl) ?_
  refine xAll_c (xs_iadd C dX9_writeRuns_18) ?_
  refine xAll_c (xs_icmp_ge C dX9_writeRuns_19 (by decide)) ?_
  refine xAll_c (xs_aload_n C dX9_writeRuns_22 rfl) ?_
  refine xAll_c (xs_getR C dX9_writeRuns_23 (rfl : vwCl[9]? = some (RX9, TX9, 17)) win9 rfl (by decide) (by decide) rfl wm1021) ?_
  refine xAll_c (xs_iload_n C dX9_writeRuns_26 rfl) ?_
  refine xAll_c (xs_iload C dX9_writeRuns_27) ?_
  refine xAll_c (xs_iadd C dX9_writeRuns_29) ?_
  refine xAll_c (xs_iald C dX9_writeRuns_30) ?_
  refine xAll_c (xs_aload_n C dX9_writeRuns_31 rfl) ?_
  refine xAll_c (xs_getR C dX9_writeRuns_32 (rfl : vwCl[9]? = some (RX9, TX9, 17)) win9 rfl (by decide) (by decide) rfl wm1021) ?_
  refine xAll_c (xs_iload_n C dX9_writeRuns_35 rfl) ?_
  refine xAll_c (xs_iald C dX9_writeRuns_36) ?_
  refine xAll_c (xs_icmp_ne C dX9_writeRuns_37 (by decide)) ?_
  refine xAll_c (xs_iinc C dX9_writeRuns_40 rfl) ?_
  refine xAll_c (xs_goto C dX9_writeRuns_43 (by decide)) ?_
  refine xAll_c (xs_aload_n C dX9_writeRuns_46 rfl) ?_
  refine xAll_c (xs_aload_n C dX9_writeRuns_47 rfl) ?_
  refine xAll_c (xs_getR C dX9_writeRuns_48 (rfl : vwCl[9]? = some (RX9, TX9, 17)) win9 rfl (by decide) (by decide) rfl wm1021) ?_
  refine xAll_c (xs_iload_n C dX9_writeRuns_51 rfl) ?_
  refine xAll_c (xs_iald C dX9_writeRuns_52) ?_
  refine xAll_c (xs_bipush C dX9_writeRuns_53 (by decide)) ?_
  refine xAll_c (xs_callU C (m_X9_write l g) dX9_writeRuns_55 (rfl : vwCl[9]? = some (RX9, TX9, 17)) (by decide) rfl ⟨(by decide), (by decide), by decide +kernel⟩ wm1204 wm1206 wp41 wm10 wm1207 ⟨Nat.le_of_ble_eq_true rfl, Nat.le_of_ble_eq_true rfl⟩) ?_
  refine xAll_c (xs_aload_n C dX9_writeRuns_58 rfl) ?_
  refine xAll_c (xs_iload C dX9_writeRuns_59) ?_
  refine xAll_c (xs_iconst C dX9_writeRuns_61 (by decide)) ?_
  refine xAll_c (xs_callU C (m_X9_write l g) dX9_writeRuns_62 (rfl : vwCl[9]? = some (RX9, TX9, 17)) (by decide) rfl ⟨(by decide), (by decide), by decide +kernel⟩ wm1204 wm1206 wp41 wm10 wm1207 ⟨Nat.le_of_ble_eq_true rfl, Nat.le_of_ble_eq_true rfl⟩) ?_
  refine xAll_c (xs_iload_n C dX9_writeRuns_65 rfl) ?_
  refine xAll_c (xs_iload C dX9_writeRuns_66) ?_
  refine xAll_c (xs_iadd C dX9_writeRuns_68) ?_
  refine xAll_c (xs_istore_n C dX9_writeRuns_69 rfl) ?_
  refine xAll_c (xs_goto C dX9_writeRuns_70 (by decide)) ?_
  refine xAll_c (xs_vret C dX9_writeRuns_73 rfl) ?_
  exact trivial
noncomputable def k_X9_writeWords : xCode := [(0, oAload 0 1), (1, oGetR 9 4 4), (4, oIload 1 5), (5, oIload 2 6), (6, oCallSV 3 f_X9_differentIn 9), (9, oIstore 3 5 10), (10, oAload 0 11), (11, oIload 3 12), (12, oConst (nI 4) 13), (13, oCallU 9 2 f_X9_write 16), (16, oIload 1 17), (17, oIstore 4 5 19), (19, oIload 4 21), (21, oIload 1 22), (22, oIload 2 23), (23, oBin (fun x y => x + y) 24), (24, oIf2 (fun x y => decide (y ≤ x)) 59 27), (27, oAload 0 28), (28, oGetR 9 4 31), (31, oIload 1 32), (32, oIload 4 34), (34, oCallSV 3 f_X9_isNew 37), (37, oIf1 (fun x => decide (x = 0)) 53 40), (40, oAload 0 41), (41, oAload 0 42), (42, oGetR 9 4 45), (45, oIload 4 47), (47, oIald 48), (48, oConst (nI 10) 50), (50, oCallU 9 2 f_X9_write 53), (53, oIinc 4 (nI 1) 5 56), (56, oGoto 19), (59, oIload 1 60), (60, oIstore 4 5 62), (62, oIload 4 64), (64, oIload 1 65), (65, oIload 2 66), (66, oBin (fun x y => x + y) 67), (67, oIf2 (fun x y => decide (y ≤ x)) 102 70), (70, oAload 0 71), (71, oAload 0 72), (72, oGetR 9 4 75), (75, oIload 1 76), (76, oIload 2 77), (77, oAload 0 78), (78, oGetR 9 4 81), (81, oIload 4 83), (83, oIald 84), (84, oCallSV 4 f_X9_wordOf 87), (87, oIload 3 88), (88, oConst (nI 1) 89), (89, oBin (fun x y => x - y) 90), (90, oCallSV 1 f_X9_width 93), (93, oCallU 9 2 f_X9_write 96), (96, oIinc 4 (nI 1) 5 99), (99, oGoto 62), (102, oVret)]
noncomputable def f_X9_writeWords : xRun := xrun k_X9_writeWords 5
set_option maxHeartbeats 4000000 in
set_option maxRecDepth 100000 in
theorem m_X9_writeWords (l : Launch) (g : xG) : xMet l g yX9_writeWords cX9_writeWords 5 none 2 48 f_X9_writeWords := by
  refine xmet_of (own := RX9) (by decide +kernel) rfl (fun p e s m args below meth c r0 C => ?_)
  refine xAll_c (xs_aload_n C dX9_writeWords_0 rfl) ?_
  refine xAll_c (xs_getR C dX9_writeWords_1 (rfl : vwCl[9]? = some (RX9, TX9, 17)) win9 rfl (by decide) (by decide) rfl wm1021) ?_
  refine xAll_c (xs_iload_n C dX9_writeWords_4 rfl) ?_
  refine xAll_c (xs_iload_n C dX9_writeWords_5 rfl) ?_
  refine xAll_c (xs_callSV C (m_X9_differentIn l g) dX9_writeWords_6 rfl ⟨(by decide), (by decide), by decide +kernel⟩ wm1161 wm1162 wm10 wm1163 ⟨Nat.le_of_ble_eq_true rfl, Nat.le_of_ble_eq_true rfl⟩) ?_
  refine xAll_c (xs_istore_n C dX9_writeWords_9 rfl) ?_
  refine xAll_c (xs_aload_n C dX9_writeWords_10 rfl) ?_
  refine xAll_c (xs_iload_n C dX9_writeWords_11 rfl) ?_
  refine xAll_c (xs_iconst C dX9_writeWords_12 (by decide)) ?_
  refine xAll_c (xs_callU C (m_X9_write l g) dX9_writeWords_13 (rfl : vwCl[9]? = some (RX9, TX9, 17)) (by decide) rfl ⟨(by decide), (by decide), by decide +kernel⟩ wm1204 wm1206 wp41 wm10 wm1207 ⟨Nat.le_of_ble_eq_true rfl, Nat.le_of_ble_eq_true rfl⟩) ?_
  refine xAll_c (xs_iload_n C dX9_writeWords_16 rfl) ?_
  refine xAll_c (xs_istore C dX9_writeWords_17) ?_
  refine xAll_c (xs_iload C dX9_writeWords_19) ?_
  refine xAll_c (xs_iload_n C dX9_writeWords_21 rfl) ?_
  refine xAll_c (xs_iload_n C dX9_writeWords_22 rfl) ?_
  refine xAll_c (xs_iadd C dX9_writeWords_23) ?_
  refine xAll_c (xs_icmp_ge C dX9_writeWords_24 (by decide)) ?_
  refine xAll_c (xs_aload_n C dX9_writeWords_27 rfl) ?_
  refine xAll_c (xs_getR C dX9_writeWords_28 (rfl : vwCl[9]? = some (RX9, TX9, 17)) win9 rfl (by decide) (by decide) rfl wm1021) ?_
  refine xAll_c (xs_iload_n C dX9_writeWords_31 rfl) ?_
  refine xAll_c (xs_iload C dX9_writeWords_32) ?_
  refine xAll_c (xs_callSV C (m_X9_isNew l g) dX9_writeWords_34 rfl ⟨(by decide), (by decide), by decide +kernel⟩ wm1164 wm1165 wm10 wm1166 ⟨Nat.le_of_ble_eq_true rfl, Nat.le_of_ble_eq_true rfl⟩) ?_
  refine xAll_c (xs_if_eq C dX9_writeWords_37 (by decide)) ?_
  refine xAll_c (xs_aload_n C dX9_writeWords_40 rfl) ?_
  refine xAll_c (xs_aload_n C dX9_writeWords_41 rfl) ?_
  refine xAll_c (xs_getR C dX9_writeWords_42 (rfl : vwCl[9]? = some (RX9, TX9, 17)) win9 rfl (by decide) (by decide) rfl wm1021) ?_
  refine xAll_c (xs_iload C dX9_writeWords_45) ?_
  refine xAll_c (xs_iald C dX9_writeWords_47) ?_
  refine xAll_c (xs_bipush C dX9_writeWords_48 (by decide)) ?_
  refine xAll_c (xs_callU C (m_X9_write l g) dX9_writeWords_50 (rfl : vwCl[9]? = some (RX9, TX9, 17)) (by decide) rfl ⟨(by decide), (by decide), by decide +kernel⟩ wm1204 wm1206 wp41 wm10 wm1207 ⟨Nat.le_of_ble_eq_true rfl, Nat.le_of_ble_eq_true rfl⟩) ?_
  refine xAll_c (xs_iinc C dX9_writeWords_53 rfl) ?_
  refine xAll_c (xs_goto C dX9_writeWords_56 (by decide)) ?_
  refine xAll_c (xs_iload_n C dX9_writeWords_59 rfl) ?_
  refine xAll_c (xs_istore C dX9_writeWords_60) ?_
  refine xAll_c (xs_iload C dX9_writeWords_62) ?_
  refine xAll_c (xs_iload_n C dX9_writeWords_64 rfl) ?_
  refine xAll_c (xs_iload_n C dX9_writeWords_65 rfl) ?_
  refine xAll_c (xs_iadd C dX9_writeWords_66) ?_
  refine xAll_c (xs_icmp_ge C dX9_writeWords_67 (by decide)) ?_
  refine xAll_c (xs_aload_n C dX9_writeWords_70 rfl) ?_
  refine xAll_c (xs_aload_n C dX9_writeWords_71 rfl) ?_
  refine xAll_c (xs_getR C dX9_writeWords_72 (rfl : vwCl[9]? = some (RX9, TX9, 17)) win9 rfl (by decide) (by decide) rfl wm1021) ?_
  refine xAll_c (xs_iload_n C dX9_writeWords_75 rfl) ?_
  refine xAll_c (xs_iload_n C dX9_writeWords_76 rfl) ?_
  refine xAll_c (xs_aload_n C dX9_writeWords_77 rfl) ?_
  refine xAll_c (xs_getR C dX9_writeWords_78 (rfl : vwCl[9]? = some (RX9, TX9, 17)) win9 rfl (by decide) (by decide) rfl wm1021) ?_
  refine xAll_c (xs_iload C dX9_writeWords_81) ?_
  refine xAll_c (xs_iald C dX9_writeWords_83) ?_
  refine xAll_c (xs_callSV C (m_X9_wordOf l g) dX9_writeWords_84 rfl ⟨(by decide), (by decide), by decide +kernel⟩ wm1212 wm1213 wm10 wm1214 ⟨Nat.le_of_ble_eq_true rfl, Nat.le_of_ble_eq_true rfl⟩) ?_
  refine xAll_c (xs_iload_n C dX9_writeWords_87 rfl) ?_
  refine xAll_c (xs_iconst C dX9_writeWords_88 (by decide)) ?_
  refine xAll_c (xs_isub C dX9_writeWords_89) ?_
  refine xAll_c (xs_callSV C (m_X9_width l g) dX9_writeWords_90 rfl ⟨(by decide), (by decide), by decide +kernel⟩ wm1120 wm1121 wm10 wm1122 ⟨Nat.le_of_ble_eq_true rfl, Nat.le_of_ble_eq_true rfl⟩) ?_
  refine xAll_c (xs_callU C (m_X9_write l g) dX9_writeWords_93 (rfl : vwCl[9]? = some (RX9, TX9, 17)) (by decide) rfl ⟨(by decide), (by decide), by decide +kernel⟩ wm1204 wm1206 wp41 wm10 wm1207 ⟨Nat.le_of_ble_eq_true rfl, Nat.le_of_ble_eq_true rfl⟩) ?_
  refine xAll_c (xs_iinc C dX9_writeWords_96 rfl) ?_
  refine xAll_c (xs_goto C dX9_writeWords_99 (by decide)) ?_
  refine xAll_c (xs_vret C dX9_writeWords_102 rfl) ?_
  exact trivial
