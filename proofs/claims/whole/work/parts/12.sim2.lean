noncomputable def k_X4_writeRuns : xCode := [(0, oIload 2 1), (1, oIstore 4 7 3), (3, oIload 2 4), (4, oIstore 5 7 6), (6, oIload 5 8), (8, oIload 2 9), (9, oIload 3 10), (10, oBin (fun x y => x + y) 11), (11, oIf2 (fun x y => decide (y ≤ x)) 77 14), (14, oAload 1 15), (15, oIload 5 17), (17, oCallV 0 1 f_X0_valueAt 20), (20, oIstore 6 7 22), (22, oIload 5 24), (24, oIload 2 25), (25, oIload 3 26), (26, oBin (fun x y => x + y) 27), (27, oConst (nI 1) 28), (28, oBin (fun x y => x - y) 29), (29, oIf2 (fun x y => decide (x = y)) 45 32), (32, oAload 1 33), (33, oIload 5 35), (35, oConst (nI 1) 36), (36, oBin (fun x y => x + y) 37), (37, oCallV 0 1 f_X0_valueAt 40), (40, oIload 6 42), (42, oIf2 (fun x y => decide (x = y)) 71 45), (45, oAload 0 46), (46, oIload 6 48), (48, oConst (nI 10) 50), (50, oCallU 4 2 f_X4_writeNumber 53), (53, oAload 0 54), (54, oIload 5 56), (56, oConst (nI 1) 57), (57, oBin (fun x y => x + y) 58), (58, oIload 4 60), (60, oBin (fun x y => x - y) 61), (61, oConst (nI 4) 62), (62, oCallU 4 2 f_X4_writeNumber 65), (65, oIload 5 67), (67, oConst (nI 1) 68), (68, oBin (fun x y => x + y) 69), (69, oIstore 4 7 71), (71, oIinc 5 (nI 1) 7 74), (74, oGoto 6), (77, oVret)]
noncomputable def f_X4_writeRuns : xRun := xrun k_X4_writeRuns 7
set_option maxHeartbeats 4000000 in
set_option maxRecDepth 100000 in
theorem m_X4_writeRuns (l : Launch) (g : xG) : xMet l g yX4_writeRuns cX4_writeRuns 7 none 2 45 f_X4_writeRuns := by
  refine xmet_of (own := RX4) (by decide +kernel) rfl (fun p e s m args below meth c r0 C => ?_)
  refine xAll_c (xs_iload_n C dX4_writeRuns_0 rfl) ?_
  refine xAll_c (xs_istore C dX4_writeRuns_1) ?_
  refine xAll_c (xs_iload_n C dX4_writeRuns_3 rfl) ?_
  refine xAll_c (xs_istore C dX4_writeRuns_4) ?_
  refine xAll_c (xs_iload C dX4_writeRuns_6) ?_
  refine xAll_c (xs_iload_n C dX4_writeRuns_8 rfl) ?_
  refine xAll_c (xs_iload_n C dX4_writeRuns_9 rfl) ?_
  refine xAll_c (xs_iadd C dX4_writeRuns_10) ?_
  refine xAll_c (xs_icmp_ge C dX4_writeRuns_11 (by decide)) ?_
  refine xAll_c (xs_aload_n C dX4_writeRuns_14 rfl) ?_
  refine xAll_c (xs_iload C dX4_writeRuns_15) ?_
  refine xAll_c (xs_callV C (m_X0_valueAt l g) dX4_writeRuns_17 (rfl : vwCl[0]? = some (RX0, TX0, 7)) (by decide) rfl ⟨(by decide), (by decide), by decide +kernel⟩ wm657 wm439 wm440 wm2 wm441 ⟨Nat.le_of_ble_eq_true rfl, Nat.le_of_ble_eq_true rfl⟩) ?_
  refine xAll_c (xs_istore C dX4_writeRuns_20) ?_
  refine xAll_c (xs_iload C dX4_writeRuns_22) ?_
  refine xAll_c (xs_iload_n C dX4_writeRuns_24 rfl) ?_
  refine xAll_c (xs_iload_n C dX4_writeRuns_25 rfl) ?_
  refine xAll_c (xs_iadd C dX4_writeRuns_26) ?_
  refine xAll_c (xs_iconst C dX4_writeRuns_27 (by decide)) ?_
  refine xAll_c (xs_isub C dX4_writeRuns_28) ?_
  refine xAll_c (xs_icmp_eq C dX4_writeRuns_29 (by decide)) ?_
  refine xAll_c (xs_aload_n C dX4_writeRuns_32 rfl) ?_
  refine xAll_c (xs_iload C dX4_writeRuns_33) ?_
  refine xAll_c (xs_iconst C dX4_writeRuns_35 (by decide)) ?_
  refine xAll_c (xs_iadd C dX4_writeRuns_36) ?_
  refine xAll_c (xs_callV C (m_X0_valueAt l g) dX4_writeRuns_37 (rfl : vwCl[0]? = some (RX0, TX0, 7)) (by decide) rfl ⟨(by decide), (by decide), by decide +kernel⟩ wm657 wm439 wm440 wm2 wm441 ⟨Nat.le_of_ble_eq_true rfl, Nat.le_of_ble_eq_true rfl⟩) ?_
  refine xAll_c (xs_iload C dX4_writeRuns_40) ?_
  refine xAll_c (xs_icmp_eq C dX4_writeRuns_42 (by decide)) ?_
  refine xAll_c (xs_aload_n C dX4_writeRuns_45 rfl) ?_
  refine xAll_c (xs_iload C dX4_writeRuns_46) ?_
  refine xAll_c (xs_bipush C dX4_writeRuns_48 (by decide)) ?_
  refine xAll_c (xs_callU C (m_X4_writeNumber l g) dX4_writeRuns_50 (rfl : vwCl[4]? = some (RX4, TX4, 2)) (by decide) rfl ⟨(by decide), (by decide), by decide +kernel⟩ wm644 wm646 wp15 wm6 wm647 ⟨Nat.le_of_ble_eq_true rfl, Nat.le_of_ble_eq_true rfl⟩) ?_
  refine xAll_c (xs_aload_n C dX4_writeRuns_53 rfl) ?_
  refine xAll_c (xs_iload C dX4_writeRuns_54) ?_
  refine xAll_c (xs_iconst C dX4_writeRuns_56 (by decide)) ?_
  refine xAll_c (xs_iadd C dX4_writeRuns_57) ?_
  refine xAll_c (xs_iload C dX4_writeRuns_58) ?_
  refine xAll_c (xs_isub C dX4_writeRuns_60) ?_
  refine xAll_c (xs_iconst C dX4_writeRuns_61 (by decide)) ?_
  refine xAll_c (xs_callU C (m_X4_writeNumber l g) dX4_writeRuns_62 (rfl : vwCl[4]? = some (RX4, TX4, 2)) (by decide) rfl ⟨(by decide), (by decide), by decide +kernel⟩ wm644 wm646 wp15 wm6 wm647 ⟨Nat.le_of_ble_eq_true rfl, Nat.le_of_ble_eq_true rfl⟩) ?_
  refine xAll_c (xs_iload C dX4_writeRuns_65) ?_
  refine xAll_c (xs_iconst C dX4_writeRuns_67 (by decide)) ?_
  refine xAll_c (xs_iadd C dX4_writeRuns_68) ?_
  refine xAll_c (xs_istore C dX4_writeRuns_69) ?_
  refine xAll_c (xs_iinc C dX4_writeRuns_71 rfl) ?_
  refine xAll_c (xs_goto C dX4_writeRuns_74 (by decide)) ?_
  refine xAll_c (xs_vret C dX4_writeRuns_77 rfl) ?_
  exact trivial
noncomputable def k_X4_writeSmall : xCode := [(0, oAload 0 1), (1, oAload 3 2), (2, oGetI 2 4 5), (5, oConst (nI 10) 7), (7, oCallU 4 2 f_X4_writeNumber 10), (10, oAload 0 11), (11, oAload 3 12), (12, oGetI 2 8 15), (15, oConst (nI 4) 16), (16, oCallU 4 2 f_X4_writeNumber 19), (19, oConst (nI 0) 20), (20, oIstore 4 5 22), (22, oIload 4 24), (24, oAload 3 25), (25, oGetI 2 2 28), (28, oIf2 (fun x y => decide (y ≤ x)) 58 31), (31, oAload 0 32), (32, oAload 1 33), (33, oIload 2 34), (34, oIload 4 36), (36, oBin (fun x y => x + y) 37), (37, oCallV 0 1 f_X0_valueAt 40), (40, oAload 3 41), (41, oGetI 2 4 44), (44, oBin (fun x y => x - y) 45), (45, oAload 3 46), (46, oGetI 2 8 49), (49, oCallU 4 2 f_X4_writeNumber 52), (52, oIinc 4 (nI 1) 5 55), (55, oGoto 22), (58, oVret)]
noncomputable def f_X4_writeSmall : xRun := xrun k_X4_writeSmall 5
set_option maxHeartbeats 4000000 in
set_option maxRecDepth 100000 in
theorem m_X4_writeSmall (l : Launch) (g : xG) : xMet l g yX4_writeSmall cX4_writeSmall 5 none 2 45 f_X4_writeSmall := by
  refine xmet_of (own := RX4) (by decide +kernel) rfl (fun p e s m args below meth c r0 C => ?_)
  refine xAll_c (xs_aload_n C dX4_writeSmall_0 rfl) ?_
  refine xAll_c (xs_aload_n C dX4_writeSmall_1 rfl) ?_
  refine xAll_c (xs_getIN (host := "CodedColumn") C dX4_writeSmall_2 (rfl : vwCl[2]? = some (RX2, TX2, 10)) win2 rfl (by decide) (by decide) rfl (by decide +kernel)) ?_
  refine xAll_c (xs_bipush C dX4_writeSmall_5 (by decide)) ?_
  refine xAll_c (xs_callU C (m_X4_writeNumber l g) dX4_writeSmall_7 (rfl : vwCl[4]? = some (RX4, TX4, 2)) (by decide) rfl ⟨(by decide), (by decide), by decide +kernel⟩ wm644 wm646 wp15 wm6 wm647 ⟨Nat.le_of_ble_eq_true rfl, Nat.le_of_ble_eq_true rfl⟩) ?_
  refine xAll_c (xs_aload_n C dX4_writeSmall_10 rfl) ?_
  refine xAll_c (xs_aload_n C dX4_writeSmall_11 rfl) ?_
  refine xAll_c (xs_getIN (host := "CodedColumn") C dX4_writeSmall_12 (rfl : vwCl[2]? = some (RX2, TX2, 10)) win2 rfl (by decide) (by decide) rfl (by decide +kernel)) ?_
  refine xAll_c (xs_iconst C dX4_writeSmall_15 (by decide)) ?_
  refine xAll_c (xs_callU C (m_X4_writeNumber l g) dX4_writeSmall_16 (rfl : vwCl[4]? = some (RX4, TX4, 2)) (by decide) rfl ⟨(by decide), (by decide), by decide +kernel⟩ wm644 wm646 wp15 wm6 wm647 ⟨Nat.le_of_ble_eq_true rfl, Nat.le_of_ble_eq_true rfl⟩) ?_
  refine xAll_c (xs_iconst C dX4_writeSmall_19 (by decide)) ?_
  refine xAll_c (xs_istore C dX4_writeSmall_20) ?_
  refine xAll_c (xs_iload C dX4_writeSmall_22) ?_
  refine xAll_c (xs_aload_n C dX4_writeSmall_24 rfl) ?_
  refine xAll_c (xs_getIN (host := "CodedColumn") C dX4_writeSmall_25 (rfl : vwCl[2]? = some (RX2, TX2, 10)) win2 rfl (by decide) (by decide) rfl (by decide +kernel)) ?_
  refine xAll_c (xs_icmp_ge C dX4_writeSmall_28 (by decide)) ?_
  refine xAll_c (xs_aload_n C dX4_writeSmall_31 rfl) ?_
  refine xAll_c (xs_aload_n C dX4_writeSmall_32 rfl) ?_
  refine xAll_c (xs_iload_n C dX4_writeSmall_33 rfl) ?_
  refine xAll_c (xs_iload C dX4_writeSmall_34) ?_
  refine xAll_c (xs_iadd C dX4_writeSmall_36) ?_
  refine xAll_c (xs_callV C (m_X0_valueAt l g) dX4_writeSmall_37 (rfl : vwCl[0]? = some (RX0, TX0, 7)) (by decide) rfl ⟨(by decide), (by decide), by decide +kernel⟩ wm657 wm439 wm440 wm2 wm441 ⟨Nat.le_of_ble_eq_true rfl, Nat.le_of_ble_eq_true rfl⟩) ?_
  refine xAll_c (xs_aload_n C dX4_writeSmall_40 rfl) ?_
  refine xAll_c (xs_getIN (host := "CodedColumn") C dX4_writeSmall_41 (rfl : vwCl[2]? = some (RX2, TX2, 10)) win2 rfl (by decide) (by decide) rfl (by decide +kernel)) ?_
  refine xAll_c (xs_isub C dX4_writeSmall_44) ?_
  refine xAll_c (xs_aload_n C dX4_writeSmall_45 rfl) ?_
  refine xAll_c (xs_getIN (host := "CodedColumn") C dX4_writeSmall_46 (rfl : vwCl[2]? = some (RX2, TX2, 10)) win2 rfl (by decide) (by decide) rfl (by decide +kernel)) ?_
  refine xAll_c (xs_callU C (m_X4_writeNumber l g) dX4_writeSmall_49 (rfl : vwCl[4]? = some (RX4, TX4, 2)) (by decide) rfl ⟨(by decide), (by decide), by decide +kernel⟩ wm644 wm646 wp15 wm6 wm647 ⟨Nat.le_of_ble_eq_true rfl, Nat.le_of_ble_eq_true rfl⟩) ?_
  refine xAll_c (xs_iinc C dX4_writeSmall_52 rfl) ?_
  refine xAll_c (xs_goto C dX4_writeSmall_55 (by decide)) ?_
  refine xAll_c (xs_vret C dX4_writeSmall_58 rfl) ?_
  exact trivial
noncomputable def k_X4_writeSteps : xCode := [(0, oAload 0 1), (1, oAload 1 2), (2, oIload 2 3), (3, oCallV 0 1 f_X0_valueAt 6), (6, oConst (nI 10) 8), (8, oCallU 4 2 f_X4_writeNumber 11), (11, oAload 0 12), (12, oAload 3 13), (13, oGetI 2 9 16), (16, oConst (nI 4) 17), (17, oCallU 4 2 f_X4_writeNumber 20), (20, oIload 2 21), (21, oConst (nI 1) 22), (22, oBin (fun x y => x + y) 23), (23, oIstore 4 5 25), (25, oIload 4 27), (27, oIload 2 28), (28, oAload 3 29), (29, oGetI 2 2 32), (32, oBin (fun x y => x + y) 33), (33, oIf2 (fun x y => decide (y ≤ x)) 65 36), (36, oAload 0 37), (37, oAload 1 38), (38, oIload 4 40), (40, oCallV 0 1 f_X0_valueAt 43), (43, oAload 1 44), (44, oIload 4 46), (46, oConst (nI 1) 47), (47, oBin (fun x y => x - y) 48), (48, oCallV 0 1 f_X0_valueAt 51), (51, oBin (fun x y => x - y) 52), (52, oAload 3 53), (53, oGetI 2 9 56), (56, oCallU 4 2 f_X4_writeNumber 59), (59, oIinc 4 (nI 1) 5 62), (62, oGoto 25), (65, oVret)]
noncomputable def f_X4_writeSteps : xRun := xrun k_X4_writeSteps 5
set_option maxHeartbeats 4000000 in
set_option maxRecDepth 100000 in
theorem m_X4_writeSteps (l : Launch) (g : xG) : xMet l g yX4_writeSteps cX4_writeSteps 5 none 2 45 f_X4_writeSteps := by
  refine xmet_of (own := RX4) (by decide +kernel) rfl (fun p e s m args below meth c r0 C => ?_)
  refine xAll_c (xs_aload_n C dX4_writeSteps_0 rfl) ?_
  refine xAll_c (xs_aload_n C dX4_writeSteps_1 rfl) ?_
  refine xAll_c (xs_iload_n C dX4_writeSteps_2 rfl) ?_
  refine xAll_c (xs_callV C (m_X0_valueAt l g) dX4_writeSteps_3 (rfl : vwCl[0]? = some (RX0, TX0, 7)) (by decide) rfl ⟨(by decide), (by decide), by decide +kernel⟩ wm657 wm439 wm440 wm2 wm441 ⟨Nat.le_of_ble_eq_true rfl, Nat.le_of_ble_eq_true rfl⟩) ?_
  refine xAll_c (xs_bipush C dX4_writeSteps_6 (by decide)) ?_
  refine xAll_c (xs_callU C (m_X4_writeNumber l g) dX4_writeSteps_8 (rfl : vwCl[4]? = some (RX4, TX4, 2)) (by decide) rfl ⟨(by decide), (by decide), by decide +kernel⟩ wm644 wm646 wp15 wm6 wm647 ⟨Nat.le_of_ble_eq_true rfl, Nat.le_of_ble_eq_true rfl⟩) ?_
  refine xAll_c (xs_aload_n C dX4_writeSteps_11 rfl) ?_
  refine xAll_c (xs_aload_n C dX4_writeSteps_12 rfl) ?_
  refine xAll_c (xs_getIN (host := "CodedColumn") C dX4_writeSteps_13 (rfl : vwCl[2]? = some (RX2, TX2, 10)) win2 rfl (by decide) (by decide) rfl (by decide +kernel)) ?_
  refine xAll_c (xs_iconst C dX4_writeSteps_16 (by decide)) ?_
  refine xAll_c (xs_callU C (m_X4_writeNumber l g) dX4_writeSteps_17 (rfl : vwCl[4]? = some (RX4, TX4, 2)) (by decide) rfl ⟨(by decide), (by decide), by decide +kernel⟩ wm644 wm646 wp15 wm6 wm647 ⟨Nat.le_of_ble_eq_true rfl, Nat.le_of_ble_eq_true rfl⟩) ?_
  refine xAll_c (xs_iload_n C dX4_writeSteps_20 rfl) ?_
  refine xAll_c (xs_iconst C dX4_writeSteps_21 (by decide)) ?_
  refine xAll_c (xs_iadd C dX4_writeSteps_22) ?_
  refine xAll_c (xs_istore C dX4_writeSteps_23) ?_
  refine xAll_c (xs_iload C dX4_writeSteps_25) ?_
  refine xAll_c (xs_iload_n C dX4_writeSteps_27 rfl) ?_
  refine xAll_c (xs_aload_n C dX4_writeSteps_28 rfl) ?_
  refine xAll_c (xs_getIN (host := "CodedColumn") C dX4_writeSteps_29 (rfl : vwCl[2]? = some (RX2, TX2, 10)) win2 rfl (by decide) (by decide) rfl (by decide +kernel)) ?_
  refine xAll_c (xs_iadd C dX4_writeSteps_32) ?_
  refine xAll_c (xs_icmp_ge C dX4_writeSteps_33 (by decide)) ?_
  refine xAll_c (xs_aload_n C dX4_writeSteps_36 rfl) ?_
  refine xAll_c (xs_aload_n C dX4_writeSteps_37 rfl) ?_
  refine xAll_c (xs_iload C dX4_writeSteps_38) ?_
  refine xAll_c (xs_callV C (m_X0_valueAt l g) dX4_writeSteps_40 (rfl : vwCl[0]? = some (RX0, TX0, 7)) (by decide) rfl ⟨(by decide), (by decide), by decide +kernel⟩ wm657 wm439 wm440 wm2 wm441 ⟨Nat.le_of_ble_eq_true rfl, Nat.le_of_ble_eq_true rfl⟩) ?_
  refine xAll_c (xs_aload_n C dX4_writeSteps_43 rfl) ?_
  refine xAll_c (xs_iload C dX4_writeSteps_44) ?_
  refine xAll_c (xs_iconst C dX4_writeSteps_46 (by decide)) ?_
  refine xAll_c (xs_isub C dX4_writeSteps_47) ?_
  refine xAll_c (xs_callV C (m_X0_valueAt l g) dX4_writeSteps_48 (rfl : vwCl[0]? = some (RX0, TX0, 7)) (by decide) rfl ⟨(by decide), (by decide), by decide +kernel⟩ wm657 wm439 wm440 wm2 wm441 ⟨Nat.le_of_ble_eq_true rfl, Nat.le_of_ble_eq_true rfl⟩) ?_
  refine xAll_c (xs_isub C dX4_writeSteps_51) ?_
  refine xAll_c (xs_aload_n C dX4_writeSteps_52 rfl) ?_
  refine xAll_c (xs_getIN (host := "CodedColumn") C dX4_writeSteps_53 (rfl : vwCl[2]? = some (RX2, TX2, 10)) win2 rfl (by decide) (by decide) rfl (by decide +kernel)) ?_
  refine xAll_c (xs_callU C (m_X4_writeNumber l g) dX4_writeSteps_56 (rfl : vwCl[4]? = some (RX4, TX4, 2)) (by decide) rfl ⟨(by decide), (by decide), by decide +kernel⟩ wm644 wm646 wp15 wm6 wm647 ⟨Nat.le_of_ble_eq_true rfl, Nat.le_of_ble_eq_true rfl⟩) ?_
  refine xAll_c (xs_iinc C dX4_writeSteps_59 rfl) ?_
  refine xAll_c (xs_goto C dX4_writeSteps_62 (by decide)) ?_
  refine xAll_c (xs_vret C dX4_writeSteps_65 rfl) ?_
  exact trivial
noncomputable def k_X4_writePlain : xCode := [(0, oConst (nI 0) 1), (1, oIstore 4 5 3), (3, oIload 4 5), (5, oIload 3 6), (6, oIf2 (fun x y => decide (y ≤ x)) 29 9), (9, oAload 0 10), (10, oAload 1 11), (11, oIload 2 12), (12, oIload 4 14), (14, oBin (fun x y => x + y) 15), (15, oCallV 0 1 f_X0_valueAt 18), (18, oConst (nI 10) 20), (20, oCallU 4 2 f_X4_writeNumber 23), (23, oIinc 4 (nI 1) 5 26), (26, oGoto 3), (29, oVret)]
noncomputable def f_X4_writePlain : xRun := xrun k_X4_writePlain 5
set_option maxHeartbeats 4000000 in
set_option maxRecDepth 100000 in
theorem m_X4_writePlain (l : Launch) (g : xG) : xMet l g yX4_writePlain cX4_writePlain 5 none 2 45 f_X4_writePlain := by
  refine xmet_of (own := RX4) (by decide +kernel) rfl (fun p e s m args below meth c r0 C => ?_)
  refine xAll_c (xs_iconst C dX4_writePlain_0 (by decide)) ?_
  refine xAll_c (xs_istore C dX4_writePlain_1) ?_
  refine xAll_c (xs_iload C dX4_writePlain_3) ?_
  refine xAll_c (xs_iload_n C dX4_writePlain_5 rfl) ?_
  refine xAll_c (xs_icmp_ge C dX4_writePlain_6 (by decide)) ?_
  refine xAll_c (xs_aload_n C dX4_writePlain_9 rfl) ?_
  refine xAll_c (xs_aload_n C dX4_writePlain_10 rfl) ?_
  refine xAll_c (xs_iload_n C dX4_writePlain_11 rfl) ?_
  refine xAll_c (xs_iload C dX4_writePlain_12) ?_
  refine xAll_c (xs_iadd C dX4_writePlain_14) ?_
  refine xAll_c (xs_callV C (m_X0_valueAt l g) dX4_writePlain_15 (rfl : vwCl[0]? = some (RX0, TX0, 7)) (by decide) rfl ⟨(by decide), (by decide), by decide +kernel⟩ wm657 wm439 wm440 wm2 wm441 ⟨Nat.le_of_ble_eq_true rfl, Nat.le_of_ble_eq_true rfl⟩) ?_
  refine xAll_c (xs_bipush C dX4_writePlain_18 (by decide)) ?_
  refine xAll_c (xs_callU C (m_X4_writeNumber l g) dX4_writePlain_20 (rfl : vwCl[4]? = some (RX4, TX4, 2)) (by decide) rfl ⟨(by decide), (by decide), by decide +kernel⟩ wm644 wm646 wp15 wm6 wm647 ⟨Nat.le_of_ble_eq_true rfl, Nat.le_of_ble_eq_true rfl⟩) ?_
  refine xAll_c (xs_iinc C dX4_writePlain_23 rfl) ?_
  refine xAll_c (xs_goto C dX4_writePlain_26 (by decide)) ?_
  refine xAll_c (xs_vret C dX4_writePlain_29 rfl) ?_
  exact trivial
noncomputable def k_X4_writePage : xCode := [(0, oAload 1 1), (1, oIload 2 2), (2, oCallV 0 1 f_X0_measurePage 5), (5, oAstore 3 6 6), (6, oAload 3 7), (7, oAload 1 8), (8, oIload 2 9), (9, oCallV 0 1 f_X0_pinOf 12), (12, oCallV 2 1 f_X2_codingWhen 15), (15, oIstore 4 6 17), (17, oAload 1 18), (18, oIload 2 19), (19, oCallV 0 1 f_X0_firstOf 22), (22, oIstore 5 6 24), (24, oAload 0 25), (25, oConst (nI 0) 26), (26, oPutI 4 1 29), (29, oAload 0 30), (30, oIload 4 32), (32, oConst (nI 3) 33), (33, oCallU 4 2 f_X4_writeNumber 36), (36, oAload 0 37), (37, oAload 3 38), (38, oGetI 2 2 41), (41, oConst (nI 4) 42), (42, oCallU 4 2 f_X4_writeNumber 45), (45, oIload 4 47), (47, oTab 1 [76, 87, 101, 112] 123), (76, oAload 0 77), (77, oAload 1 78), (78, oIload 5 80), (80, oAload 3 81), (81, oCallU 4 3 f_X4_writeWords 84), (84, oGoto 134), (87, oAload 0 88), (88, oAload 1 89), (89, oIload 5 91), (91, oAload 3 92), (92, oGetI 2 2 95), (95, oCallU 4 3 f_X4_writeRuns 98), (98, oGoto 134), (101, oAload 0 102), (102, oAload 1 103), (103, oIload 5 105), (105, oAload 3 106), (106, oCallU 4 3 f_X4_writeSmall 109), (109, oGoto 134), (112, oAload 0 113), (113, oAload 1 114), (114, oIload 5 116), (116, oAload 3 117), (117, oCallU 4 3 f_X4_writeSteps 120), (120, oGoto 134), (123, oAload 0 124), (124, oAload 1 125), (125, oIload 5 127), (127, oAload 3 128), (128, oGetI 2 2 131), (131, oCallU 4 3 f_X4_writePlain 134), (134, oVret)]
noncomputable def f_X4_writePage : xRun := xrun k_X4_writePage 6
set_option maxHeartbeats 4000000 in
set_option maxRecDepth 100000 in
theorem m_X4_writePage (l : Launch) (g : xG) : xMet l g yX4_writePage cX4_writePage 6 none 4 88 f_X4_writePage := by
  refine xmet_of (own := RX4) (by decide +kernel) rfl (fun p e s m args below meth c r0 C => ?_)
  refine xAll_c (xs_aload_n C dX4_writePage_0 rfl) ?_
  refine xAll_c (xs_iload_n C dX4_writePage_1 rfl) ?_
  refine xAll_c (xs_callV C (m_X0_measurePage l g) dX4_writePage_2 (rfl : vwCl[0]? = some (RX0, TX0, 7)) (by decide) rfl ⟨(by decide), (by decide), by decide +kernel⟩ wm640 wm622 wm623 wm2 wm624 ⟨Nat.le_of_ble_eq_true rfl, Nat.le_of_ble_eq_true rfl⟩) ?_
  refine xAll_c (xs_astore_n C dX4_writePage_5 rfl) ?_
  refine xAll_c (xs_aload_n C dX4_writePage_6 rfl) ?_
  refine xAll_c (xs_aload_n C dX4_writePage_7 rfl) ?_
  refine xAll_c (xs_iload_n C dX4_writePage_8 rfl) ?_
  refine xAll_c (xs_callV C (m_X0_pinOf l g) dX4_writePage_9 (rfl : vwCl[0]? = some (RX0, TX0, 7)) (by decide) rfl ⟨(by decide), (by decide), by decide +kernel⟩ wm641 wm395 wm396 wm2 wm397 ⟨Nat.le_of_ble_eq_true rfl, Nat.le_of_ble_eq_true rfl⟩) ?_
  refine xAll_c (xs_callV C (m_X2_codingWhen l g) dX4_writePage_12 (rfl : vwCl[2]? = some (RX2, TX2, 10)) (by decide) rfl ⟨(by decide), (by decide), by decide +kernel⟩ wm642 wm403 wm404 wm4 wm405 ⟨Nat.le_of_ble_eq_true rfl, Nat.le_of_ble_eq_true rfl⟩) ?_
  refine xAll_c (xs_istore C dX4_writePage_15) ?_
  refine xAll_c (xs_aload_n C dX4_writePage_17 rfl) ?_
  refine xAll_c (xs_iload_n C dX4_writePage_18 rfl) ?_
  refine xAll_c (xs_callV C (m_X0_firstOf l g) dX4_writePage_19 (rfl : vwCl[0]? = some (RX0, TX0, 7)) (by decide) rfl ⟨(by decide), (by decide), by decide +kernel⟩ wm643 wm372 wm373 wm2 wm374 ⟨Nat.le_of_ble_eq_true rfl, Nat.le_of_ble_eq_true rfl⟩) ?_
  refine xAll_c (xs_istore C dX4_writePage_22) ?_
  refine xAll_c (xs_aload_n C dX4_writePage_24 rfl) ?_
  refine xAll_c (xs_iconst C dX4_writePage_25 (by decide)) ?_
  refine xAll_c (xs_putI C dX4_writePage_26 (rfl : vwCl[4]? = some (RX4, TX4, 2)) win4 tyX4_ok nmX4 rfl (by decide) (by decide) rfl rfl (by decide) wm164) ?_
  refine xAll_c (xs_aload_n C dX4_writePage_29 rfl) ?_
  refine xAll_c (xs_iload C dX4_writePage_30) ?_
  refine xAll_c (xs_iconst C dX4_writePage_32 (by decide)) ?_
  refine xAll_c (xs_callU C (m_X4_writeNumber l g) dX4_writePage_33 (rfl : vwCl[4]? = some (RX4, TX4, 2)) (by decide) rfl ⟨(by decide), (by decide), by decide +kernel⟩ wm644 wm646 wp15 wm6 wm647 ⟨Nat.le_of_ble_eq_true rfl, Nat.le_of_ble_eq_true rfl⟩) ?_
  refine xAll_c (xs_aload_n C dX4_writePage_36 rfl) ?_
  refine xAll_c (xs_aload_n C dX4_writePage_37 rfl) ?_
  refine xAll_c (xs_getIN (host := "CodedColumn") C dX4_writePage_38 (rfl : vwCl[2]? = some (RX2, TX2, 10)) win2 rfl (by decide) (by decide) rfl (by decide +kernel)) ?_
  refine xAll_c (xs_iconst C dX4_writePage_41 (by decide)) ?_
  refine xAll_c (xs_callU C (m_X4_writeNumber l g) dX4_writePage_42 (rfl : vwCl[4]? = some (RX4, TX4, 2)) (by decide) rfl ⟨(by decide), (by decide), by decide +kernel⟩ wm644 wm646 wp15 wm6 wm647 ⟨Nat.le_of_ble_eq_true rfl, Nat.le_of_ble_eq_true rfl⟩) ?_
  refine xAll_c (xs_iload C dX4_writePage_45) ?_
  refine xAll_c (xs_tab C dX4_writePage_47 (by decide) (by decide) (by decide)) ?_
  refine xAll_c (xs_aload_n C dX4_writePage_76 rfl) ?_
  refine xAll_c (xs_aload_n C dX4_writePage_77 rfl) ?_
  refine xAll_c (xs_iload C dX4_writePage_78) ?_
  refine xAll_c (xs_aload_n C dX4_writePage_80 rfl) ?_
  refine xAll_c (xs_callU C (m_X4_writeWords l g) dX4_writePage_81 (rfl : vwCl[4]? = some (RX4, TX4, 2)) (by decide) rfl ⟨(by decide), (by decide), by decide +kernel⟩ wm649 wm651 wp16 wm6 wm652 ⟨Nat.le_of_ble_eq_true rfl, Nat.le_of_ble_eq_true rfl⟩) ?_
  refine xAll_c (xs_goto C dX4_writePage_84 (by decide)) ?_
  refine xAll_c (xs_aload_n C dX4_writePage_87 rfl) ?_
  refine xAll_c (xs_aload_n C dX4_writePage_88 rfl) ?_
  refine xAll_c (xs_iload C dX4_writePage_89) ?_
  refine xAll_c (xs_aload_n C dX4_writePage_91 rfl) ?_
  refine xAll_c (xs_getIN (host := "CodedColumn") C dX4_writePage_92 (rfl : vwCl[2]? = some (RX2, TX2, 10)) win2 rfl (by decide) (by decide) rfl (by decide +kernel)) ?_
  refine xAll_c (xs_callU C (m_X4_writeRuns l g) dX4_writePage_95 (rfl : vwCl[4]? = some (RX4, TX4, 2)) (by decide) rfl ⟨(by decide), (by decide), by decide +kernel⟩ wm659 wm661 wp17 wm6 wm662 ⟨Nat.le_of_ble_eq_true rfl, Nat.le_of_ble_eq_true rfl⟩) ?_
  refine xAll_c (xs_goto C dX4_writePage_98 (by decide)) ?_
  refine xAll_c (xs_aload_n C dX4_writePage_101 rfl) ?_
  refine xAll_c (xs_aload_n C dX4_writePage_102 rfl) ?_
  refine xAll_c (xs_iload C dX4_writePage_103) ?_
  refine xAll_c (xs_aload_n C dX4_writePage_105 rfl) ?_
  refine xAll_c (xs_callU C (m_X4_writeSmall l g) dX4_writePage_106 (rfl : vwCl[4]? = some (RX4, TX4, 2)) (by decide) rfl ⟨(by decide), (by decide), by decide +kernel⟩ wm663 wm665 wp18 wm6 wm666 ⟨Nat.le_of_ble_eq_true rfl, Nat.le_of_ble_eq_true rfl⟩) ?_
  refine xAll_c (xs_goto C dX4_writePage_109 (by decide)) ?_
  refine xAll_c (xs_aload_n C dX4_writePage_112 rfl) ?_
  refine xAll_c (xs_aload_n C dX4_writePage_113 rfl) ?_
  refine xAll_c (xs_iload C dX4_writePage_114) ?_
  refine xAll_c (xs_aload_n C dX4_writePage_116 rfl) ?_
  refine xAll_c (xs_callU C (m_X4_writeSteps l g) dX4_writePage_117 (rfl : vwCl[4]? = some (RX4, TX4, 2)) (by decide) rfl ⟨(by decide), (by decide), by decide +kernel⟩ wm667 wm669 wp19 wm6 wm670 ⟨Nat.le_of_ble_eq_true rfl, Nat.le_of_ble_eq_true rfl⟩) ?_
  refine xAll_c (xs_goto C dX4_writePage_120 (by decide)) ?_
  refine xAll_c (xs_aload_n C dX4_writePage_123 rfl) ?_
  refine xAll_c (xs_aload_n C dX4_writePage_124 rfl) ?_
  refine xAll_c (xs_iload C dX4_writePage_125) ?_
  refine xAll_c (xs_aload_n C dX4_writePage_127 rfl) ?_
  refine xAll_c (xs_getIN (host := "CodedColumn") C dX4_writePage_128 (rfl : vwCl[2]? = some (RX2, TX2, 10)) win2 rfl (by decide) (by decide) rfl (by decide +kernel)) ?_
  refine xAll_c (xs_callU C (m_X4_writePlain l g) dX4_writePage_131 (rfl : vwCl[4]? = some (RX4, TX4, 2)) (by decide) rfl ⟨(by decide), (by decide), by decide +kernel⟩ wm671 wm673 wp20 wm6 wm674 ⟨Nat.le_of_ble_eq_true rfl, Nat.le_of_ble_eq_true rfl⟩) ?_
  refine xAll_c (xs_vret C dX4_writePage_134 rfl) ?_
  exact trivial
noncomputable def k_X6_startFrom : xCode := [(0, oAload 0 1), (1, oGetR 6 0 4), (4, oAload 1 5), (5, oCallU 0 1 f_X0_copyFrom 8), (8, oVret)]
noncomputable def f_X6_startFrom : xRun := xrun k_X6_startFrom 2
set_option maxHeartbeats 4000000 in
set_option maxRecDepth 100000 in
theorem m_X6_startFrom (l : Launch) (g : xG) : xMet l g yX6_startFrom cX6_startFrom 2 none 3 64 f_X6_startFrom := by
  refine xmet_of (own := RX6) (by decide +kernel) rfl (fun p e s m args below meth c r0 C => ?_)
  refine xAll_c (xs_aload_n C dX6_startFrom_0 rfl) ?_
  refine xAll_c (xs_getR C dX6_startFrom_1 (rfl : vwCl[6]? = some (RX6, TX6, 1)) win6 rfl (by decide) (by decide) rfl wm216) ?_
  refine xAll_c (xs_aload_n C dX6_startFrom_4 rfl) ?_
  refine xAll_c (xs_callU C (m_X0_copyFrom l g) dX6_startFrom_5 (rfl : vwCl[0]? = some (RX0, TX0, 7)) (by decide) rfl ⟨(by decide), (by decide), by decide +kernel⟩ wm911 wm338 wm339 wm2 wm340 ⟨Nat.le_of_ble_eq_true rfl, Nat.le_of_ble_eq_true rfl⟩) ?_
  refine xAll_c (xs_vret C dX6_startFrom_8 rfl) ?_
  exact trivial
noncomputable def k_X8_isValue : xCode := [(0, oIload 0 1), (1, oIf1 (fun x => decide (x < 0)) 15 4), (4, oIload 0 5), (5, oConst (nI 1023) 8), (8, oIf2 (fun x y => decide (y < x)) 15 11), (11, oConst (nI 1) 12), (12, oGoto 16), (15, oConst (nI 0) 16), (16, oZret)]
noncomputable def f_X8_isValue : xRun := xrun k_X8_isValue 1
set_option maxHeartbeats 4000000 in
set_option maxRecDepth 100000 in
theorem m_X8_isValue (l : Launch) (g : xG) : xMet l g yX8_isValue cX8_isValue 1 (some .boolean) 0 0 f_X8_isValue := by
  refine xmet_of (own := RX8) (by decide +kernel) rfl (fun p e s m args below meth c r0 C => ?_)
  refine xAll_c (xs_iload_n C dX8_isValue_0 rfl) ?_
  refine xAll_c (xs_if_lt C dX8_isValue_1 (by decide)) ?_
  refine xAll_c (xs_iload_n C dX8_isValue_4 rfl) ?_
  refine xAll_c (xs_sipush C dX8_isValue_5 (by decide)) ?_
  refine xAll_c (xs_icmp_gt C dX8_isValue_8 (by decide)) ?_
  refine xAll_c (xs_iconst C dX8_isValue_11 (by decide)) ?_
  refine xAll_c (xs_goto C dX8_isValue_12 (by decide)) ?_
  refine xAll_c (xs_iconst C dX8_isValue_15 (by decide)) ?_
  refine xAll_c (xs_zret C dX8_isValue_16 rfl) ?_
  exact trivial
noncomputable def k_X6_addsValue : xCode := [(0, oIload 1 1), (1, oCallSV 1 f_X8_isValue 4), (4, oIf1 (fun x => decide (x = 0)) 17 7), (7, oAload 0 8), (8, oGetR 6 0 11), (11, oCallV 0 0 f_X0_canAppend 14), (14, oIf1 (fun x => !(decide (x = 0))) 19 17), (17, oConst (nI 0) 18), (18, oZret), (19, oAload 0 20), (20, oGetR 6 0 23), (23, oIload 1 24), (24, oCallV 0 1 f_X0_appendValue 27), (27, oPop 28), (28, oConst (nI 1) 29), (29, oZret)]
noncomputable def f_X6_addsValue : xRun := xrun k_X6_addsValue 2
set_option maxHeartbeats 4000000 in
set_option maxRecDepth 100000 in
theorem m_X6_addsValue (l : Launch) (g : xG) : xMet l g yX6_addsValue cX6_addsValue 2 (some .boolean) 4 90 f_X6_addsValue := by
  refine xmet_of (own := RX6) (by decide +kernel) rfl (fun p e s m args below meth c r0 C => ?_)
  refine xAll_c (xs_iload_n C dX6_addsValue_0 rfl) ?_
  refine xAll_c (xs_callNV (host := "CodedColumn") C (m_X8_isValue l g) dX6_addsValue_1 ⟨(by decide), (by decide), by decide +kernel⟩ (by decide +kernel) wm695 wm1 wm696 ⟨Nat.le_of_ble_eq_true rfl, Nat.le_of_ble_eq_true rfl⟩) ?_
  refine xAll_c (xs_if_eq C dX6_addsValue_4 (by decide)) ?_
  refine xAll_c (xs_aload_n C dX6_addsValue_7 rfl) ?_
  refine xAll_c (xs_getR C dX6_addsValue_8 (rfl : vwCl[6]? = some (RX6, TX6, 1)) win6 rfl (by decide) (by decide) rfl wm216) ?_
  refine xAll_c (xs_callV C (m_X0_canAppend l g) dX6_addsValue_11 (rfl : vwCl[0]? = some (RX0, TX0, 7)) (by decide) rfl ⟨(by decide), (by decide), by decide +kernel⟩ wm922 wm728 wm729 wm2 wm730 ⟨Nat.le_of_ble_eq_true rfl, Nat.le_of_ble_eq_true rfl⟩) ?_
  refine xAll_c (xs_if_ne C dX6_addsValue_14 (by decide)) ?_
  refine xAll_c (xs_iconst C dX6_addsValue_17 (by decide)) ?_
  refine xAll_c (xs_zret C dX6_addsValue_18 rfl) ?_
  refine xAll_c (xs_aload_n C dX6_addsValue_19 rfl) ?_
  refine xAll_c (xs_getR C dX6_addsValue_20 (rfl : vwCl[6]? = some (RX6, TX6, 1)) win6 rfl (by decide) (by decide) rfl wm216) ?_
  refine xAll_c (xs_iload_n C dX6_addsValue_23 rfl) ?_
  refine xAll_c (xs_callV C (m_X0_appendValue l g) dX6_addsValue_24 (rfl : vwCl[0]? = some (RX0, TX0, 7)) (by decide) rfl ⟨(by decide), (by decide), by decide +kernel⟩ wm923 wm741 wm742 wm2 wm743 ⟨Nat.le_of_ble_eq_true rfl, Nat.le_of_ble_eq_true rfl⟩) ?_
  refine xAll_c (xs_pop C dX6_addsValue_27) ?_
  refine xAll_c (xs_iconst C dX6_addsValue_28 (by decide)) ?_
  refine xAll_c (xs_zret C dX6_addsValue_29 rfl) ?_
  exact trivial
noncomputable def k_X6_putsValue : xCode := [(0, oAload 0 1), (1, oGetR 6 0 4), (4, oIload 1 5), (5, oCallV 0 1 f_X0_hasValue 8), (8, oIf1 (fun x => decide (x = 0)) 18 11), (11, oIload 2 12), (12, oCallSV 1 f_X8_isValue 15), (15, oIf1 (fun x => !(decide (x = 0))) 20 18), (18, oConst (nI 0) 19), (19, oZret), (20, oAload 0 21), (21, oGetR 6 0 24), (24, oIload 1 25), (25, oIload 2 26), (26, oCallV 0 2 f_X0_changeValue 29), (29, oPop 30), (30, oConst (nI 1) 31), (31, oZret)]
noncomputable def f_X6_putsValue : xRun := xrun k_X6_putsValue 3
set_option maxHeartbeats 4000000 in
set_option maxRecDepth 100000 in
theorem m_X6_putsValue (l : Launch) (g : xG) : xMet l g yX6_putsValue cX6_putsValue 3 (some .boolean) 2 45 f_X6_putsValue := by
  refine xmet_of (own := RX6) (by decide +kernel) rfl (fun p e s m args below meth c r0 C => ?_)
  refine xAll_c (xs_aload_n C dX6_putsValue_0 rfl) ?_
  refine xAll_c (xs_getR C dX6_putsValue_1 (rfl : vwCl[6]? = some (RX6, TX6, 1)) win6 rfl (by decide) (by decide) rfl wm216) ?_
  refine xAll_c (xs_iload_n C dX6_putsValue_4 rfl) ?_
  refine xAll_c (xs_callV C (m_X0_hasValue l g) dX6_putsValue_5 (rfl : vwCl[0]? = some (RX0, TX0, 7)) (by decide) rfl ⟨(by decide), (by decide), by decide +kernel⟩ wm928 wm590 wm591 wm2 wm592 ⟨Nat.le_of_ble_eq_true rfl, Nat.le_of_ble_eq_true rfl⟩) ?_
  refine xAll_c (xs_if_eq C dX6_putsValue_8 (by decide)) ?_
  refine xAll_c (xs_iload_n C dX6_putsValue_11 rfl) ?_
  refine xAll_c (xs_callNV (host := "CodedColumn") C (m_X8_isValue l g) dX6_putsValue_12 ⟨(by decide), (by decide), by decide +kernel⟩ (by decide +kernel) wm695 wm1 wm696 ⟨Nat.le_of_ble_eq_true rfl, Nat.le_of_ble_eq_true rfl⟩) ?_
  refine xAll_c (xs_if_ne C dX6_putsValue_15 (by decide)) ?_
  refine xAll_c (xs_iconst C dX6_putsValue_18 (by decide)) ?_
  refine xAll_c (xs_zret C dX6_putsValue_19 rfl) ?_
  refine xAll_c (xs_aload_n C dX6_putsValue_20 rfl) ?_
  refine xAll_c (xs_getR C dX6_putsValue_21 (rfl : vwCl[6]? = some (RX6, TX6, 1)) win6 rfl (by decide) (by decide) rfl wm216) ?_
  refine xAll_c (xs_iload_n C dX6_putsValue_24 rfl) ?_
  refine xAll_c (xs_iload_n C dX6_putsValue_25 rfl) ?_
  refine xAll_c (xs_callV C (m_X0_changeValue l g) dX6_putsValue_26 (rfl : vwCl[0]? = some (RX0, TX0, 7)) (by decide) rfl ⟨(by decide), (by decide), by decide +kernel⟩ wm929 wm760 wm761 wm2 wm762 ⟨Nat.le_of_ble_eq_true rfl, Nat.le_of_ble_eq_true rfl⟩) ?_
  refine xAll_c (xs_pop C dX6_putsValue_29) ?_
  refine xAll_c (xs_iconst C dX6_putsValue_30 (by decide)) ?_
  refine xAll_c (xs_zret C dX6_putsValue_31 rfl) ?_
  exact trivial
noncomputable def k_X6_removesValue : xCode := [(0, oAload 0 1), (1, oGetR 6 0 4), (4, oIload 1 5), (5, oCallV 0 1 f_X0_hasValue 8), (8, oIf1 (fun x => !(decide (x = 0))) 13 11), (11, oConst (nI 0) 12), (12, oZret), (13, oAload 0 14), (14, oGetR 6 0 17), (17, oIload 1 18), (18, oCallV 0 1 f_X0_dropValue 21), (21, oPop 22), (22, oConst (nI 1) 23), (23, oZret)]
noncomputable def f_X6_removesValue : xRun := xrun k_X6_removesValue 2
set_option maxHeartbeats 4000000 in
set_option maxRecDepth 100000 in
theorem m_X6_removesValue (l : Launch) (g : xG) : xMet l g yX6_removesValue cX6_removesValue 2 (some .boolean) 4 88 f_X6_removesValue := by
  refine xmet_of (own := RX6) (by decide +kernel) rfl (fun p e s m args below meth c r0 C => ?_)
  refine xAll_c (xs_aload_n C dX6_removesValue_0 rfl) ?_
  refine xAll_c (xs_getR C dX6_removesValue_1 (rfl : vwCl[6]? = some (RX6, TX6, 1)) win6 rfl (by decide) (by decide) rfl wm216) ?_
  refine xAll_c (xs_iload_n C dX6_removesValue_4 rfl) ?_
  refine xAll_c (xs_callV C (m_X0_hasValue l g) dX6_removesValue_5 (rfl : vwCl[0]? = some (RX0, TX0, 7)) (by decide) rfl ⟨(by decide), (by decide), by decide +kernel⟩ wm928 wm590 wm591 wm2 wm592 ⟨Nat.le_of_ble_eq_true rfl, Nat.le_of_ble_eq_true rfl⟩) ?_
  refine xAll_c (xs_if_ne C dX6_removesValue_8 (by decide)) ?_
  refine xAll_c (xs_iconst C dX6_removesValue_11 (by decide)) ?_
  refine xAll_c (xs_zret C dX6_removesValue_12 rfl) ?_
  refine xAll_c (xs_aload_n C dX6_removesValue_13 rfl) ?_
  refine xAll_c (xs_getR C dX6_removesValue_14 (rfl : vwCl[6]? = some (RX6, TX6, 1)) win6 rfl (by decide) (by decide) rfl wm216) ?_
  refine xAll_c (xs_iload_n C dX6_removesValue_17 rfl) ?_
  refine xAll_c (xs_callV C (m_X0_dropValue l g) dX6_removesValue_18 (rfl : vwCl[0]? = some (RX0, TX0, 7)) (by decide) rfl ⟨(by decide), (by decide), by decide +kernel⟩ wm934 wm771 wm772 wm2 wm773 ⟨Nat.le_of_ble_eq_true rfl, Nat.le_of_ble_eq_true rfl⟩) ?_
  refine xAll_c (xs_pop C dX6_removesValue_21) ?_
  refine xAll_c (xs_iconst C dX6_removesValue_22 (by decide)) ?_
  refine xAll_c (xs_zret C dX6_removesValue_23 rfl) ?_
  exact trivial
noncomputable def k_X6_cutsPage : xCode := [(0, oAload 0 1), (1, oGetR 6 0 4), (4, oIload 1 5), (5, oCallV 0 1 f_X0_hasPage 8), (8, oIf1 (fun x => decide (x = 0)) 33 11), (11, oAload 0 12), (12, oGetR 6 0 15), (15, oIload 1 16), (16, oIload 2 17), (17, oCallV 0 2 f_X0_hasCut 20), (20, oIf1 (fun x => decide (x = 0)) 33 23), (23, oAload 0 24), (24, oGetR 6 0 27), (27, oCallV 0 0 f_X0_isFull 30), (30, oIf1 (fun x => decide (x = 0)) 35 33), (33, oConst (nI 0) 34), (34, oZret), (35, oAload 0 36), (36, oGetR 6 0 39), (39, oIload 1 40), (40, oIload 2 41), (41, oCallU 0 2 f_X0_splitPage 44), (44, oConst (nI 1) 45), (45, oZret)]
noncomputable def f_X6_cutsPage : xRun := xrun k_X6_cutsPage 3
set_option maxHeartbeats 4000000 in
set_option maxRecDepth 100000 in
theorem m_X6_cutsPage (l : Launch) (g : xG) : xMet l g yX6_cutsPage cX6_cutsPage 3 (some .boolean) 4 90 f_X6_cutsPage := by
  refine xmet_of (own := RX6) (by decide +kernel) rfl (fun p e s m args below meth c r0 C => ?_)
  refine xAll_c (xs_aload_n C dX6_cutsPage_0 rfl) ?_
  refine xAll_c (xs_getR C dX6_cutsPage_1 (rfl : vwCl[6]? = some (RX6, TX6, 1)) win6 rfl (by decide) (by decide) rfl wm216) ?_
  refine xAll_c (xs_iload_n C dX6_cutsPage_4 rfl) ?_
  refine xAll_c (xs_callV C (m_X0_hasPage l g) dX6_cutsPage_5 (rfl : vwCl[0]? = some (RX0, TX0, 7)) (by decide) rfl ⟨(by decide), (by decide), by decide +kernel⟩ wm939 wm617 wm618 wm2 wm619 ⟨Nat.le_of_ble_eq_true rfl, Nat.le_of_ble_eq_true rfl⟩) ?_
  refine xAll_c (xs_if_eq C dX6_cutsPage_8 (by decide)) ?_
  refine xAll_c (xs_aload_n C dX6_cutsPage_11 rfl) ?_
  refine xAll_c (xs_getR C dX6_cutsPage_12 (rfl : vwCl[6]? = some (RX6, TX6, 1)) win6 rfl (by decide) (by decide) rfl wm216) ?_
  refine xAll_c (xs_iload_n C dX6_cutsPage_15 rfl) ?_
  refine xAll_c (xs_iload_n C dX6_cutsPage_16 rfl) ?_
  refine xAll_c (xs_callV C (m_X0_hasCut l g) dX6_cutsPage_17 (rfl : vwCl[0]? = some (RX0, TX0, 7)) (by decide) rfl ⟨(by decide), (by decide), by decide +kernel⟩ wm940 wm786 wm787 wm2 wm788 ⟨Nat.le_of_ble_eq_true rfl, Nat.le_of_ble_eq_true rfl⟩) ?_
  refine xAll_c (xs_if_eq C dX6_cutsPage_20 (by decide)) ?_
  refine xAll_c (xs_aload_n C dX6_cutsPage_23 rfl) ?_
  refine xAll_c (xs_getR C dX6_cutsPage_24 (rfl : vwCl[6]? = some (RX6, TX6, 1)) win6 rfl (by decide) (by decide) rfl wm216) ?_
  refine xAll_c (xs_callV C (m_X0_isFull l g) dX6_cutsPage_27 (rfl : vwCl[0]? = some (RX0, TX0, 7)) (by decide) rfl ⟨(by decide), (by decide), by decide +kernel⟩ wm941 wm736 wm737 wm2 wm738 ⟨Nat.le_of_ble_eq_true rfl, Nat.le_of_ble_eq_true rfl⟩) ?_
  refine xAll_c (xs_if_eq C dX6_cutsPage_30 (by decide)) ?_
  refine xAll_c (xs_iconst C dX6_cutsPage_33 (by decide)) ?_
  refine xAll_c (xs_zret C dX6_cutsPage_34 rfl) ?_
  refine xAll_c (xs_aload_n C dX6_cutsPage_35 rfl) ?_
  refine xAll_c (xs_getR C dX6_cutsPage_36 (rfl : vwCl[6]? = some (RX6, TX6, 1)) win6 rfl (by decide) (by decide) rfl wm216) ?_
  refine xAll_c (xs_iload_n C dX6_cutsPage_39 rfl) ?_
  refine xAll_c (xs_iload_n C dX6_cutsPage_40 rfl) ?_
  refine xAll_c (xs_callU C (m_X0_splitPage l g) dX6_cutsPage_41 (rfl : vwCl[0]? = some (RX0, TX0, 7)) (by decide) rfl ⟨(by decide), (by decide), by decide +kernel⟩ wm942 wm793 wm794 wm2 wm795 ⟨Nat.le_of_ble_eq_true rfl, Nat.le_of_ble_eq_true rfl⟩) ?_
  refine xAll_c (xs_iconst C dX6_cutsPage_44 (by decide)) ?_
  refine xAll_c (xs_zret C dX6_cutsPage_45 rfl) ?_
  exact trivial
noncomputable def k_X6_mergesPages : xCode := [(0, oAload 0 1), (1, oGetR 6 0 4), (4, oIload 1 5), (5, oCallV 0 1 f_X0_canJoin 8), (8, oIf1 (fun x => !(decide (x = 0))) 13 11), (11, oConst (nI 0) 12), (12, oZret), (13, oAload 0 14), (14, oGetR 6 0 17), (17, oIload 1 18), (18, oCallU 0 1 f_X0_joinPages 21), (21, oConst (nI 1) 22), (22, oZret)]
noncomputable def f_X6_mergesPages : xRun := xrun k_X6_mergesPages 2
set_option maxHeartbeats 4000000 in
set_option maxRecDepth 100000 in
theorem m_X6_mergesPages (l : Launch) (g : xG) : xMet l g yX6_mergesPages cX6_mergesPages 2 (some .boolean) 4 86 f_X6_mergesPages := by
  refine xmet_of (own := RX6) (by decide +kernel) rfl (fun p e s m args below meth c r0 C => ?_)
  refine xAll_c (xs_aload_n C dX6_mergesPages_0 rfl) ?_
  refine xAll_c (xs_getR C dX6_mergesPages_1 (rfl : vwCl[6]? = some (RX6, TX6, 1)) win6 rfl (by decide) (by decide) rfl wm216) ?_
  refine xAll_c (xs_iload_n C dX6_mergesPages_4 rfl) ?_
  refine xAll_c (xs_callV C (m_X0_canJoin l g) dX6_mergesPages_5 (rfl : vwCl[0]? = some (RX0, TX0, 7)) (by decide) rfl ⟨(by decide), (by decide), by decide +kernel⟩ wm947 wm359 wm360 wm2 wm361 ⟨Nat.le_of_ble_eq_true rfl, Nat.le_of_ble_eq_true rfl⟩) ?_
  refine xAll_c (xs_if_ne C dX6_mergesPages_8 (by decide)) ?_
  refine xAll_c (xs_iconst C dX6_mergesPages_11 (by decide)) ?_
  refine xAll_c (xs_zret C dX6_mergesPages_12 rfl) ?_
  refine xAll_c (xs_aload_n C dX6_mergesPages_13 rfl) ?_
  refine xAll_c (xs_getR C dX6_mergesPages_14 (rfl : vwCl[6]? = some (RX6, TX6, 1)) win6 rfl (by decide) (by decide) rfl wm216) ?_
  refine xAll_c (xs_iload_n C dX6_mergesPages_17 rfl) ?_
  refine xAll_c (xs_callU C (m_X0_joinPages l g) dX6_mergesPages_18 (rfl : vwCl[0]? = some (RX0, TX0, 7)) (by decide) rfl ⟨(by decide), (by decide), by decide +kernel⟩ wm948 wm415 wm416 wm2 wm417 ⟨Nat.le_of_ble_eq_true rfl, Nat.le_of_ble_eq_true rfl⟩) ?_
  refine xAll_c (xs_iconst C dX6_mergesPages_21 (by decide)) ?_
  refine xAll_c (xs_zret C dX6_mergesPages_22 rfl) ?_
  exact trivial
noncomputable def k_X6_succeeds : xCode := [(0, oIload 1 1), (1, oConst (nI 100000) 3), (3, oDiv (fun x y => x - x / y * y) 4), (4, oIstore 2 4 5), (5, oIload 2 6), (6, oConst (nI 10000) 9), (9, oDiv (fun x y => x / y) 10), (10, oIstore 3 4 11), (11, oIload 1 12), (12, oConst (nI 100000) 14), (14, oDiv (fun x y => x / y) 15), (15, oTab 1 [64, 82, 97, 123, 151, 173, 195, 216, 260] 294), (64, oIload 3 65), (65, oIf1 (fun x => !(decide (x = 0))) 80 68), (68, oAload 0 69), (69, oIload 2 70), (70, oCallV 6 1 f_X6_addsValue 73), (73, oIf1 (fun x => decide (x = 0)) 80 76), (76, oConst (nI 1) 77), (77, oGoto 81), (80, oConst (nI 0) 81), (81, oZret), (82, oAload 0 83), (83, oIload 2 84), (84, oConst (nI 1000) 87), (87, oDiv (fun x y => x / y) 88), (88, oIload 2 89), (89, oConst (nI 1000) 92), (92, oDiv (fun x y => x - x / y * y) 93), (93, oCallV 6 2 f_X6_putsValue 96), (96, oZret), (97, oIload 2 98), (98, oConst (nI 1000) 101), (101, oDiv (fun x y => x - x / y * y) 102), (102, oIf1 (fun x => !(decide (x = 0))) 121 105), (105, oAload 0 106), (106, oIload 2 107), (107, oConst (nI 1000) 110), (110, oDiv (fun x y => x / y) 111), (111, oCallV 6 1 f_X6_removesValue 114), (114, oIf1 (fun x => decide (x = 0)) 121 117), (117, oConst (nI 1) 118), (118, oGoto 122), (121, oConst (nI 0) 122), (122, oZret), (123, oIload 2 124), (124, oConst (nI 100) 126), (126, oDiv (fun x y => x - x / y * y) 127), (127, oIf1 (fun x => !(decide (x = 0))) 149 130), (130, oAload 0 131), (131, oIload 3 132), (132, oIload 2 133), (133, oConst (nI 100) 135), (135, oDiv (fun x y => x / y) 136), (136, oConst (nI 100) 138), (138, oDiv (fun x y => x - x / y * y) 139), (139, oCallV 6 2 f_X6_cutsPage 142), (142, oIf1 (fun x => decide (x = 0)) 149 145), (145, oConst (nI 1) 146), (146, oGoto 150), (149, oConst (nI 0) 150), (150, oZret), (151, oIload 2 152), (152, oConst (nI 10000) 155), (155, oDiv (fun x y => x - x / y * y) 156), (156, oIf1 (fun x => !(decide (x = 0))) 171 159), (159, oAload 0 160), (160, oIload 3 161), (161, oCallV 6 1 f_X6_mergesPages 164), (164, oIf1 (fun x => decide (x = 0)) 171 167), (167, oConst (nI 1) 168), (168, oGoto 172), (171, oConst (nI 0) 172), (172, oZret), (173, oIload 2 174), (174, oIf1 (fun x => !(decide (x = 0))) 185 177), (177, oAload 0 178), (178, oGetR 6 0 181), (181, oCallV 0 0 f_X0_joinWhileItSaves 184), (184, oPop 185), (185, oIload 2 186), (186, oIf1 (fun x => !(decide (x = 0))) 193 189), (189, oConst (nI 1) 190), (190, oGoto 194), (193, oConst (nI 0) 194), (194, oZret), (195, oIload 3 196), (196, oIf1 (fun x => !(decide (x = 0))) 214 199), (199, oAload 0 200), (200, oGetR 6 0 203), (203, oCallV 0 0 f_X0_totalSize 206), (206, oIload 2 207), (207, oIf2 (fun x y => decide (y < x)) 214 210), (210, oConst (nI 1) 211), (211, oGoto 215), (214, oConst (nI 0) 215), (215, oZret), (216, oIload 2 217), (217, oConst (nI 1000) 220), (220, oDiv (fun x y => x - x / y * y) 221), (221, oIf1 (fun x => !(decide (x = 0))) 258 224), (224, oAload 0 225), (225, oGetR 6 0 228), (228, oIload 3 229), (229, oCallV 0 1 f_X0_hasPage 232), (232, oIf1 (fun x => decide (x = 0)) 258 235), (235, oAload 0 236), (236, oGetR 6 0 239), (239, oIload 3 240), (240, oCallV 0 1 f_X0_codingOf 243), (243, oIload 2 244), (244, oConst (nI 1000) 247), (247, oDiv (fun x y => x / y) 248), (248, oConst (nI 10) 250), (250, oDiv (fun x y => x - x / y * y) 251), (251, oIf2 (fun x y => !(decide (x = y))) 258 254), (254, oConst (nI 1) 255), (255, oGoto 259), (258, oConst (nI 0) 259), (259, oZret), (260, oIload 3 261), (261, oIf1 (fun x => !(decide (x = 0))) 292 264), (264, oIload 2 265), (265, oConst (nI 10) 267), (267, oDiv (fun x y => x - x / y * y) 268), (268, oIf1 (fun x => !(decide (x = 0))) 292 271), (271, oAload 0 272), (272, oGetR 6 0 275), (275, oIload 2 276), (276, oConst (nI 10) 278), (278, oDiv (fun x y => x / y) 279), (279, oCallV 0 1 f_X0_placeOf 282), (282, oConst (-9999) 285), (285, oIf2 (fun x y => decide (x = y)) 292 288), (288, oConst (nI 1) 289), (289, oGoto 293), (292, oConst (nI 0) 293), (293, oZret), (294, oConst (nI 0) 295), (295, oZret)]
noncomputable def f_X6_succeeds : xRun := xrun k_X6_succeeds 4
set_option maxHeartbeats 4000000 in
set_option maxRecDepth 100000 in
theorem m_X6_succeeds (l : Launch) (g : xG) : xMet l g yX6_succeeds cX6_succeeds 4 (some .boolean) 5 114 f_X6_succeeds := by
  refine xmet_of (own := RX6) (by decide +kernel) rfl (fun p e s m args below meth c r0 C => ?_)
  refine xAll_c (xs_iload_n C dX6_succeeds_0 rfl) ?_
  refine xAll_c (xs_ldc C dX6_succeeds_1 wm916) ?_
  refine xAll_c (xs_irem C dX6_succeeds_3) ?_
  refine xAll_c (xs_istore_n C dX6_succeeds_4 rfl) ?_
  refine xAll_c (xs_iload_n C dX6_succeeds_5 rfl) ?_
  refine xAll_c (xs_sipush C dX6_succeeds_6 (by decide)) ?_
  refine xAll_c (xs_idiv C dX6_succeeds_9) ?_
  refine xAll_c (xs_istore_n C dX6_succeeds_10 rfl) ?_
  refine xAll_c (xs_iload_n C dX6_succeeds_11 rfl) ?_
  refine xAll_c (xs_ldc C dX6_succeeds_12 wm916) ?_
  refine xAll_c (xs_idiv C dX6_succeeds_14) ?_
  refine xAll_c (xs_tab C dX6_succeeds_15 (by decide) (by decide) (by decide)) ?_
  refine xAll_c (xs_iload_n C dX6_succeeds_64 rfl) ?_
  refine xAll_c (xs_if_ne C dX6_succeeds_65 (by decide)) ?_
  refine xAll_c (xs_aload_n C dX6_succeeds_68 rfl) ?_
  refine xAll_c (xs_iload_n C dX6_succeeds_69 rfl) ?_
  refine xAll_c (xs_callV C (m_X6_addsValue l g) dX6_succeeds_70 (rfl : vwCl[6]? = some (RX6, TX6, 1)) (by decide) rfl ⟨(by decide), (by decide), by decide +kernel⟩ wm917 wm919 wp25 wm9 wm920 ⟨Nat.le_of_ble_eq_true rfl, Nat.le_of_ble_eq_true rfl⟩) ?_
  refine xAll_c (xs_if_eq C dX6_succeeds_73 (by decide)) ?_
  refine xAll_c (xs_iconst C dX6_succeeds_76 (by decide)) ?_
  refine xAll_c (xs_goto C dX6_succeeds_77 (by decide)) ?_
  refine xAll_c (xs_iconst C dX6_succeeds_80 (by decide)) ?_
  refine xAll_c (xs_zret C dX6_succeeds_81 rfl) ?_
  refine xAll_c (xs_aload_n C dX6_succeeds_82 rfl) ?_
  refine xAll_c (xs_iload_n C dX6_succeeds_83 rfl) ?_
  refine xAll_c (xs_sipush C dX6_succeeds_84 (by decide)) ?_
  refine xAll_c (xs_idiv C dX6_succeeds_87) ?_
  refine xAll_c (xs_iload_n C dX6_succeeds_88 rfl) ?_
  refine xAll_c (xs_sipush C dX6_succeeds_89 (by decide)) ?_
  refine xAll_c (xs_irem C dX6_succeeds_92) ?_
  refine xAll_c (xs_callV C (m_X6_putsValue l g) dX6_succeeds_93 (rfl : vwCl[6]? = some (RX6, TX6, 1)) (by decide) rfl ⟨(by decide), (by decide), by decide +kernel⟩ wm924 wm926 wp26 wm9 wm927 ⟨Nat.le_of_ble_eq_true rfl, Nat.le_of_ble_eq_true rfl⟩) ?_
  refine xAll_c (xs_zret C dX6_succeeds_96 rfl) ?_
  refine xAll_c (xs_iload_n C dX6_succeeds_97 rfl) ?_
  refine xAll_c (xs_sipush C dX6_succeeds_98 (by decide)) ?_
  refine xAll_c (xs_irem C dX6_succeeds_101) ?_
  refine xAll_c (xs_if_ne C dX6_succeeds_102 (by decide)) ?_
  refine xAll_c (xs_aload_n C dX6_succeeds_105 rfl) ?_
  refine xAll_c (xs_iload_n C dX6_succeeds_106 rfl) ?_
  refine xAll_c (xs_sipush C dX6_succeeds_107 (by decide)) ?_
  refine xAll_c (xs_idiv C dX6_succeeds_110) ?_
  refine xAll_c (xs_callV C (m_X6_removesValue l g) dX6_succeeds_111 (rfl : vwCl[6]? = some (RX6, TX6, 1)) (by decide) rfl ⟨(by decide), (by decide), by decide +kernel⟩ wm930 wm932 wp27 wm9 wm933 ⟨Nat.le_of_ble_eq_true rfl, Nat.le_of_ble_eq_true rfl⟩) ?_
  refine xAll_c (xs_if_eq C dX6_succeeds_114 (by decide)) ?_
  refine xAll_c (xs_iconst C dX6_succeeds_117 (by decide)) ?_
  refine xAll_c (xs_goto C dX6_succeeds_118 (by decide)) ?_
  refine xAll_c (xs_iconst C dX6_succeeds_121 (by decide)) ?_
  refine xAll_c (xs_zret C dX6_succeeds_122 rfl) ?_
  refine xAll_c (xs_iload_n C dX6_succeeds_123 rfl) ?_
  refine xAll_c (xs_bipush C dX6_succeeds_124 (by decide)) ?_
  refine xAll_c (xs_irem C dX6_succeeds_126) ?_
  refine xAll_c (xs_if_ne C dX6_succeeds_127 (by decide)) ?_
  refine xAll_c (xs_aload_n C dX6_succeeds_130 rfl) ?_
  refine xAll_c (xs_iload_n C dX6_succeeds_131 rfl) ?_
  refine xAll_c (xs_iload_n C dX6_succeeds_132 rfl) ?_
  refine xAll_c (xs_bipush C dX6_succeeds_133 (by decide)) ?_
  refine xAll_c (xs_idiv C dX6_succeeds_135) ?_
  refine xAll_c (xs_bipush C dX6_succeeds_136 (by decide)) ?_
  refine xAll_c (xs_irem C dX6_succeeds_138) ?_
  refine xAll_c (xs_callV C (m_X6_cutsPage l g) dX6_succeeds_139 (rfl : vwCl[6]? = some (RX6, TX6, 1)) (by decide) rfl ⟨(by decide), (by decide), by decide +kernel⟩ wm935 wm937 wp28 wm9 wm938 ⟨Nat.le_of_ble_eq_true rfl, Nat.le_of_ble_eq_true rfl⟩) ?_
  refine xAll_c (xs_if_eq C dX6_succeeds_142 (by decide)) ?_
  refine xAll_c (xs_iconst C dX6_succeeds_145 (by decide)) ?_
  refine xAll_c (xs_goto C dX6_succeeds_146 (by decide)) ?_
  refine xAll_c (xs_iconst C dX6_succeeds_149 (by decide)) ?_
  refine xAll_c (xs_zret C dX6_succeeds_150 rfl) ?_
  refine xAll_c (xs_iload_n C dX6_succeeds_151 rfl) ?_
  refine xAll_c (xs_sipush C dX6_succeeds_152 (by decide)) ?_
  refine xAll_c (xs_irem C dX6_succeeds_155) ?_
  refine xAll_c (xs_if_ne C dX6_succeeds_156 (by decide)) ?_
  refine xAll_c (xs_aload_n C dX6_succeeds_159 rfl) ?_
  refine xAll_c (xs_iload_n C dX6_succeeds_160 rfl) ?_
  refine xAll_c (xs_callV C (m_X6_mergesPages l g) dX6_succeeds_161 (rfl : vwCl[6]? = some (RX6, TX6, 1)) (by decide) rfl ⟨(by decide), (by decide), by decide +kernel⟩ wm943 wm945 wp29 wm9 wm946 ⟨Nat.le_of_ble_eq_true rfl, Nat.le_of_ble_eq_true rfl⟩) ?_
  refine xAll_c (xs_if_eq C dX6_succeeds_164 (by decide)) ?_
  refine xAll_c (xs_iconst C dX6_succeeds_167 (by decide)) ?_
  refine xAll_c (xs_goto C dX6_succeeds_168 (by decide)) ?_
  refine xAll_c (xs_iconst C dX6_succeeds_171 (by decide)) ?_
  refine xAll_c (xs_zret C dX6_succeeds_172 rfl) ?_
  refine xAll_c (xs_iload_n C dX6_succeeds_173 rfl) ?_
  refine xAll_c (xs_if_ne C dX6_succeeds_174 (by decide)) ?_
  refine xAll_c (xs_aload_n C dX6_succeeds_177 rfl) ?_
  refine xAll_c (xs_getR C dX6_succeeds_178 (rfl : vwCl[6]? = some (RX6, TX6, 1)) win6 rfl (by decide) (by decide) rfl wm216) ?_
  refine xAll_c (xs_callV C (m_X0_joinWhileItSaves l g) dX6_succeeds_181 (rfl : vwCl[0]? = some (RX0, TX0, 7)) (by decide) rfl ⟨(by decide), (by decide), by decide +kernel⟩ wm949 wm351 wm352 wm2 wm353 ⟨Nat.le_of_ble_eq_true rfl, Nat.le_of_ble_eq_true rfl⟩) ?_
  refine xAll_c (xs_pop C dX6_succeeds_184) ?_
  refine xAll_c (xs_iload_n C dX6_succeeds_185 rfl) ?_
  refine xAll_c (xs_if_ne C dX6_succeeds_186 (by decide)) ?_
  refine xAll_c (xs_iconst C dX6_succeeds_189 (by decide)) ?_
  refine xAll_c (xs_goto C dX6_succeeds_190 (by decide)) ?_
  refine xAll_c (xs_iconst C dX6_succeeds_193 (by decide)) ?_
  refine xAll_c (xs_zret C dX6_succeeds_194 rfl) ?_
  refine xAll_c (xs_iload_n C dX6_succeeds_195 rfl) ?_
  refine xAll_c (xs_if_ne C dX6_succeeds_196 (by decide)) ?_
  refine xAll_c (xs_aload_n C dX6_succeeds_199 rfl) ?_
  refine xAll_c (xs_getR C dX6_succeeds_200 (rfl : vwCl[6]? = some (RX6, TX6, 1)) win6 rfl (by decide) (by decide) rfl wm216) ?_
  refine xAll_c (xs_callV C (m_X0_totalSize l g) dX6_succeeds_203 (rfl : vwCl[0]? = some (RX0, TX0, 7)) (by decide) rfl ⟨(by decide), (by decide), by decide +kernel⟩ wm950 wm555 wm556 wm2 wm557 ⟨Nat.le_of_ble_eq_true rfl, Nat.le_of_ble_eq_true rfl⟩) ?_
  refine xAll_c (xs_iload_n C dX6_succeeds_206 rfl) ?_
  refine xAll_c (xs_icmp_gt C dX6_succeeds_207 (by decide)) ?_
  refine xAll_c (xs_iconst C dX6_succeeds_210 (by decide)) ?_
  refine xAll_c (xs_goto C dX6_succeeds_211 (by decide)) ?_
  refine xAll_c (xs_iconst C dX6_succeeds_214 (by decide)) ?_
  refine xAll_c (xs_zret C dX6_succeeds_215 rfl) ?_
  refine xAll_c (xs_iload_n C dX6_succeeds_216 rfl) ?_
  refine xAll_c (xs_sipush C dX6_succeeds_217 (by decide)) ?_
  refine xAll_c (xs_irem C dX6_succeeds_220) ?_
  refine xAll_c (xs_if_ne C dX6_succeeds_221 (by decide)) ?_
  refine xAll_c (xs_aload_n C dX6_succeeds_224 rfl) ?_
  refine xAll_c (xs_getR C dX6_succeeds_225 (rfl : vwCl[6]? = some (RX6, TX6, 1)) win6 rfl (by decide) (by decide) rfl wm216) ?_
  refine xAll_c (xs_iload_n C dX6_succeeds_228 rfl) ?_
  refine xAll_c (xs_callV C (m_X0_hasPage l g) dX6_succeeds_229 (rfl : vwCl[0]? = some (RX0, TX0, 7)) (by decide) rfl ⟨(by decide), (by decide), by decide +kernel⟩ wm939 wm617 wm618 wm2 wm619 ⟨Nat.le_of_ble_eq_true rfl, Nat.le_of_ble_eq_true rfl⟩) ?_
  refine xAll_c (xs_if_eq C dX6_succeeds_232 (by decide)) ?_
  refine xAll_c (xs_aload_n C dX6_succeeds_235 rfl) ?_
  refine xAll_c (xs_getR C dX6_succeeds_236 (rfl : vwCl[6]? = some (RX6, TX6, 1)) win6 rfl (by decide) (by decide) rfl wm216) ?_
  refine xAll_c (xs_iload_n C dX6_succeeds_239 rfl) ?_
  refine xAll_c (xs_callV C (m_X0_codingOf l g) dX6_succeeds_240 (rfl : vwCl[0]? = some (RX0, TX0, 7)) (by decide) rfl ⟨(by decide), (by decide), by decide +kernel⟩ wm951 wm845 wm846 wm2 wm847 ⟨Nat.le_of_ble_eq_true rfl, Nat.le_of_ble_eq_true rfl⟩) ?_
  refine xAll_c (xs_iload_n C dX6_succeeds_243 rfl) ?_
  refine xAll_c (xs_sipush C dX6_succeeds_244 (by decide)) ?_
  refine xAll_c (xs_idiv C dX6_succeeds_247) ?_
  refine xAll_c (xs_bipush C dX6_succeeds_248 (by decide)) ?_
  refine xAll_c (xs_irem C dX6_succeeds_250) ?_
  refine xAll_c (xs_icmp_ne C dX6_succeeds_251 (by decide)) ?_
  refine xAll_c (xs_iconst C dX6_succeeds_254 (by decide)) ?_
  refine xAll_c (xs_goto C dX6_succeeds_255 (by decide)) ?_
  refine xAll_c (xs_iconst C dX6_succeeds_258 (by decide)) ?_
  refine xAll_c (xs_zret C dX6_succeeds_259 rfl) ?_
  refine xAll_c (xs_iload_n C dX6_succeeds_260 rfl) ?_
  refine xAll_c (xs_if_ne C dX6_succeeds_261 (by decide)) ?_
  refine xAll_c (xs_iload_n C dX6_succeeds_264 rfl) ?_
  refine xAll_c (xs_bipush C dX6_succeeds_265 (by decide)) ?_
  refine xAll_c (xs_irem C dX6_succeeds_267) ?_
  refine xAll_c (xs_if_ne C dX6_succeeds_268 (by decide)) ?_
  refine xAll_c (xs_aload_n C dX6_succeeds_271 rfl) ?_
  refine xAll_c (xs_getR C dX6_succeeds_272 (rfl : vwCl[6]? = some (RX6, TX6, 1)) win6 rfl (by decide) (by decide) rfl wm216) ?_
  refine xAll_c (xs_iload_n C dX6_succeeds_275 rfl) ?_
  refine xAll_c (xs_bipush C dX6_succeeds_276 (by decide)) ?_
  refine xAll_c (xs_idiv C dX6_succeeds_278) ?_
  refine xAll_c (xs_callV C (m_X0_placeOf l g) dX6_succeeds_279 (rfl : vwCl[0]? = some (RX0, TX0, 7)) (by decide) rfl ⟨(by decide), (by decide), by decide +kernel⟩ wm952 wm577 wm578 wm2 wm579 ⟨Nat.le_of_ble_eq_true rfl, Nat.le_of_ble_eq_true rfl⟩) ?_
  refine xAll_c (xs_sipush C dX6_succeeds_282 (by decide)) ?_
  refine xAll_c (xs_icmp_eq C dX6_succeeds_285 (by decide)) ?_
  refine xAll_c (xs_iconst C dX6_succeeds_288 (by decide)) ?_
  refine xAll_c (xs_goto C dX6_succeeds_289 (by decide)) ?_
  refine xAll_c (xs_iconst C dX6_succeeds_292 (by decide)) ?_
  refine xAll_c (xs_zret C dX6_succeeds_293 rfl) ?_
  refine xAll_c (xs_iconst C dX6_succeeds_294 (by decide)) ?_
  refine xAll_c (xs_zret C dX6_succeeds_295 rfl) ?_
  exact trivial
noncomputable def k_X7_isFilled : xCode := [(0, oAload 0 1), (1, oGetR 7 1 4), (4, oIload 1 5), (5, oCallV 5 1 f_X5_get 8), (8, oConst (nI 1) 9), (9, oIf2 (fun x y => !(decide (x = y))) 16 12), (12, oConst (nI 1) 13), (13, oGoto 17), (16, oConst (nI 0) 17), (17, oZret)]
noncomputable def f_X7_isFilled : xRun := xrun k_X7_isFilled 2
set_option maxHeartbeats 4000000 in
set_option maxRecDepth 100000 in
theorem m_X7_isFilled (l : Launch) (g : xG) : xMet l g yX7_isFilled cX7_isFilled 2 (some .boolean) 1 21 f_X7_isFilled := by
  refine xmet_of (own := RX7) (by decide +kernel) rfl (fun p e s m args below meth c r0 C => ?_)
  refine xAll_c (xs_aload_n C dX7_isFilled_0 rfl) ?_
  refine xAll_c (xs_getR C dX7_isFilled_1 (rfl : vwCl[7]? = some (RX7, TX7, 2)) win7 rfl (by decide) (by decide) rfl wm189) ?_
  refine xAll_c (xs_iload_n C dX7_isFilled_4 rfl) ?_
  refine xAll_c (xs_callV C (m_X5_get l g) dX7_isFilled_5 (rfl : vwCl[5]? = some (RX5, TX5, 1)) (by decide) rfl ⟨(by decide), (by decide), by decide +kernel⟩ wm1004 wm280 wm281 wm3 wm282 ⟨Nat.le_of_ble_eq_true rfl, Nat.le_of_ble_eq_true rfl⟩) ?_
  refine xAll_c (xs_iconst C dX7_isFilled_8 (by decide)) ?_
  refine xAll_c (xs_icmp_ne C dX7_isFilled_9 (by decide)) ?_
  refine xAll_c (xs_iconst C dX7_isFilled_12 (by decide)) ?_
  refine xAll_c (xs_goto C dX7_isFilled_13 (by decide)) ?_
  refine xAll_c (xs_iconst C dX7_isFilled_16 (by decide)) ?_
  refine xAll_c (xs_zret C dX7_isFilled_17 rfl) ?_
  exact trivial
noncomputable def k_X8_append : xCode := [(0, oIload 1 1), (1, oIf1 (fun x => decide (x < 0)) 11 4), (4, oIload 1 5), (5, oConst (nI 255) 8), (8, oIf2 (fun x y => decide (x ≤ y)) 21 11), (11, oThrow 1), (21, oAload 0 22), (22, oGetR 8 1 25), (25, oCallV 3 0 f_X3_isFull 28), (28, oIf1 (fun x => decide (x = 0)) 41 31), (31, oThrow 2), (41, oAload 0 42), (42, oGetR 8 1 45), (45, oIload 1 46), (46, oCallV 3 1 f_X3_addCharacter 49), (49, oIret)]
noncomputable def f_X8_append : xRun := xrun k_X8_append 2
set_option maxHeartbeats 4000000 in
set_option maxRecDepth 100000 in
theorem m_X8_append (l : Launch) (hfl : l.stackTraces = false) (g : xG) : xMetX l g yX8_append cX8_append 2 (some .int) 6 90 1 6 f_X8_append := by
  refine xmetX_of (own := RX8) hfl (by decide +kernel) rfl (fun p e s m args below meth c r0 C => ?_)
  refine xAll_c (xs_iload_n C dX8_append_0 rfl) ?_
  refine xAll_c (xs_if_lt C dX8_append_1 (by decide)) ?_
  refine xAll_c (xs_iload_n C dX8_append_4 rfl) ?_
  refine xAll_c (xs_sipush C dX8_append_5 (by decide)) ?_
  refine xAll_c (xs_icmp_le C dX8_append_8 (by decide)) ?_
  refine xAll_c (xs_throw (text := "a character is 0 to 255") C hfl dX8_append_11 dX8_append_14 dX8_append_15 dX8_append_17 dX8_append_20 rfl (by decide +kernel) wm455 wm14 (by decide +kernel) (ths_1_77) ⟨Nat.le_of_ble_eq_true rfl, Nat.le_of_ble_eq_true rfl, Nat.le_of_ble_eq_true rfl, Nat.le_of_ble_eq_true rfl⟩ (Nat.le_refl _) (Nat.le_refl _)) ?_
  refine xAll_c (xs_aload_n C dX8_append_21 rfl) ?_
  refine xAll_c (xs_getR C dX8_append_22 (rfl : vwCl[8]? = some (RX8, TX8, 10)) win8 rfl (by decide) (by decide) rfl wm225) ?_
  refine xAll_c (xs_callV C (m_X3_isFull l g) dX8_append_25 (rfl : vwCl[3]? = some (RX3, TX3, 7)) (by decide) rfl ⟨(by decide), (by decide), by decide +kernel⟩ wm523 wm524 wm525 wm5 wm526 ⟨Nat.le_of_ble_eq_true rfl, Nat.le_of_ble_eq_true rfl⟩) ?_
  refine xAll_c (xs_if_eq C dX8_append_28 (by decide)) ?_
  refine xAll_c (xs_throw (text := "the text is full") C hfl dX8_append_31 dX8_append_34 dX8_append_35 dX8_append_37 dX8_append_40 rfl (by decide +kernel) wm527 wm15 (by decide +kernel) (ths_2_88) ⟨Nat.le_of_ble_eq_true rfl, Nat.le_of_ble_eq_true rfl, Nat.le_of_ble_eq_true rfl, Nat.le_of_ble_eq_true rfl⟩ (Nat.le_refl _) (Nat.le_refl _)) ?_
  refine xAll_c (xs_aload_n C dX8_append_41 rfl) ?_
  refine xAll_c (xs_getR C dX8_append_42 (rfl : vwCl[8]? = some (RX8, TX8, 10)) win8 rfl (by decide) (by decide) rfl wm225) ?_
  refine xAll_c (xs_iload_n C dX8_append_45 rfl) ?_
  refine xAll_c (xs_callV C (m_X3_addCharacter l g) dX8_append_46 (rfl : vwCl[3]? = some (RX3, TX3, 7)) (by decide) rfl ⟨(by decide), (by decide), by decide +kernel⟩ wm543 wm544 wm545 wm5 wm546 ⟨Nat.le_of_ble_eq_true rfl, Nat.le_of_ble_eq_true rfl⟩) ?_
  refine xAll_c (xs_iret C dX8_append_49 rfl) ?_
  exact trivial
noncomputable def k_X8_clearText : xCode := [(0, oAload 0 1), (1, oGetR 8 1 4), (4, oCallV 3 0 f_X3_makeEmpty 7), (7, oIret)]
noncomputable def f_X8_clearText : xRun := xrun k_X8_clearText 1
set_option maxHeartbeats 4000000 in
set_option maxRecDepth 100000 in
theorem m_X8_clearText (l : Launch) (g : xG) : xMet l g yX8_clearText cX8_clearText 1 (some .int) 1 21 f_X8_clearText := by
  refine xmet_of (own := RX8) (by decide +kernel) rfl (fun p e s m args below meth c r0 C => ?_)
  refine xAll_c (xs_aload_n C dX8_clearText_0 rfl) ?_
  refine xAll_c (xs_getR C dX8_clearText_1 (rfl : vwCl[8]? = some (RX8, TX8, 10)) win8 rfl (by decide) (by decide) rfl wm225) ?_
  refine xAll_c (xs_callV C (m_X3_makeEmpty l g) dX8_clearText_4 (rfl : vwCl[3]? = some (RX3, TX3, 7)) (by decide) rfl ⟨(by decide), (by decide), by decide +kernel⟩ wm259 wm260 wm261 wm5 wm262 ⟨Nat.le_of_ble_eq_true rfl, Nat.le_of_ble_eq_true rfl⟩) ?_
  refine xAll_c (xs_iret C dX8_clearText_7 rfl) ?_
  exact trivial
noncomputable def k_X8_errorPosition : xCode := [(0, oAload 0 1), (1, oGetR 8 1 4), (4, oCallV 3 0 f_X3_readPage 7), (7, oIret)]
noncomputable def f_X8_errorPosition : xRun := xrun k_X8_errorPosition 1
set_option maxHeartbeats 4000000 in
set_option maxRecDepth 100000 in
theorem m_X8_errorPosition (l : Launch) (g : xG) : xMet l g yX8_errorPosition cX8_errorPosition 1 (some .int) 6 138 f_X8_errorPosition := by
  refine xmet_of (own := RX8) (by decide +kernel) rfl (fun p e s m args below meth c r0 C => ?_)
  refine xAll_c (xs_aload_n C dX8_errorPosition_0 rfl) ?_
  refine xAll_c (xs_getR C dX8_errorPosition_1 (rfl : vwCl[8]? = some (RX8, TX8, 10)) win8 rfl (by decide) (by decide) rfl wm225) ?_
  refine xAll_c (xs_callV C (m_X3_readPage l g) dX8_errorPosition_4 (rfl : vwCl[3]? = some (RX3, TX3, 7)) (by decide) rfl ⟨(by decide), (by decide), by decide +kernel⟩ wm267 wm268 wm269 wm5 wm270 ⟨Nat.le_of_ble_eq_true rfl, Nat.le_of_ble_eq_true rfl⟩) ?_
  refine xAll_c (xs_iret C dX8_errorPosition_7 rfl) ?_
  exact trivial
noncomputable def k_X8_about : xCode := [(0, oIload 1 1), (1, oTab 0 [52, 60, 68, 76, 84, 95, 103, 111, 119] 127), (52, oAload 0 53), (53, oGetR 8 0 56), (56, oGetI 0 4 59), (59, oIret), (60, oAload 0 61), (61, oGetR 8 0 64), (64, oGetI 0 5 67), (67, oIret), (68, oAload 0 69), (69, oGetR 8 0 72), (72, oGetI 0 6 75), (75, oIret), (76, oAload 0 77), (77, oGetR 8 0 80), (80, oCallV 0 0 f_X0_totalSize 83), (83, oIret), (84, oConst (nI 10) 86), (86, oAload 0 87), (87, oGetR 8 0 90), (90, oGetI 0 4 93), (93, oBin (fun x y => x * y) 94), (94, oIret), (95, oAload 0 96), (96, oGetR 8 0 99), (99, oCallV 0 0 f_X0_pinnedPages 102), (102, oIret), (103, oAload 0 104), (104, oGetR 8 0 107), (107, oCallV 0 0 f_X0_smallestValue 110), (110, oIret), (111, oAload 0 112), (112, oGetR 8 0 115), (115, oCallV 0 0 f_X0_greatestValue 118), (118, oIret), (119, oAload 0 120), (120, oGetR 8 0 123), (123, oCallV 0 0 f_X0_differentValues 126), (126, oIret), (127, oThrow 1)]
noncomputable def f_X8_about : xRun := xrun k_X8_about 2
set_option maxHeartbeats 4000000 in
set_option maxRecDepth 100000 in
theorem m_X8_about (l : Launch) (hfl : l.stackTraces = false) (g : xG) : xMetX l g yX8_about cX8_about 2 (some .int) 6 91 1 6 f_X8_about := by
  refine xmetX_of (own := RX8) hfl (by decide +kernel) rfl (fun p e s m args below meth c r0 C => ?_)
  refine xAll_c (xs_iload_n C dX8_about_0 rfl) ?_
  refine xAll_c (xs_tab C dX8_about_1 (by decide) (by decide) (by decide)) ?_
  refine xAll_c (xs_aload_n C dX8_about_52 rfl) ?_
  refine xAll_c (xs_getR C dX8_about_53 (rfl : vwCl[8]? = some (RX8, TX8, 10)) win8 rfl (by decide) (by decide) rfl wm224) ?_
  refine xAll_c (xs_getIN (host := "CodedColumn") C dX8_about_56 (rfl : vwCl[0]? = some (RX0, TX0, 7)) win0 rfl (by decide) (by decide) rfl (by decide +kernel)) ?_
  refine xAll_c (xs_iret C dX8_about_59 rfl) ?_
  refine xAll_c (xs_aload_n C dX8_about_60 rfl) ?_
  refine xAll_c (xs_getR C dX8_about_61 (rfl : vwCl[8]? = some (RX8, TX8, 10)) win8 rfl (by decide) (by decide) rfl wm224) ?_
  refine xAll_c (xs_getIN (host := "CodedColumn") C dX8_about_64 (rfl : vwCl[0]? = some (RX0, TX0, 7)) win0 rfl (by decide) (by decide) rfl (by decide +kernel)) ?_
  refine xAll_c (xs_iret C dX8_about_67 rfl) ?_
  refine xAll_c (xs_aload_n C dX8_about_68 rfl) ?_
  refine xAll_c (xs_getR C dX8_about_69 (rfl : vwCl[8]? = some (RX8, TX8, 10)) win8 rfl (by decide) (by decide) rfl wm224) ?_
  refine xAll_c (xs_getIN (host := "CodedColumn") C dX8_about_72 (rfl : vwCl[0]? = some (RX0, TX0, 7)) win0 rfl (by decide) (by decide) rfl (by decide +kernel)) ?_
  refine xAll_c (xs_iret C dX8_about_75 rfl) ?_
  refine xAll_c (xs_aload_n C dX8_about_76 rfl) ?_
  refine xAll_c (xs_getR C dX8_about_77 (rfl : vwCl[8]? = some (RX8, TX8, 10)) win8 rfl (by decide) (by decide) rfl wm224) ?_
  refine xAll_c (xs_callV C (m_X0_totalSize l g) dX8_about_80 (rfl : vwCl[0]? = some (RX0, TX0, 7)) (by decide) rfl ⟨(by decide), (by decide), by decide +kernel⟩ wm554 wm555 wm556 wm2 wm557 ⟨Nat.le_of_ble_eq_true rfl, Nat.le_of_ble_eq_true rfl⟩) ?_
  refine xAll_c (xs_iret C dX8_about_83 rfl) ?_
  refine xAll_c (xs_bipush C dX8_about_84 (by decide)) ?_
  refine xAll_c (xs_aload_n C dX8_about_86 rfl) ?_
  refine xAll_c (xs_getR C dX8_about_87 (rfl : vwCl[8]? = some (RX8, TX8, 10)) win8 rfl (by decide) (by decide) rfl wm224) ?_
  refine xAll_c (xs_getIN (host := "CodedColumn") C dX8_about_90 (rfl : vwCl[0]? = some (RX0, TX0, 7)) win0 rfl (by decide) (by decide) rfl (by decide +kernel)) ?_
  refine xAll_c (xs_imul C dX8_about_93) ?_
  refine xAll_c (xs_iret C dX8_about_94 rfl) ?_
  refine xAll_c (xs_aload_n C dX8_about_95 rfl) ?_
  refine xAll_c (xs_getR C dX8_about_96 (rfl : vwCl[8]? = some (RX8, TX8, 10)) win8 rfl (by decide) (by decide) rfl wm224) ?_
  refine xAll_c (xs_callV C (m_X0_pinnedPages l g) dX8_about_99 (rfl : vwCl[0]? = some (RX0, TX0, 7)) (by decide) rfl ⟨(by decide), (by decide), by decide +kernel⟩ wm558 wm559 wm560 wm2 wm561 ⟨Nat.le_of_ble_eq_true rfl, Nat.le_of_ble_eq_true rfl⟩) ?_
  refine xAll_c (xs_iret C dX8_about_102 rfl) ?_
  refine xAll_c (xs_aload_n C dX8_about_103 rfl) ?_
  refine xAll_c (xs_getR C dX8_about_104 (rfl : vwCl[8]? = some (RX8, TX8, 10)) win8 rfl (by decide) (by decide) rfl wm224) ?_
  refine xAll_c (xs_callV C (m_X0_smallestValue l g) dX8_about_107 (rfl : vwCl[0]? = some (RX0, TX0, 7)) (by decide) rfl ⟨(by decide), (by decide), by decide +kernel⟩ wm562 wm563 wm564 wm2 wm565 ⟨Nat.le_of_ble_eq_true rfl, Nat.le_of_ble_eq_true rfl⟩) ?_
  refine xAll_c (xs_iret C dX8_about_110 rfl) ?_
  refine xAll_c (xs_aload_n C dX8_about_111 rfl) ?_
  refine xAll_c (xs_getR C dX8_about_112 (rfl : vwCl[8]? = some (RX8, TX8, 10)) win8 rfl (by decide) (by decide) rfl wm224) ?_
  refine xAll_c (xs_callV C (m_X0_greatestValue l g) dX8_about_115 (rfl : vwCl[0]? = some (RX0, TX0, 7)) (by decide) rfl ⟨(by decide), (by decide), by decide +kernel⟩ wm567 wm568 wm569 wm2 wm570 ⟨Nat.le_of_ble_eq_true rfl, Nat.le_of_ble_eq_true rfl⟩) ?_
  refine xAll_c (xs_iret C dX8_about_118 rfl) ?_
  refine xAll_c (xs_aload_n C dX8_about_119 rfl) ?_
  refine xAll_c (xs_getR C dX8_about_120 (rfl : vwCl[8]? = some (RX8, TX8, 10)) win8 rfl (by decide) (by decide) rfl wm224) ?_
  refine xAll_c (xs_callV C (m_X0_differentValues l g) dX8_about_123 (rfl : vwCl[0]? = some (RX0, TX0, 7)) (by decide) rfl ⟨(by decide), (by decide), by decide +kernel⟩ wm572 wm573 wm574 wm2 wm575 ⟨Nat.le_of_ble_eq_true rfl, Nat.le_of_ble_eq_true rfl⟩) ?_
  refine xAll_c (xs_iret C dX8_about_126 rfl) ?_
  refine xAll_c (xs_throw (text := "what is 0 to 8") C hfl dX8_about_127 dX8_about_130 dX8_about_131 dX8_about_133 dX8_about_136 rfl (by decide +kernel) wm455 wm14 (by decide +kernel) (ths_1_77) ⟨Nat.le_of_ble_eq_true rfl, Nat.le_of_ble_eq_true rfl, Nat.le_of_ble_eq_true rfl, Nat.le_of_ble_eq_true rfl⟩ (Nat.le_refl _) (Nat.le_refl _)) ?_
  exact trivial
noncomputable def k_X8_at : xCode := [(0, oAload 0 1), (1, oGetR 8 0 4), (4, oIload 1 5), (5, oCallV 0 1 f_X0_hasValue 8), (8, oIf1 (fun x => !(decide (x = 0))) 21 11), (11, oThrow 3), (21, oAload 0 22), (22, oGetR 8 0 25), (25, oIload 1 26), (26, oCallV 0 1 f_X0_valueAt 29), (29, oIret)]
noncomputable def f_X8_at : xRun := xrun k_X8_at 2
set_option maxHeartbeats 4000000 in
set_option maxRecDepth 100000 in
theorem m_X8_at (l : Launch) (hfl : l.stackTraces = false) (g : xG) : xMetX l g yX8_at cX8_at 2 (some .int) 6 90 1 6 f_X8_at := by
  refine xmetX_of (own := RX8) hfl (by decide +kernel) rfl (fun p e s m args below meth c r0 C => ?_)
  refine xAll_c (xs_aload_n C dX8_at_0 rfl) ?_
  refine xAll_c (xs_getR C dX8_at_1 (rfl : vwCl[8]? = some (RX8, TX8, 10)) win8 rfl (by decide) (by decide) rfl wm224) ?_
  refine xAll_c (xs_iload_n C dX8_at_4 rfl) ?_
  refine xAll_c (xs_callV C (m_X0_hasValue l g) dX8_at_5 (rfl : vwCl[0]? = some (RX0, TX0, 7)) (by decide) rfl ⟨(by decide), (by decide), by decide +kernel⟩ wm589 wm590 wm591 wm2 wm592 ⟨Nat.le_of_ble_eq_true rfl, Nat.le_of_ble_eq_true rfl⟩) ?_
  refine xAll_c (xs_if_ne C dX8_at_8 (by decide)) ?_
  refine xAll_c (xs_throw (text := "there is no such value") C hfl dX8_at_11 dX8_at_14 dX8_at_15 dX8_at_17 dX8_at_20 rfl (by decide +kernel) wm593 wm17 (by decide +kernel) (ths_3_135) ⟨Nat.le_of_ble_eq_true rfl, Nat.le_of_ble_eq_true rfl, Nat.le_of_ble_eq_true rfl, Nat.le_of_ble_eq_true rfl⟩ (Nat.le_refl _) (Nat.le_refl _)) ?_
  refine xAll_c (xs_aload_n C dX8_at_21 rfl) ?_
  refine xAll_c (xs_getR C dX8_at_22 (rfl : vwCl[8]? = some (RX8, TX8, 10)) win8 rfl (by decide) (by decide) rfl wm224) ?_
  refine xAll_c (xs_iload_n C dX8_at_25 rfl) ?_
  refine xAll_c (xs_callV C (m_X0_valueAt l g) dX8_at_26 (rfl : vwCl[0]? = some (RX0, TX0, 7)) (by decide) rfl ⟨(by decide), (by decide), by decide +kernel⟩ wm438 wm439 wm440 wm2 wm441 ⟨Nat.le_of_ble_eq_true rfl, Nat.le_of_ble_eq_true rfl⟩) ?_
  refine xAll_c (xs_iret C dX8_at_29 rfl) ?_
  exact trivial
noncomputable def k_X8_page : xCode := [(0, oAload 0 1), (1, oGetR 8 0 4), (4, oIload 1 5), (5, oCallV 0 1 f_X0_hasPage 8), (8, oIf1 (fun x => !(decide (x = 0))) 21 11), (11, oThrow 3), (21, oIload 2 22), (22, oIf1 (fun x => decide (x < 0)) 31 25), (25, oIload 2 26), (26, oConst (nI 8) 28), (28, oIf2 (fun x y => decide (x ≤ y)) 41 31), (31, oThrow 1), (41, oAload 0 42), (42, oGetR 8 0 45), (45, oIload 1 46), (46, oCallV 0 1 f_X0_measurePage 49), (49, oAstore 3 4 50), (50, oIload 2 51), (51, oTab 0 [96, 105, 110, 123, 136, 141, 146, 151] 156), (96, oAload 0 97), (97, oGetR 8 0 100), (100, oIload 1 101), (101, oCallV 0 1 f_X0_firstOf 104), (104, oIret), (105, oAload 3 106), (106, oGetI 2 2 109), (109, oIret), (110, oAload 3 111), (111, oAload 0 112), (112, oGetR 8 0 115), (115, oIload 1 116), (116, oCallV 0 1 f_X0_pinOf 119), (119, oCallV 2 1 f_X2_codingWhen 122), (122, oIret), (123, oAload 3 124), (124, oAload 0 125), (125, oGetR 8 0 128), (128, oIload 1 129), (129, oCallV 0 1 f_X0_pinOf 132), (132, oCallV 2 1 f_X2_sizeWhen 135), (135, oIret), (136, oAload 3 137), (137, oGetI 2 4 140), (140, oIret), (141, oAload 3 142), (142, oGetI 2 5 145), (145, oIret), (146, oAload 3 147), (147, oGetI 2 1 150), (150, oIret), (151, oAload 3 152), (152, oGetI 2 6 155), (155, oIret), (156, oAload 0 157), (157, oGetR 8 0 160), (160, oIload 1 161), (161, oCallV 0 1 f_X0_pinOf 164), (164, oIret)]
noncomputable def f_X8_page : xRun := xrun k_X8_page 4
set_option maxHeartbeats 4000000 in
set_option maxRecDepth 100000 in
theorem m_X8_page (l : Launch) (hfl : l.stackTraces = false) (g : xG) : xMetX l g yX8_page cX8_page 4 (some .int) 6 90 1 6 f_X8_page := by
  refine xmetX_of (own := RX8) hfl (by decide +kernel) rfl (fun p e s m args below meth c r0 C => ?_)
  refine xAll_c (xs_aload_n C dX8_page_0 rfl) ?_
  refine xAll_c (xs_getR C dX8_page_1 (rfl : vwCl[8]? = some (RX8, TX8, 10)) win8 rfl (by decide) (by decide) rfl wm224) ?_
  refine xAll_c (xs_iload_n C dX8_page_4 rfl) ?_
  refine xAll_c (xs_callV C (m_X0_hasPage l g) dX8_page_5 (rfl : vwCl[0]? = some (RX0, TX0, 7)) (by decide) rfl ⟨(by decide), (by decide), by decide +kernel⟩ wm616 wm617 wm618 wm2 wm619 ⟨Nat.le_of_ble_eq_true rfl, Nat.le_of_ble_eq_true rfl⟩) ?_
  refine xAll_c (xs_if_ne C dX8_page_8 (by decide)) ?_
  refine xAll_c (xs_throw (text := "there is no such page") C hfl dX8_page_11 dX8_page_14 dX8_page_15 dX8_page_17 dX8_page_20 rfl (by decide +kernel) wm593 wm17 (by decide +kernel) (ths_3_135) ⟨Nat.le_of_ble_eq_true rfl, Nat.le_of_ble_eq_true rfl, Nat.le_of_ble_eq_true rfl, Nat.le_of_ble_eq_true rfl⟩ (Nat.le_refl _) (Nat.le_refl _)) ?_
  refine xAll_c (xs_iload_n C dX8_page_21 rfl) ?_
  refine xAll_c (xs_if_lt C dX8_page_22 (by decide)) ?_
  refine xAll_c (xs_iload_n C dX8_page_25 rfl) ?_
  refine xAll_c (xs_bipush C dX8_page_26 (by decide)) ?_
  refine xAll_c (xs_icmp_le C dX8_page_28 (by decide)) ?_
  refine xAll_c (xs_throw (text := "what is 0 to 8") C hfl dX8_page_31 dX8_page_34 dX8_page_35 dX8_page_37 dX8_page_40 rfl (by decide +kernel) wm455 wm14 (by decide +kernel) (ths_1_77) ⟨Nat.le_of_ble_eq_true rfl, Nat.le_of_ble_eq_true rfl, Nat.le_of_ble_eq_true rfl, Nat.le_of_ble_eq_true rfl⟩ (Nat.le_refl _) (Nat.le_refl _)) ?_
  refine xAll_c (xs_aload_n C dX8_page_41 rfl) ?_
  refine xAll_c (xs_getR C dX8_page_42 (rfl : vwCl[8]? = some (RX8, TX8, 10)) win8 rfl (by decide) (by decide) rfl wm224) ?_
  refine xAll_c (xs_iload_n C dX8_page_45 rfl) ?_
  refine xAll_c (xs_callV C (m_X0_measurePage l g) dX8_page_46 (rfl : vwCl[0]? = some (RX0, TX0, 7)) (by decide) rfl ⟨(by decide), (by decide), by decide +kernel⟩ wm621 wm622 wm623 wm2 wm624 ⟨Nat.le_of_ble_eq_true rfl, Nat.le_of_ble_eq_true rfl⟩) ?_
  refine xAll_c (xs_astore_n C dX8_page_49 rfl) ?_
  refine xAll_c (xs_iload_n C dX8_page_50 rfl) ?_
  refine xAll_c (xs_tab C dX8_page_51 (by decide) (by decide) (by decide)) ?_
  refine xAll_c (xs_aload_n C dX8_page_96 rfl) ?_
  refine xAll_c (xs_getR C dX8_page_97 (rfl : vwCl[8]? = some (RX8, TX8, 10)) win8 rfl (by decide) (by decide) rfl wm224) ?_
  refine xAll_c (xs_iload_n C dX8_page_100 rfl) ?_
  refine xAll_c (xs_callV C (m_X0_firstOf l g) dX8_page_101 (rfl : vwCl[0]? = some (RX0, TX0, 7)) (by decide) rfl ⟨(by decide), (by decide), by decide +kernel⟩ wm625 wm372 wm373 wm2 wm374 ⟨Nat.le_of_ble_eq_true rfl, Nat.le_of_ble_eq_true rfl⟩) ?_
  refine xAll_c (xs_iret C dX8_page_104 rfl) ?_
  refine xAll_c (xs_aload_n C dX8_page_105 rfl) ?_
  refine xAll_c (xs_getIN (host := "CodedColumn") C dX8_page_106 (rfl : vwCl[2]? = some (RX2, TX2, 10)) win2 rfl (by decide) (by decide) rfl (by decide +kernel)) ?_
  refine xAll_c (xs_iret C dX8_page_109 rfl) ?_
  refine xAll_c (xs_aload_n C dX8_page_110 rfl) ?_
  refine xAll_c (xs_aload_n C dX8_page_111 rfl) ?_
  refine xAll_c (xs_getR C dX8_page_112 (rfl : vwCl[8]? = some (RX8, TX8, 10)) win8 rfl (by decide) (by decide) rfl wm224) ?_
  refine xAll_c (xs_iload_n C dX8_page_115 rfl) ?_
  refine xAll_c (xs_callV C (m_X0_pinOf l g) dX8_page_116 (rfl : vwCl[0]? = some (RX0, TX0, 7)) (by decide) rfl ⟨(by decide), (by decide), by decide +kernel⟩ wm626 wm395 wm396 wm2 wm397 ⟨Nat.le_of_ble_eq_true rfl, Nat.le_of_ble_eq_true rfl⟩) ?_
  refine xAll_c (xs_callV C (m_X2_codingWhen l g) dX8_page_119 (rfl : vwCl[2]? = some (RX2, TX2, 10)) (by decide) rfl ⟨(by decide), (by decide), by decide +kernel⟩ wm627 wm403 wm404 wm4 wm405 ⟨Nat.le_of_ble_eq_true rfl, Nat.le_of_ble_eq_true rfl⟩) ?_
  refine xAll_c (xs_iret C dX8_page_122 rfl) ?_
  refine xAll_c (xs_aload_n C dX8_page_123 rfl) ?_
  refine xAll_c (xs_aload_n C dX8_page_124 rfl) ?_
  refine xAll_c (xs_getR C dX8_page_125 (rfl : vwCl[8]? = some (RX8, TX8, 10)) win8 rfl (by decide) (by decide) rfl wm224) ?_
  refine xAll_c (xs_iload_n C dX8_page_128 rfl) ?_
  refine xAll_c (xs_callV C (m_X0_pinOf l g) dX8_page_129 (rfl : vwCl[0]? = some (RX0, TX0, 7)) (by decide) rfl ⟨(by decide), (by decide), by decide +kernel⟩ wm626 wm395 wm396 wm2 wm397 ⟨Nat.le_of_ble_eq_true rfl, Nat.le_of_ble_eq_true rfl⟩) ?_
  refine xAll_c (xs_callV C (m_X2_sizeWhen l g) dX8_page_132 (rfl : vwCl[2]? = some (RX2, TX2, 10)) (by decide) rfl ⟨(by decide), (by decide), by decide +kernel⟩ wm443 wm399 wm400 wm4 wm401 ⟨Nat.le_of_ble_eq_true rfl, Nat.le_of_ble_eq_true rfl⟩) ?_
  refine xAll_c (xs_iret C dX8_page_135 rfl) ?_
  refine xAll_c (xs_aload_n C dX8_page_136 rfl) ?_
  refine xAll_c (xs_getIN (host := "CodedColumn") C dX8_page_137 (rfl : vwCl[2]? = some (RX2, TX2, 10)) win2 rfl (by decide) (by decide) rfl (by decide +kernel)) ?_
  refine xAll_c (xs_iret C dX8_page_140 rfl) ?_
  refine xAll_c (xs_aload_n C dX8_page_141 rfl) ?_
  refine xAll_c (xs_getIN (host := "CodedColumn") C dX8_page_142 (rfl : vwCl[2]? = some (RX2, TX2, 10)) win2 rfl (by decide) (by decide) rfl (by decide +kernel)) ?_
  refine xAll_c (xs_iret C dX8_page_145 rfl) ?_
  refine xAll_c (xs_aload_n C dX8_page_146 rfl) ?_
  refine xAll_c (xs_getIN (host := "CodedColumn") C dX8_page_147 (rfl : vwCl[2]? = some (RX2, TX2, 10)) win2 rfl (by decide) (by decide) rfl (by decide +kernel)) ?_
  refine xAll_c (xs_iret C dX8_page_150 rfl) ?_
  refine xAll_c (xs_aload_n C dX8_page_151 rfl) ?_
  refine xAll_c (xs_getIN (host := "CodedColumn") C dX8_page_152 (rfl : vwCl[2]? = some (RX2, TX2, 10)) win2 rfl (by decide) (by decide) rfl (by decide +kernel)) ?_
  refine xAll_c (xs_iret C dX8_page_155 rfl) ?_
  refine xAll_c (xs_aload_n C dX8_page_156 rfl) ?_
  refine xAll_c (xs_getR C dX8_page_157 (rfl : vwCl[8]? = some (RX8, TX8, 10)) win8 rfl (by decide) (by decide) rfl wm224) ?_
  refine xAll_c (xs_iload_n C dX8_page_160 rfl) ?_
  refine xAll_c (xs_callV C (m_X0_pinOf l g) dX8_page_161 (rfl : vwCl[0]? = some (RX0, TX0, 7)) (by decide) rfl ⟨(by decide), (by decide), by decide +kernel⟩ wm626 wm395 wm396 wm2 wm397 ⟨Nat.le_of_ble_eq_true rfl, Nat.le_of_ble_eq_true rfl⟩) ?_
  refine xAll_c (xs_iret C dX8_page_164 rfl) ?_
  exact trivial
noncomputable def k_X8_bit : xCode := [(0, oAload 0 1), (1, oGetR 8 0 4), (4, oIload 1 5), (5, oCallV 0 1 f_X0_hasPage 8), (8, oIf1 (fun x => !(decide (x = 0))) 21 11), (11, oThrow 3), (21, oIload 2 22), (22, oIf1 (fun x => decide (0 ≤ x)) 35 25), (25, oThrow 1), (35, oAload 0 36), (36, oGetR 8 2 39), (39, oAload 0 40), (40, oGetR 8 0 43), (43, oIload 1 44), (44, oCallU 4 2 f_X4_writePage 47), (47, oIload 2 48), (48, oAload 0 49), (49, oGetR 8 2 52), (52, oGetI 4 1 55), (55, oIf2 (fun x y => decide (y ≤ x)) 72 58), (58, oAload 0 59), (59, oGetR 8 2 62), (62, oGetR 4 0 65), (65, oIload 2 66), (66, oCallV 5 1 f_X5_get 69), (69, oGoto 75), (72, oConst (-9999) 75), (75, oIret)]
noncomputable def f_X8_bit : xRun := xrun k_X8_bit 3
set_option maxHeartbeats 4000000 in
set_option maxRecDepth 100000 in
theorem m_X8_bit (l : Launch) (hfl : l.stackTraces = false) (g : xG) : xMetX l g yX8_bit cX8_bit 3 (some .int) 6 113 1 6 f_X8_bit := by
  refine xmetX_of (own := RX8) hfl (by decide +kernel) rfl (fun p e s m args below meth c r0 C => ?_)
  refine xAll_c (xs_aload_n C dX8_bit_0 rfl) ?_
  refine xAll_c (xs_getR C dX8_bit_1 (rfl : vwCl[8]? = some (RX8, TX8, 10)) win8 rfl (by decide) (by decide) rfl wm224) ?_
  refine xAll_c (xs_iload_n C dX8_bit_4 rfl) ?_
  refine xAll_c (xs_callV C (m_X0_hasPage l g) dX8_bit_5 (rfl : vwCl[0]? = some (RX0, TX0, 7)) (by decide) rfl ⟨(by decide), (by decide), by decide +kernel⟩ wm616 wm617 wm618 wm2 wm619 ⟨Nat.le_of_ble_eq_true rfl, Nat.le_of_ble_eq_true rfl⟩) ?_
  refine xAll_c (xs_if_ne C dX8_bit_8 (by decide)) ?_
  refine xAll_c (xs_throw (text := "there is no such page") C hfl dX8_bit_11 dX8_bit_14 dX8_bit_15 dX8_bit_17 dX8_bit_20 rfl (by decide +kernel) wm593 wm17 (by decide +kernel) (ths_3_135) ⟨Nat.le_of_ble_eq_true rfl, Nat.le_of_ble_eq_true rfl, Nat.le_of_ble_eq_true rfl, Nat.le_of_ble_eq_true rfl⟩ (Nat.le_refl _) (Nat.le_refl _)) ?_
  refine xAll_c (xs_iload_n C dX8_bit_21 rfl) ?_
  refine xAll_c (xs_if_ge C dX8_bit_22 (by decide)) ?_
  refine xAll_c (xs_throw (text := "a bit is numbered from 0") C hfl dX8_bit_25 dX8_bit_28 dX8_bit_29 dX8_bit_31 dX8_bit_34 rfl (by decide +kernel) wm455 wm14 (by decide +kernel) (ths_1_77) ⟨Nat.le_of_ble_eq_true rfl, Nat.le_of_ble_eq_true rfl, Nat.le_of_ble_eq_true rfl, Nat.le_of_ble_eq_true rfl⟩ (Nat.le_refl _) (Nat.le_refl _)) ?_
  refine xAll_c (xs_aload_n C dX8_bit_35 rfl) ?_
  refine xAll_c (xs_getR C dX8_bit_36 (rfl : vwCl[8]? = some (RX8, TX8, 10)) win8 rfl (by decide) (by decide) rfl wm226) ?_
  refine xAll_c (xs_aload_n C dX8_bit_39 rfl) ?_
  refine xAll_c (xs_getR C dX8_bit_40 (rfl : vwCl[8]? = some (RX8, TX8, 10)) win8 rfl (by decide) (by decide) rfl wm224) ?_
  refine xAll_c (xs_iload_n C dX8_bit_43 rfl) ?_
  refine xAll_c (xs_callU C (m_X4_writePage l g) dX8_bit_44 (rfl : vwCl[4]? = some (RX4, TX4, 2)) (by decide) rfl ⟨(by decide), (by decide), by decide +kernel⟩ wm636 wm637 wm638 wm6 wm639 ⟨Nat.le_of_ble_eq_true rfl, Nat.le_of_ble_eq_true rfl⟩) ?_
  refine xAll_c (xs_iload_n C dX8_bit_47 rfl) ?_
  refine xAll_c (xs_aload_n C dX8_bit_48 rfl) ?_
  refine xAll_c (xs_getR C dX8_bit_49 (rfl : vwCl[8]? = some (RX8, TX8, 10)) win8 rfl (by decide) (by decide) rfl wm226) ?_
  refine xAll_c (xs_getIN (host := "CodedColumn") C dX8_bit_52 (rfl : vwCl[4]? = some (RX4, TX4, 2)) win4 rfl (by decide) (by decide) rfl (by decide +kernel)) ?_
  refine xAll_c (xs_icmp_ge C dX8_bit_55 (by decide)) ?_
  refine xAll_c (xs_aload_n C dX8_bit_58 rfl) ?_
  refine xAll_c (xs_getR C dX8_bit_59 (rfl : vwCl[8]? = some (RX8, TX8, 10)) win8 rfl (by decide) (by decide) rfl wm226) ?_
  refine xAll_c (xs_getRN (host := "CodedColumn") C dX8_bit_62 (rfl : vwCl[4]? = some (RX4, TX4, 2)) win4 rfl (by decide) (by decide) rfl (by decide +kernel)) ?_
  refine xAll_c (xs_iload_n C dX8_bit_65 rfl) ?_
  refine xAll_c (xs_callV C (m_X5_get l g) dX8_bit_66 (rfl : vwCl[5]? = some (RX5, TX5, 1)) (by decide) rfl ⟨(by decide), (by decide), by decide +kernel⟩ wm444 wm280 wm281 wm3 wm282 ⟨Nat.le_of_ble_eq_true rfl, Nat.le_of_ble_eq_true rfl⟩) ?_
  refine xAll_c (xs_goto C dX8_bit_69 (by decide)) ?_
  refine xAll_c (xs_sipush C dX8_bit_72 (by decide)) ?_
  refine xAll_c (xs_iret C dX8_bit_75 rfl) ?_
  exact trivial
noncomputable def k_X8_isCoding : xCode := [(0, oIload 0 1), (1, oIf1 (fun x => decide (x < 0)) 13 4), (4, oIload 0 5), (5, oConst (nI 4) 6), (6, oIf2 (fun x y => decide (y < x)) 13 9), (9, oConst (nI 1) 10), (10, oGoto 14), (13, oConst (nI 0) 14), (14, oZret)]
noncomputable def f_X8_isCoding : xRun := xrun k_X8_isCoding 1
set_option maxHeartbeats 4000000 in
set_option maxRecDepth 100000 in
theorem m_X8_isCoding (l : Launch) (g : xG) : xMet l g yX8_isCoding cX8_isCoding 1 (some .boolean) 0 0 f_X8_isCoding := by
  refine xmet_of (own := RX8) (by decide +kernel) rfl (fun p e s m args below meth c r0 C => ?_)
  refine xAll_c (xs_iload_n C dX8_isCoding_0 rfl) ?_
  refine xAll_c (xs_if_lt C dX8_isCoding_1 (by decide)) ?_
  refine xAll_c (xs_iload_n C dX8_isCoding_4 rfl) ?_
  refine xAll_c (xs_iconst C dX8_isCoding_5 (by decide)) ?_
  refine xAll_c (xs_icmp_gt C dX8_isCoding_6 (by decide)) ?_
  refine xAll_c (xs_iconst C dX8_isCoding_9 (by decide)) ?_
  refine xAll_c (xs_goto C dX8_isCoding_10 (by decide)) ?_
  refine xAll_c (xs_iconst C dX8_isCoding_13 (by decide)) ?_
  refine xAll_c (xs_zret C dX8_isCoding_14 rfl) ?_
  exact trivial
noncomputable def k_X8_size : xCode := [(0, oAload 0 1), (1, oGetR 8 0 4), (4, oIload 1 5), (5, oCallV 0 1 f_X0_hasPage 8), (8, oIf1 (fun x => !(decide (x = 0))) 21 11), (11, oThrow 3), (21, oIload 2 22), (22, oCallSV 1 f_X8_isCoding 25), (25, oIf1 (fun x => !(decide (x = 0))) 38 28), (28, oThrow 1), (38, oAload 0 39), (39, oGetR 8 0 42), (42, oIload 1 43), (43, oCallV 0 1 f_X0_measurePage 46), (46, oIload 2 47), (47, oCallV 2 1 f_X2_sizeBy 50), (50, oIret)]
noncomputable def f_X8_size : xRun := xrun k_X8_size 3
set_option maxHeartbeats 4000000 in
set_option maxRecDepth 100000 in
theorem m_X8_size (l : Launch) (hfl : l.stackTraces = false) (g : xG) : xMetX l g yX8_size cX8_size 3 (some .int) 6 90 1 6 f_X8_size := by
  refine xmetX_of (own := RX8) hfl (by decide +kernel) rfl (fun p e s m args below meth c r0 C => ?_)
  refine xAll_c (xs_aload_n C dX8_size_0 rfl) ?_
  refine xAll_c (xs_getR C dX8_size_1 (rfl : vwCl[8]? = some (RX8, TX8, 10)) win8 rfl (by decide) (by decide) rfl wm224) ?_
  refine xAll_c (xs_iload_n C dX8_size_4 rfl) ?_
  refine xAll_c (xs_callV C (m_X0_hasPage l g) dX8_size_5 (rfl : vwCl[0]? = some (RX0, TX0, 7)) (by decide) rfl ⟨(by decide), (by decide), by decide +kernel⟩ wm616 wm617 wm618 wm2 wm619 ⟨Nat.le_of_ble_eq_true rfl, Nat.le_of_ble_eq_true rfl⟩) ?_
  refine xAll_c (xs_if_ne C dX8_size_8 (by decide)) ?_
  refine xAll_c (xs_throw (text := "there is no such page") C hfl dX8_size_11 dX8_size_14 dX8_size_15 dX8_size_17 dX8_size_20 rfl (by decide +kernel) wm593 wm17 (by decide +kernel) (ths_3_135) ⟨Nat.le_of_ble_eq_true rfl, Nat.le_of_ble_eq_true rfl, Nat.le_of_ble_eq_true rfl, Nat.le_of_ble_eq_true rfl⟩ (Nat.le_refl _) (Nat.le_refl _)) ?_
  refine xAll_c (xs_iload_n C dX8_size_21 rfl) ?_
  refine xAll_c (xs_callSV C (m_X8_isCoding l g) dX8_size_22 rfl ⟨(by decide), (by decide), by decide +kernel⟩ wm682 wm683 wm1 wm684 ⟨Nat.le_of_ble_eq_true rfl, Nat.le_of_ble_eq_true rfl⟩) ?_
  refine xAll_c (xs_if_ne C dX8_size_25 (by decide)) ?_
  refine xAll_c (xs_throw (text := "a coding is 0 to 4") C hfl dX8_size_28 dX8_size_31 dX8_size_32 dX8_size_34 dX8_size_37 rfl (by decide +kernel) wm455 wm14 (by decide +kernel) (ths_1_77) ⟨Nat.le_of_ble_eq_true rfl, Nat.le_of_ble_eq_true rfl, Nat.le_of_ble_eq_true rfl, Nat.le_of_ble_eq_true rfl⟩ (Nat.le_refl _) (Nat.le_refl _)) ?_
  refine xAll_c (xs_aload_n C dX8_size_38 rfl) ?_
  refine xAll_c (xs_getR C dX8_size_39 (rfl : vwCl[8]? = some (RX8, TX8, 10)) win8 rfl (by decide) (by decide) rfl wm224) ?_
  refine xAll_c (xs_iload_n C dX8_size_42 rfl) ?_
  refine xAll_c (xs_callV C (m_X0_measurePage l g) dX8_size_43 (rfl : vwCl[0]? = some (RX0, TX0, 7)) (by decide) rfl ⟨(by decide), (by decide), by decide +kernel⟩ wm621 wm622 wm623 wm2 wm624 ⟨Nat.le_of_ble_eq_true rfl, Nat.le_of_ble_eq_true rfl⟩) ?_
  refine xAll_c (xs_iload_n C dX8_size_46 rfl) ?_
  refine xAll_c (xs_callV C (m_X2_sizeBy l g) dX8_size_47 (rfl : vwCl[2]? = some (RX2, TX2, 10)) (by decide) rfl ⟨(by decide), (by decide), by decide +kernel⟩ wm686 wm407 wm408 wm4 wm409 ⟨Nat.le_of_ble_eq_true rfl, Nat.le_of_ble_eq_true rfl⟩) ?_
  refine xAll_c (xs_iret C dX8_size_50 rfl) ?_
  exact trivial
noncomputable def k_X8_scan : xCode := [(0, oIload 1 1), (1, oCallSV 1 f_X8_isValue 4), (4, oIf1 (fun x => !(decide (x = 0))) 17 7), (7, oThrow 1), (17, oIload 2 18), (18, oIf1 (fun x => decide (x = 0)) 32 21), (21, oAload 0 22), (22, oGetR 8 0 25), (25, oIload 1 26), (26, oCallV 0 1 f_X0_timesOf 29), (29, oGoto 40), (32, oAload 0 33), (33, oGetR 8 0 36), (36, oIload 1 37), (37, oCallV 0 1 f_X0_scanCost 40), (40, oIret)]
noncomputable def f_X8_scan : xRun := xrun k_X8_scan 3
set_option maxHeartbeats 4000000 in
set_option maxRecDepth 100000 in
theorem m_X8_scan (l : Launch) (hfl : l.stackTraces = false) (g : xG) : xMetX l g yX8_scan cX8_scan 3 (some .int) 6 112 1 6 f_X8_scan := by
  refine xmetX_of (own := RX8) hfl (by decide +kernel) rfl (fun p e s m args below meth c r0 C => ?_)
  refine xAll_c (xs_iload_n C dX8_scan_0 rfl) ?_
  refine xAll_c (xs_callSV C (m_X8_isValue l g) dX8_scan_1 rfl ⟨(by decide), (by decide), by decide +kernel⟩ wm694 wm695 wm1 wm696 ⟨Nat.le_of_ble_eq_true rfl, Nat.le_of_ble_eq_true rfl⟩) ?_
  refine xAll_c (xs_if_ne C dX8_scan_4 (by decide)) ?_
  refine xAll_c (xs_throw (text := "a value is 0 to 1023") C hfl dX8_scan_7 dX8_scan_10 dX8_scan_11 dX8_scan_13 dX8_scan_16 rfl (by decide +kernel) wm455 wm14 (by decide +kernel) (ths_1_77) ⟨Nat.le_of_ble_eq_true rfl, Nat.le_of_ble_eq_true rfl, Nat.le_of_ble_eq_true rfl, Nat.le_of_ble_eq_true rfl⟩ (Nat.le_refl _) (Nat.le_refl _)) ?_
  refine xAll_c (xs_iload_n C dX8_scan_17 rfl) ?_
  refine xAll_c (xs_if_eq C dX8_scan_18 (by decide)) ?_
  refine xAll_c (xs_aload_n C dX8_scan_21 rfl) ?_
  refine xAll_c (xs_getR C dX8_scan_22 (rfl : vwCl[8]? = some (RX8, TX8, 10)) win8 rfl (by decide) (by decide) rfl wm224) ?_
  refine xAll_c (xs_iload_n C dX8_scan_25 rfl) ?_
  refine xAll_c (xs_callV C (m_X0_timesOf l g) dX8_scan_26 (rfl : vwCl[0]? = some (RX0, TX0, 7)) (by decide) rfl ⟨(by decide), (by decide), by decide +kernel⟩ wm698 wm699 wm700 wm2 wm701 ⟨Nat.le_of_ble_eq_true rfl, Nat.le_of_ble_eq_true rfl⟩) ?_
  refine xAll_c (xs_goto C dX8_scan_29 (by decide)) ?_
  refine xAll_c (xs_aload_n C dX8_scan_32 rfl) ?_
  refine xAll_c (xs_getR C dX8_scan_33 (rfl : vwCl[8]? = some (RX8, TX8, 10)) win8 rfl (by decide) (by decide) rfl wm224) ?_
  refine xAll_c (xs_iload_n C dX8_scan_36 rfl) ?_
  refine xAll_c (xs_callV C (m_X0_scanCost l g) dX8_scan_37 (rfl : vwCl[0]? = some (RX0, TX0, 7)) (by decide) rfl ⟨(by decide), (by decide), by decide +kernel⟩ wm702 wm703 wm704 wm2 wm705 ⟨Nat.le_of_ble_eq_true rfl, Nat.le_of_ble_eq_true rfl⟩) ?_
  refine xAll_c (xs_iret C dX8_scan_40 rfl) ?_
  exact trivial
noncomputable def k_X8_sum : xCode := [(0, oAload 0 1), (1, oGetR 8 0 4), (4, oIload 1 5), (5, oCallV 0 1 f_X0_hasValue 8), (8, oIf1 (fun x => decide (x = 0)) 22 11), (11, oAload 0 12), (12, oGetR 8 0 15), (15, oIload 2 16), (16, oCallV 0 1 f_X0_hasValue 19), (19, oIf1 (fun x => !(decide (x = 0))) 32 22), (22, oThrow 3), (32, oConst (nI 0) 33), (33, oIstore 3 5 34), (34, oIload 1 35), (35, oIstore 4 5 37), (37, oIload 4 39), (39, oIload 2 40), (40, oIf2 (fun x y => decide (y < x)) 61 43), (43, oIload 3 44), (44, oAload 0 45), (45, oGetR 8 0 48), (48, oIload 4 50), (50, oCallV 0 1 f_X0_valueAt 53), (53, oBin (fun x y => x + y) 54), (54, oIstore 3 5 55), (55, oIinc 4 (nI 1) 5 58), (58, oGoto 37), (61, oIload 3 62), (62, oIret)]
noncomputable def f_X8_sum : xRun := xrun k_X8_sum 5
set_option maxHeartbeats 4000000 in
set_option maxRecDepth 100000 in
theorem m_X8_sum (l : Launch) (hfl : l.stackTraces = false) (g : xG) : xMetX l g yX8_sum cX8_sum 5 (some .int) 6 90 1 6 f_X8_sum := by
  refine xmetX_of (own := RX8) hfl (by decide +kernel) rfl (fun p e s m args below meth c r0 C => ?_)
  refine xAll_c (xs_aload_n C dX8_sum_0 rfl) ?_
  refine xAll_c (xs_getR C dX8_sum_1 (rfl : vwCl[8]? = some (RX8, TX8, 10)) win8 rfl (by decide) (by decide) rfl wm224) ?_
  refine xAll_c (xs_iload_n C dX8_sum_4 rfl) ?_
  refine xAll_c (xs_callV C (m_X0_hasValue l g) dX8_sum_5 (rfl : vwCl[0]? = some (RX0, TX0, 7)) (by decide) rfl ⟨(by decide), (by decide), by decide +kernel⟩ wm589 wm590 wm591 wm2 wm592 ⟨Nat.le_of_ble_eq_true rfl, Nat.le_of_ble_eq_true rfl⟩) ?_
  refine xAll_c (xs_if_eq C dX8_sum_8 (by decide)) ?_
  refine xAll_c (xs_aload_n C dX8_sum_11 rfl) ?_
  refine xAll_c (xs_getR C dX8_sum_12 (rfl : vwCl[8]? = some (RX8, TX8, 10)) win8 rfl (by decide) (by decide) rfl wm224) ?_
  refine xAll_c (xs_iload_n C dX8_sum_15 rfl) ?_
  refine xAll_c (xs_callV C (m_X0_hasValue l g) dX8_sum_16 (rfl : vwCl[0]? = some (RX0, TX0, 7)) (by decide) rfl ⟨(by decide), (by decide), by decide +kernel⟩ wm589 wm590 wm591 wm2 wm592 ⟨Nat.le_of_ble_eq_true rfl, Nat.le_of_ble_eq_true rfl⟩) ?_
  refine xAll_c (xs_if_ne C dX8_sum_19 (by decide)) ?_
  refine xAll_c (xs_throw (text := "there is no such value") C hfl dX8_sum_22 dX8_sum_25 dX8_sum_26 dX8_sum_28 dX8_sum_31 rfl (by decide +kernel) wm593 wm17 (by decide +kernel) (ths_3_135) ⟨Nat.le_of_ble_eq_true rfl, Nat.le_of_ble_eq_true rfl, Nat.le_of_ble_eq_true rfl, Nat.le_of_ble_eq_true rfl⟩ (Nat.le_refl _) (Nat.le_refl _)) ?_
  refine xAll_c (xs_iconst C dX8_sum_32 (by decide)) ?_
  refine xAll_c (xs_istore_n C dX8_sum_33 rfl) ?_
  refine xAll_c (xs_iload_n C dX8_sum_34 rfl) ?_
  refine xAll_c (xs_istore C dX8_sum_35) ?_
  refine xAll_c (xs_iload C dX8_sum_37) ?_
  refine xAll_c (xs_iload_n C dX8_sum_39 rfl) ?_
  refine xAll_c (xs_icmp_gt C dX8_sum_40 (by decide)) ?_
  refine xAll_c (xs_iload_n C dX8_sum_43 rfl) ?_
  refine xAll_c (xs_aload_n C dX8_sum_44 rfl) ?_
  refine xAll_c (xs_getR C dX8_sum_45 (rfl : vwCl[8]? = some (RX8, TX8, 10)) win8 rfl (by decide) (by decide) rfl wm224) ?_
  refine xAll_c (xs_iload C dX8_sum_48) ?_
  refine xAll_c (xs_callV C (m_X0_valueAt l g) dX8_sum_50 (rfl : vwCl[0]? = some (RX0, TX0, 7)) (by decide) rfl ⟨(by decide), (by decide), by decide +kernel⟩ wm438 wm439 wm440 wm2 wm441 ⟨Nat.le_of_ble_eq_true rfl, Nat.le_of_ble_eq_true rfl⟩) ?_
  refine xAll_c (xs_iadd C dX8_sum_53) ?_
  refine xAll_c (xs_istore_n C dX8_sum_54 rfl) ?_
  refine xAll_c (xs_iinc C dX8_sum_55 rfl) ?_
  refine xAll_c (xs_goto C dX8_sum_58 (by decide)) ?_
  refine xAll_c (xs_iload_n C dX8_sum_61 rfl) ?_
  refine xAll_c (xs_iret C dX8_sum_62 rfl) ?_
  exact trivial
noncomputable def k_X8_add : xCode := [(0, oIload 1 1), (1, oCallSV 1 f_X8_isValue 4), (4, oIf1 (fun x => !(decide (x = 0))) 17 7), (7, oThrow 1), (17, oAload 0 18), (18, oGetR 8 0 21), (21, oCallV 0 0 f_X0_canAppend 24), (24, oIf1 (fun x => !(decide (x = 0))) 37 27), (27, oThrow 2), (37, oAload 0 38), (38, oGetR 8 3 41), (41, oAload 0 42), (42, oGetR 8 0 45), (45, oCallU 1 1 f_X1_remember 48), (48, oAload 0 49), (49, oGetR 8 0 52), (52, oIload 1 53), (53, oCallV 0 1 f_X0_appendValue 56), (56, oIret)]
noncomputable def f_X8_add : xRun := xrun k_X8_add 2
set_option maxHeartbeats 4000000 in
set_option maxRecDepth 100000 in
theorem m_X8_add (l : Launch) (hfl : l.stackTraces = false) (g : xG) : xMetX l g yX8_add cX8_add 2 (some .int) 6 108 1 6 f_X8_add := by
  refine xmetX_of (own := RX8) hfl (by decide +kernel) rfl (fun p e s m args below meth c r0 C => ?_)
  refine xAll_c (xs_iload_n C dX8_add_0 rfl) ?_
  refine xAll_c (xs_callSV C (m_X8_isValue l g) dX8_add_1 rfl ⟨(by decide), (by decide), by decide +kernel⟩ wm694 wm695 wm1 wm696 ⟨Nat.le_of_ble_eq_true rfl, Nat.le_of_ble_eq_true rfl⟩) ?_
  refine xAll_c (xs_if_ne C dX8_add_4 (by decide)) ?_
  refine xAll_c (xs_throw (text := "a value is 0 to 1023") C hfl dX8_add_7 dX8_add_10 dX8_add_11 dX8_add_13 dX8_add_16 rfl (by decide +kernel) wm455 wm14 (by decide +kernel) (ths_1_77) ⟨Nat.le_of_ble_eq_true rfl, Nat.le_of_ble_eq_true rfl, Nat.le_of_ble_eq_true rfl, Nat.le_of_ble_eq_true rfl⟩ (Nat.le_refl _) (Nat.le_refl _)) ?_
  refine xAll_c (xs_aload_n C dX8_add_17 rfl) ?_
  refine xAll_c (xs_getR C dX8_add_18 (rfl : vwCl[8]? = some (RX8, TX8, 10)) win8 rfl (by decide) (by decide) rfl wm224) ?_
  refine xAll_c (xs_callV C (m_X0_canAppend l g) dX8_add_21 (rfl : vwCl[0]? = some (RX0, TX0, 7)) (by decide) rfl ⟨(by decide), (by decide), by decide +kernel⟩ wm727 wm728 wm729 wm2 wm730 ⟨Nat.le_of_ble_eq_true rfl, Nat.le_of_ble_eq_true rfl⟩) ?_
  refine xAll_c (xs_if_ne C dX8_add_24 (by decide)) ?_
  refine xAll_c (xs_throw (text := "a new page would be the 11th") C hfl dX8_add_27 dX8_add_30 dX8_add_31 dX8_add_33 dX8_add_36 rfl (by decide +kernel) wm527 wm15 (by decide +kernel) (ths_2_88) ⟨Nat.le_of_ble_eq_true rfl, Nat.le_of_ble_eq_true rfl, Nat.le_of_ble_eq_true rfl, Nat.le_of_ble_eq_true rfl⟩ (Nat.le_refl _) (Nat.le_refl _)) ?_
  refine xAll_c (xs_aload_n C dX8_add_37 rfl) ?_
  refine xAll_c (xs_getR C dX8_add_38 (rfl : vwCl[8]? = some (RX8, TX8, 10)) win8 rfl (by decide) (by decide) rfl wm227) ?_
  refine xAll_c (xs_aload_n C dX8_add_41 rfl) ?_
  refine xAll_c (xs_getR C dX8_add_42 (rfl : vwCl[8]? = some (RX8, TX8, 10)) win8 rfl (by decide) (by decide) rfl wm224) ?_
  refine xAll_c (xs_callU C (m_X1_remember l g) dX8_add_45 (rfl : vwCl[1]? = some (RX1, TX1, 3)) (by decide) rfl ⟨(by decide), (by decide), by decide +kernel⟩ wm325 wm326 wm327 wm7 wm328 ⟨Nat.le_of_ble_eq_true rfl, Nat.le_of_ble_eq_true rfl⟩) ?_
  refine xAll_c (xs_aload_n C dX8_add_48 rfl) ?_
  refine xAll_c (xs_getR C dX8_add_49 (rfl : vwCl[8]? = some (RX8, TX8, 10)) win8 rfl (by decide) (by decide) rfl wm224) ?_
  refine xAll_c (xs_iload_n C dX8_add_52 rfl) ?_
  refine xAll_c (xs_callV C (m_X0_appendValue l g) dX8_add_53 (rfl : vwCl[0]? = some (RX0, TX0, 7)) (by decide) rfl ⟨(by decide), (by decide), by decide +kernel⟩ wm740 wm741 wm742 wm2 wm743 ⟨Nat.le_of_ble_eq_true rfl, Nat.le_of_ble_eq_true rfl⟩) ?_
  refine xAll_c (xs_iret C dX8_add_56 rfl) ?_
  exact trivial
noncomputable def k_X8_put : xCode := [(0, oAload 0 1), (1, oGetR 8 0 4), (4, oIload 1 5), (5, oCallV 0 1 f_X0_hasValue 8), (8, oIf1 (fun x => !(decide (x = 0))) 21 11), (11, oThrow 3), (21, oIload 2 22), (22, oCallSV 1 f_X8_isValue 25), (25, oIf1 (fun x => !(decide (x = 0))) 38 28), (28, oThrow 1), (38, oAload 0 39), (39, oGetR 8 3 42), (42, oAload 0 43), (43, oGetR 8 0 46), (46, oCallU 1 1 f_X1_remember 49), (49, oAload 0 50), (50, oGetR 8 0 53), (53, oIload 1 54), (54, oIload 2 55), (55, oCallV 0 2 f_X0_changeValue 58), (58, oIret)]
noncomputable def f_X8_put : xRun := xrun k_X8_put 3
set_option maxHeartbeats 4000000 in
set_option maxRecDepth 100000 in
theorem m_X8_put (l : Launch) (hfl : l.stackTraces = false) (g : xG) : xMetX l g yX8_put cX8_put 3 (some .int) 6 108 1 6 f_X8_put := by
  refine xmetX_of (own := RX8) hfl (by decide +kernel) rfl (fun p e s m args below meth c r0 C => ?_)
  refine xAll_c (xs_aload_n C dX8_put_0 rfl) ?_
  refine xAll_c (xs_getR C dX8_put_1 (rfl : vwCl[8]? = some (RX8, TX8, 10)) win8 rfl (by decide) (by decide) rfl wm224) ?_
  refine xAll_c (xs_iload_n C dX8_put_4 rfl) ?_
  refine xAll_c (xs_callV C (m_X0_hasValue l g) dX8_put_5 (rfl : vwCl[0]? = some (RX0, TX0, 7)) (by decide) rfl ⟨(by decide), (by decide), by decide +kernel⟩ wm589 wm590 wm591 wm2 wm592 ⟨Nat.le_of_ble_eq_true rfl, Nat.le_of_ble_eq_true rfl⟩) ?_
  refine xAll_c (xs_if_ne C dX8_put_8 (by decide)) ?_
  refine xAll_c (xs_throw (text := "there is no such value") C hfl dX8_put_11 dX8_put_14 dX8_put_15 dX8_put_17 dX8_put_20 rfl (by decide +kernel) wm593 wm17 (by decide +kernel) (ths_3_135) ⟨Nat.le_of_ble_eq_true rfl, Nat.le_of_ble_eq_true rfl, Nat.le_of_ble_eq_true rfl, Nat.le_of_ble_eq_true rfl⟩ (Nat.le_refl _) (Nat.le_refl _)) ?_
  refine xAll_c (xs_iload_n C dX8_put_21 rfl) ?_
  refine xAll_c (xs_callSV C (m_X8_isValue l g) dX8_put_22 rfl ⟨(by decide), (by decide), by decide +kernel⟩ wm694 wm695 wm1 wm696 ⟨Nat.le_of_ble_eq_true rfl, Nat.le_of_ble_eq_true rfl⟩) ?_
  refine xAll_c (xs_if_ne C dX8_put_25 (by decide)) ?_
  refine xAll_c (xs_throw (text := "a value is 0 to 1023") C hfl dX8_put_28 dX8_put_31 dX8_put_32 dX8_put_34 dX8_put_37 rfl (by decide +kernel) wm455 wm14 (by decide +kernel) (ths_1_77) ⟨Nat.le_of_ble_eq_true rfl, Nat.le_of_ble_eq_true rfl, Nat.le_of_ble_eq_true rfl, Nat.le_of_ble_eq_true rfl⟩ (Nat.le_refl _) (Nat.le_refl _)) ?_
  refine xAll_c (xs_aload_n C dX8_put_38 rfl) ?_
  refine xAll_c (xs_getR C dX8_put_39 (rfl : vwCl[8]? = some (RX8, TX8, 10)) win8 rfl (by decide) (by decide) rfl wm227) ?_
  refine xAll_c (xs_aload_n C dX8_put_42 rfl) ?_
  refine xAll_c (xs_getR C dX8_put_43 (rfl : vwCl[8]? = some (RX8, TX8, 10)) win8 rfl (by decide) (by decide) rfl wm224) ?_
  refine xAll_c (xs_callU C (m_X1_remember l g) dX8_put_46 (rfl : vwCl[1]? = some (RX1, TX1, 3)) (by decide) rfl ⟨(by decide), (by decide), by decide +kernel⟩ wm325 wm326 wm327 wm7 wm328 ⟨Nat.le_of_ble_eq_true rfl, Nat.le_of_ble_eq_true rfl⟩) ?_
  refine xAll_c (xs_aload_n C dX8_put_49 rfl) ?_
  refine xAll_c (xs_getR C dX8_put_50 (rfl : vwCl[8]? = some (RX8, TX8, 10)) win8 rfl (by decide) (by decide) rfl wm224) ?_
  refine xAll_c (xs_iload_n C dX8_put_53 rfl) ?_
  refine xAll_c (xs_iload_n C dX8_put_54 rfl) ?_
  refine xAll_c (xs_callV C (m_X0_changeValue l g) dX8_put_55 (rfl : vwCl[0]? = some (RX0, TX0, 7)) (by decide) rfl ⟨(by decide), (by decide), by decide +kernel⟩ wm759 wm760 wm761 wm2 wm762 ⟨Nat.le_of_ble_eq_true rfl, Nat.le_of_ble_eq_true rfl⟩) ?_
  refine xAll_c (xs_iret C dX8_put_58 rfl) ?_
  exact trivial
noncomputable def k_X8_remove : xCode := [(0, oAload 0 1), (1, oGetR 8 0 4), (4, oIload 1 5), (5, oCallV 0 1 f_X0_hasValue 8), (8, oIf1 (fun x => !(decide (x = 0))) 21 11), (11, oThrow 3), (21, oAload 0 22), (22, oGetR 8 3 25), (25, oAload 0 26), (26, oGetR 8 0 29), (29, oCallU 1 1 f_X1_remember 32), (32, oAload 0 33), (33, oGetR 8 0 36), (36, oIload 1 37), (37, oCallV 0 1 f_X0_dropValue 40), (40, oIret)]
noncomputable def f_X8_remove : xRun := xrun k_X8_remove 2
set_option maxHeartbeats 4000000 in
set_option maxRecDepth 100000 in
theorem m_X8_remove (l : Launch) (hfl : l.stackTraces = false) (g : xG) : xMetX l g yX8_remove cX8_remove 2 (some .int) 6 108 1 6 f_X8_remove := by
  refine xmetX_of (own := RX8) hfl (by decide +kernel) rfl (fun p e s m args below meth c r0 C => ?_)
  refine xAll_c (xs_aload_n C dX8_remove_0 rfl) ?_
  refine xAll_c (xs_getR C dX8_remove_1 (rfl : vwCl[8]? = some (RX8, TX8, 10)) win8 rfl (by decide) (by decide) rfl wm224) ?_
  refine xAll_c (xs_iload_n C dX8_remove_4 rfl) ?_
  refine xAll_c (xs_callV C (m_X0_hasValue l g) dX8_remove_5 (rfl : vwCl[0]? = some (RX0, TX0, 7)) (by decide) rfl ⟨(by decide), (by decide), by decide +kernel⟩ wm589 wm590 wm591 wm2 wm592 ⟨Nat.le_of_ble_eq_true rfl, Nat.le_of_ble_eq_true rfl⟩) ?_
  refine xAll_c (xs_if_ne C dX8_remove_8 (by decide)) ?_
  refine xAll_c (xs_throw (text := "there is no such value") C hfl dX8_remove_11 dX8_remove_14 dX8_remove_15 dX8_remove_17 dX8_remove_20 rfl (by decide +kernel) wm593 wm17 (by decide +kernel) (ths_3_135) ⟨Nat.le_of_ble_eq_true rfl, Nat.le_of_ble_eq_true rfl, Nat.le_of_ble_eq_true rfl, Nat.le_of_ble_eq_true rfl⟩ (Nat.le_refl _) (Nat.le_refl _)) ?_
  refine xAll_c (xs_aload_n C dX8_remove_21 rfl) ?_
  refine xAll_c (xs_getR C dX8_remove_22 (rfl : vwCl[8]? = some (RX8, TX8, 10)) win8 rfl (by decide) (by decide) rfl wm227) ?_
  refine xAll_c (xs_aload_n C dX8_remove_25 rfl) ?_
  refine xAll_c (xs_getR C dX8_remove_26 (rfl : vwCl[8]? = some (RX8, TX8, 10)) win8 rfl (by decide) (by decide) rfl wm224) ?_
  refine xAll_c (xs_callU C (m_X1_remember l g) dX8_remove_29 (rfl : vwCl[1]? = some (RX1, TX1, 3)) (by decide) rfl ⟨(by decide), (by decide), by decide +kernel⟩ wm325 wm326 wm327 wm7 wm328 ⟨Nat.le_of_ble_eq_true rfl, Nat.le_of_ble_eq_true rfl⟩) ?_
  refine xAll_c (xs_aload_n C dX8_remove_32 rfl) ?_
  refine xAll_c (xs_getR C dX8_remove_33 (rfl : vwCl[8]? = some (RX8, TX8, 10)) win8 rfl (by decide) (by decide) rfl wm224) ?_
  refine xAll_c (xs_iload_n C dX8_remove_36 rfl) ?_
  refine xAll_c (xs_callV C (m_X0_dropValue l g) dX8_remove_37 (rfl : vwCl[0]? = some (RX0, TX0, 7)) (by decide) rfl ⟨(by decide), (by decide), by decide +kernel⟩ wm770 wm771 wm772 wm2 wm773 ⟨Nat.le_of_ble_eq_true rfl, Nat.le_of_ble_eq_true rfl⟩) ?_
  refine xAll_c (xs_iret C dX8_remove_40 rfl) ?_
  exact trivial
noncomputable def k_X8_cut : xCode := [(0, oAload 0 1), (1, oGetR 8 0 4), (4, oIload 1 5), (5, oCallV 0 1 f_X0_hasPage 8), (8, oIf1 (fun x => !(decide (x = 0))) 21 11), (11, oThrow 3), (21, oAload 0 22), (22, oGetR 8 0 25), (25, oIload 1 26), (26, oIload 2 27), (27, oCallV 0 2 f_X0_hasCut 30), (30, oIf1 (fun x => !(decide (x = 0))) 43 33), (33, oThrow 1), (43, oAload 0 44), (44, oGetR 8 0 47), (47, oCallV 0 0 f_X0_isFull 50), (50, oIf1 (fun x => decide (x = 0)) 63 53), (53, oThrow 2), (63, oAload 0 64), (64, oGetR 8 3 67), (67, oAload 0 68), (68, oGetR 8 0 71), (71, oCallU 1 1 f_X1_remember 74), (74, oAload 0 75), (75, oGetR 8 0 78), (78, oIload 1 79), (79, oIload 2 80), (80, oCallU 0 2 f_X0_splitPage 83), (83, oAload 0 84), (84, oGetR 8 0 87), (87, oCallV 0 0 f_X0_totalSize 90), (90, oIret)]
noncomputable def f_X8_cut : xRun := xrun k_X8_cut 3
set_option maxHeartbeats 4000000 in
set_option maxRecDepth 100000 in
theorem m_X8_cut (l : Launch) (hfl : l.stackTraces = false) (g : xG) : xMetX l g yX8_cut cX8_cut 3 (some .int) 6 108 1 6 f_X8_cut := by
  refine xmetX_of (own := RX8) hfl (by decide +kernel) rfl (fun p e s m args below meth c r0 C => ?_)
  refine xAll_c (xs_aload_n C dX8_cut_0 rfl) ?_
  refine xAll_c (xs_getR C dX8_cut_1 (rfl : vwCl[8]? = some (RX8, TX8, 10)) win8 rfl (by decide) (by decide) rfl wm224) ?_
  refine xAll_c (xs_iload_n C dX8_cut_4 rfl) ?_
  refine xAll_c (xs_callV C (m_X0_hasPage l g) dX8_cut_5 (rfl : vwCl[0]? = some (RX0, TX0, 7)) (by decide) rfl ⟨(by decide), (by decide), by decide +kernel⟩ wm616 wm617 wm618 wm2 wm619 ⟨Nat.le_of_ble_eq_true rfl, Nat.le_of_ble_eq_true rfl⟩) ?_
  refine xAll_c (xs_if_ne C dX8_cut_8 (by decide)) ?_
  refine xAll_c (xs_throw (text := "there is no such page") C hfl dX8_cut_11 dX8_cut_14 dX8_cut_15 dX8_cut_17 dX8_cut_20 rfl (by decide +kernel) wm593 wm17 (by decide +kernel) (ths_3_135) ⟨Nat.le_of_ble_eq_true rfl, Nat.le_of_ble_eq_true rfl, Nat.le_of_ble_eq_true rfl, Nat.le_of_ble_eq_true rfl⟩ (Nat.le_refl _) (Nat.le_refl _)) ?_
  refine xAll_c (xs_aload_n C dX8_cut_21 rfl) ?_
  refine xAll_c (xs_getR C dX8_cut_22 (rfl : vwCl[8]? = some (RX8, TX8, 10)) win8 rfl (by decide) (by decide) rfl wm224) ?_
  refine xAll_c (xs_iload_n C dX8_cut_25 rfl) ?_
  refine xAll_c (xs_iload_n C dX8_cut_26 rfl) ?_
  refine xAll_c (xs_callV C (m_X0_hasCut l g) dX8_cut_27 (rfl : vwCl[0]? = some (RX0, TX0, 7)) (by decide) rfl ⟨(by decide), (by decide), by decide +kernel⟩ wm785 wm786 wm787 wm2 wm788 ⟨Nat.le_of_ble_eq_true rfl, Nat.le_of_ble_eq_true rfl⟩) ?_
  refine xAll_c (xs_if_ne C dX8_cut_30 (by decide)) ?_
  refine xAll_c (xs_throw (text := "both parts of a cut have values") C hfl dX8_cut_33 dX8_cut_36 dX8_cut_37 dX8_cut_39 dX8_cut_42 rfl (by decide +kernel) wm455 wm14 (by decide +kernel) (ths_1_77) ⟨Nat.le_of_ble_eq_true rfl, Nat.le_of_ble_eq_true rfl, Nat.le_of_ble_eq_true rfl, Nat.le_of_ble_eq_true rfl⟩ (Nat.le_refl _) (Nat.le_refl _)) ?_
  refine xAll_c (xs_aload_n C dX8_cut_43 rfl) ?_
  refine xAll_c (xs_getR C dX8_cut_44 (rfl : vwCl[8]? = some (RX8, TX8, 10)) win8 rfl (by decide) (by decide) rfl wm224) ?_
  refine xAll_c (xs_callV C (m_X0_isFull l g) dX8_cut_47 (rfl : vwCl[0]? = some (RX0, TX0, 7)) (by decide) rfl ⟨(by decide), (by decide), by decide +kernel⟩ wm790 wm736 wm737 wm2 wm738 ⟨Nat.le_of_ble_eq_true rfl, Nat.le_of_ble_eq_true rfl⟩) ?_
  refine xAll_c (xs_if_eq C dX8_cut_50 (by decide)) ?_
  refine xAll_c (xs_throw (text := "there are 10 pages") C hfl dX8_cut_53 dX8_cut_56 dX8_cut_57 dX8_cut_59 dX8_cut_62 rfl (by decide +kernel) wm527 wm15 (by decide +kernel) (ths_2_88) ⟨Nat.le_of_ble_eq_true rfl, Nat.le_of_ble_eq_true rfl, Nat.le_of_ble_eq_true rfl, Nat.le_of_ble_eq_true rfl⟩ (Nat.le_refl _) (Nat.le_refl _)) ?_
  refine xAll_c (xs_aload_n C dX8_cut_63 rfl) ?_
  refine xAll_c (xs_getR C dX8_cut_64 (rfl : vwCl[8]? = some (RX8, TX8, 10)) win8 rfl (by decide) (by decide) rfl wm227) ?_
  refine xAll_c (xs_aload_n C dX8_cut_67 rfl) ?_
  refine xAll_c (xs_getR C dX8_cut_68 (rfl : vwCl[8]? = some (RX8, TX8, 10)) win8 rfl (by decide) (by decide) rfl wm224) ?_
  refine xAll_c (xs_callU C (m_X1_remember l g) dX8_cut_71 (rfl : vwCl[1]? = some (RX1, TX1, 3)) (by decide) rfl ⟨(by decide), (by decide), by decide +kernel⟩ wm325 wm326 wm327 wm7 wm328 ⟨Nat.le_of_ble_eq_true rfl, Nat.le_of_ble_eq_true rfl⟩) ?_
  refine xAll_c (xs_aload_n C dX8_cut_74 rfl) ?_
  refine xAll_c (xs_getR C dX8_cut_75 (rfl : vwCl[8]? = some (RX8, TX8, 10)) win8 rfl (by decide) (by decide) rfl wm224) ?_
  refine xAll_c (xs_iload_n C dX8_cut_78 rfl) ?_
  refine xAll_c (xs_iload_n C dX8_cut_79 rfl) ?_
  refine xAll_c (xs_callU C (m_X0_splitPage l g) dX8_cut_80 (rfl : vwCl[0]? = some (RX0, TX0, 7)) (by decide) rfl ⟨(by decide), (by decide), by decide +kernel⟩ wm792 wm793 wm794 wm2 wm795 ⟨Nat.le_of_ble_eq_true rfl, Nat.le_of_ble_eq_true rfl⟩) ?_
  refine xAll_c (xs_aload_n C dX8_cut_83 rfl) ?_
  refine xAll_c (xs_getR C dX8_cut_84 (rfl : vwCl[8]? = some (RX8, TX8, 10)) win8 rfl (by decide) (by decide) rfl wm224) ?_
  refine xAll_c (xs_callV C (m_X0_totalSize l g) dX8_cut_87 (rfl : vwCl[0]? = some (RX0, TX0, 7)) (by decide) rfl ⟨(by decide), (by decide), by decide +kernel⟩ wm554 wm555 wm556 wm2 wm557 ⟨Nat.le_of_ble_eq_true rfl, Nat.le_of_ble_eq_true rfl⟩) ?_
  refine xAll_c (xs_iret C dX8_cut_90 rfl) ?_
  exact trivial
noncomputable def k_X8_merge : xCode := [(0, oAload 0 1), (1, oGetR 8 0 4), (4, oIload 1 5), (5, oCallV 0 1 f_X0_hasNext 8), (8, oIf1 (fun x => !(decide (x = 0))) 21 11), (11, oThrow 3), (21, oAload 0 22), (22, oGetR 8 0 25), (25, oIload 1 26), (26, oCallV 0 1 f_X0_canJoin 29), (29, oIf1 (fun x => !(decide (x = 0))) 42 32), (32, oThrow 2), (42, oAload 0 43), (43, oGetR 8 3 46), (46, oAload 0 47), (47, oGetR 8 0 50), (50, oCallU 1 1 f_X1_remember 53), (53, oAload 0 54), (54, oGetR 8 0 57), (57, oIload 1 58), (58, oCallU 0 1 f_X0_joinPages 61), (61, oAload 0 62), (62, oGetR 8 0 65), (65, oCallV 0 0 f_X0_totalSize 68), (68, oIret)]
noncomputable def f_X8_merge : xRun := xrun k_X8_merge 2
set_option maxHeartbeats 4000000 in
set_option maxRecDepth 100000 in
theorem m_X8_merge (l : Launch) (hfl : l.stackTraces = false) (g : xG) : xMetX l g yX8_merge cX8_merge 2 (some .int) 6 108 1 6 f_X8_merge := by
  refine xmetX_of (own := RX8) hfl (by decide +kernel) rfl (fun p e s m args below meth c r0 C => ?_)
  refine xAll_c (xs_aload_n C dX8_merge_0 rfl) ?_
  refine xAll_c (xs_getR C dX8_merge_1 (rfl : vwCl[8]? = some (RX8, TX8, 10)) win8 rfl (by decide) (by decide) rfl wm224) ?_
  refine xAll_c (xs_iload_n C dX8_merge_4 rfl) ?_
  refine xAll_c (xs_callV C (m_X0_hasNext l g) dX8_merge_5 (rfl : vwCl[0]? = some (RX0, TX0, 7)) (by decide) rfl ⟨(by decide), (by decide), by decide +kernel⟩ wm803 wm363 wm364 wm2 wm365 ⟨Nat.le_of_ble_eq_true rfl, Nat.le_of_ble_eq_true rfl⟩) ?_
  refine xAll_c (xs_if_ne C dX8_merge_8 (by decide)) ?_
  refine xAll_c (xs_throw (text := "there are no such two pages") C hfl dX8_merge_11 dX8_merge_14 dX8_merge_15 dX8_merge_17 dX8_merge_20 rfl (by decide +kernel) wm593 wm17 (by decide +kernel) (ths_3_135) ⟨Nat.le_of_ble_eq_true rfl, Nat.le_of_ble_eq_true rfl, Nat.le_of_ble_eq_true rfl, Nat.le_of_ble_eq_true rfl⟩ (Nat.le_refl _) (Nat.le_refl _)) ?_
  refine xAll_c (xs_aload_n C dX8_merge_21 rfl) ?_
  refine xAll_c (xs_getR C dX8_merge_22 (rfl : vwCl[8]? = some (RX8, TX8, 10)) win8 rfl (by decide) (by decide) rfl wm224) ?_
  refine xAll_c (xs_iload_n C dX8_merge_25 rfl) ?_
  refine xAll_c (xs_callV C (m_X0_canJoin l g) dX8_merge_26 (rfl : vwCl[0]? = some (RX0, TX0, 7)) (by decide) rfl ⟨(by decide), (by decide), by decide +kernel⟩ wm805 wm359 wm360 wm2 wm361 ⟨Nat.le_of_ble_eq_true rfl, Nat.le_of_ble_eq_true rfl⟩) ?_
  refine xAll_c (xs_if_ne C dX8_merge_29 (by decide)) ?_
  refine xAll_c (xs_throw (text := "the page would have more than 12 values") C hfl dX8_merge_32 dX8_merge_35 dX8_merge_36 dX8_merge_38 dX8_merge_41 rfl (by decide +kernel) wm527 wm15 (by decide +kernel) (ths_2_88) ⟨Nat.le_of_ble_eq_true rfl, Nat.le_of_ble_eq_true rfl, Nat.le_of_ble_eq_true rfl, Nat.le_of_ble_eq_true rfl⟩ (Nat.le_refl _) (Nat.le_refl _)) ?_
  refine xAll_c (xs_aload_n C dX8_merge_42 rfl) ?_
  refine xAll_c (xs_getR C dX8_merge_43 (rfl : vwCl[8]? = some (RX8, TX8, 10)) win8 rfl (by decide) (by decide) rfl wm227) ?_
  refine xAll_c (xs_aload_n C dX8_merge_46 rfl) ?_
  refine xAll_c (xs_getR C dX8_merge_47 (rfl : vwCl[8]? = some (RX8, TX8, 10)) win8 rfl (by decide) (by decide) rfl wm224) ?_
  refine xAll_c (xs_callU C (m_X1_remember l g) dX8_merge_50 (rfl : vwCl[1]? = some (RX1, TX1, 3)) (by decide) rfl ⟨(by decide), (by decide), by decide +kernel⟩ wm325 wm326 wm327 wm7 wm328 ⟨Nat.le_of_ble_eq_true rfl, Nat.le_of_ble_eq_true rfl⟩) ?_
  refine xAll_c (xs_aload_n C dX8_merge_53 rfl) ?_
  refine xAll_c (xs_getR C dX8_merge_54 (rfl : vwCl[8]? = some (RX8, TX8, 10)) win8 rfl (by decide) (by decide) rfl wm224) ?_
  refine xAll_c (xs_iload_n C dX8_merge_57 rfl) ?_
  refine xAll_c (xs_callU C (m_X0_joinPages l g) dX8_merge_58 (rfl : vwCl[0]? = some (RX0, TX0, 7)) (by decide) rfl ⟨(by decide), (by decide), by decide +kernel⟩ wm807 wm415 wm416 wm2 wm417 ⟨Nat.le_of_ble_eq_true rfl, Nat.le_of_ble_eq_true rfl⟩) ?_
  refine xAll_c (xs_aload_n C dX8_merge_61 rfl) ?_
  refine xAll_c (xs_getR C dX8_merge_62 (rfl : vwCl[8]? = some (RX8, TX8, 10)) win8 rfl (by decide) (by decide) rfl wm224) ?_
  refine xAll_c (xs_callV C (m_X0_totalSize l g) dX8_merge_65 (rfl : vwCl[0]? = some (RX0, TX0, 7)) (by decide) rfl ⟨(by decide), (by decide), by decide +kernel⟩ wm554 wm555 wm556 wm2 wm557 ⟨Nat.le_of_ble_eq_true rfl, Nat.le_of_ble_eq_true rfl⟩) ?_
  refine xAll_c (xs_iret C dX8_merge_68 rfl) ?_
  exact trivial
noncomputable def k_X8_compact : xCode := [(0, oAload 0 1), (1, oGetR 8 3 4), (4, oAload 0 5), (5, oGetR 8 0 8), (8, oCallU 1 1 f_X1_remember 11), (11, oAload 0 12), (12, oGetR 8 0 15), (15, oCallV 0 0 f_X0_joinWhileItSaves 18), (18, oIret)]
noncomputable def f_X8_compact : xRun := xrun k_X8_compact 1
set_option maxHeartbeats 4000000 in
set_option maxRecDepth 100000 in
theorem m_X8_compact (l : Launch) (g : xG) : xMet l g yX8_compact cX8_compact 1 (some .int) 5 114 f_X8_compact := by
  refine xmet_of (own := RX8) (by decide +kernel) rfl (fun p e s m args below meth c r0 C => ?_)
  refine xAll_c (xs_aload_n C dX8_compact_0 rfl) ?_
  refine xAll_c (xs_getR C dX8_compact_1 (rfl : vwCl[8]? = some (RX8, TX8, 10)) win8 rfl (by decide) (by decide) rfl wm227) ?_
  refine xAll_c (xs_aload_n C dX8_compact_4 rfl) ?_
  refine xAll_c (xs_getR C dX8_compact_5 (rfl : vwCl[8]? = some (RX8, TX8, 10)) win8 rfl (by decide) (by decide) rfl wm224) ?_
  refine xAll_c (xs_callU C (m_X1_remember l g) dX8_compact_8 (rfl : vwCl[1]? = some (RX1, TX1, 3)) (by decide) rfl ⟨(by decide), (by decide), by decide +kernel⟩ wm325 wm326 wm327 wm7 wm328 ⟨Nat.le_of_ble_eq_true rfl, Nat.le_of_ble_eq_true rfl⟩) ?_
  refine xAll_c (xs_aload_n C dX8_compact_11 rfl) ?_
  refine xAll_c (xs_getR C dX8_compact_12 (rfl : vwCl[8]? = some (RX8, TX8, 10)) win8 rfl (by decide) (by decide) rfl wm224) ?_
  refine xAll_c (xs_callV C (m_X0_joinWhileItSaves l g) dX8_compact_15 (rfl : vwCl[0]? = some (RX0, TX0, 7)) (by decide) rfl ⟨(by decide), (by decide), by decide +kernel⟩ wm350 wm351 wm352 wm2 wm353 ⟨Nat.le_of_ble_eq_true rfl, Nat.le_of_ble_eq_true rfl⟩) ?_
  refine xAll_c (xs_iret C dX8_compact_18 rfl) ?_
  exact trivial
noncomputable def k_X8_pin : xCode := [(0, oAload 0 1), (1, oGetR 8 0 4), (4, oIload 1 5), (5, oCallV 0 1 f_X0_hasPage 8), (8, oIf1 (fun x => !(decide (x = 0))) 21 11), (11, oThrow 3), (21, oIload 2 22), (22, oConst (-9999) 25), (25, oIf2 (fun x y => decide (x = y)) 46 28), (28, oIload 2 29), (29, oCallSV 1 f_X8_isCoding 32), (32, oIf1 (fun x => !(decide (x = 0))) 46 35), (35, oThrow 1), (46, oAload 0 47), (47, oGetR 8 3 50), (50, oAload 0 51), (51, oGetR 8 0 54), (54, oCallU 1 1 f_X1_remember 57), (57, oAload 0 58), (58, oGetR 8 0 61), (61, oIload 1 62), (62, oIload 2 63), (63, oCallU 0 2 f_X0_pinPage 66), (66, oAload 0 67), (67, oGetR 8 0 70), (70, oIload 1 71), (71, oCallV 0 1 f_X0_sizeOf 74), (74, oIret)]
noncomputable def f_X8_pin : xRun := xrun k_X8_pin 3
set_option maxHeartbeats 4000000 in
set_option maxRecDepth 100000 in
theorem m_X8_pin (l : Launch) (hfl : l.stackTraces = false) (g : xG) : xMetX l g yX8_pin cX8_pin 3 (some .int) 6 109 1 6 f_X8_pin := by
  refine xmetX_of (own := RX8) hfl (by decide +kernel) rfl (fun p e s m args below meth c r0 C => ?_)
  refine xAll_c (xs_aload_n C dX8_pin_0 rfl) ?_
  refine xAll_c (xs_getR C dX8_pin_1 (rfl : vwCl[8]? = some (RX8, TX8, 10)) win8 rfl (by decide) (by decide) rfl wm224) ?_
  refine xAll_c (xs_iload_n C dX8_pin_4 rfl) ?_
  refine xAll_c (xs_callV C (m_X0_hasPage l g) dX8_pin_5 (rfl : vwCl[0]? = some (RX0, TX0, 7)) (by decide) rfl ⟨(by decide), (by decide), by decide +kernel⟩ wm616 wm617 wm618 wm2 wm619 ⟨Nat.le_of_ble_eq_true rfl, Nat.le_of_ble_eq_true rfl⟩) ?_
  refine xAll_c (xs_if_ne C dX8_pin_8 (by decide)) ?_
  refine xAll_c (xs_throw (text := "there is no such page") C hfl dX8_pin_11 dX8_pin_14 dX8_pin_15 dX8_pin_17 dX8_pin_20 rfl (by decide +kernel) wm593 wm17 (by decide +kernel) (ths_3_135) ⟨Nat.le_of_ble_eq_true rfl, Nat.le_of_ble_eq_true rfl, Nat.le_of_ble_eq_true rfl, Nat.le_of_ble_eq_true rfl⟩ (Nat.le_refl _) (Nat.le_refl _)) ?_
  refine xAll_c (xs_iload_n C dX8_pin_21 rfl) ?_
  refine xAll_c (xs_sipush C dX8_pin_22 (by decide)) ?_
  refine xAll_c (xs_icmp_eq C dX8_pin_25 (by decide)) ?_
  refine xAll_c (xs_iload_n C dX8_pin_28 rfl) ?_
  refine xAll_c (xs_callSV C (m_X8_isCoding l g) dX8_pin_29 rfl ⟨(by decide), (by decide), by decide +kernel⟩ wm682 wm683 wm1 wm684 ⟨Nat.le_of_ble_eq_true rfl, Nat.le_of_ble_eq_true rfl⟩) ?_
  refine xAll_c (xs_if_ne C dX8_pin_32 (by decide)) ?_
  refine xAll_c (xs_throwW (text := "a coding is 0 to 4, or NONE") C hfl dX8_pin_35 dX8_pin_38 dX8_pin_39 dX8_pin_42 dX8_pin_45 rfl (by decide +kernel) wm455 wm14 (by decide +kernel) (ths_1_77) ⟨Nat.le_of_ble_eq_true rfl, Nat.le_of_ble_eq_true rfl, Nat.le_of_ble_eq_true rfl, Nat.le_of_ble_eq_true rfl⟩ (Nat.le_refl _) (Nat.le_refl _)) ?_
  refine xAll_c (xs_aload_n C dX8_pin_46 rfl) ?_
  refine xAll_c (xs_getR C dX8_pin_47 (rfl : vwCl[8]? = some (RX8, TX8, 10)) win8 rfl (by decide) (by decide) rfl wm227) ?_
  refine xAll_c (xs_aload_n C dX8_pin_50 rfl) ?_
  refine xAll_c (xs_getR C dX8_pin_51 (rfl : vwCl[8]? = some (RX8, TX8, 10)) win8 rfl (by decide) (by decide) rfl wm224) ?_
  refine xAll_c (xs_callU C (m_X1_remember l g) dX8_pin_54 (rfl : vwCl[1]? = some (RX1, TX1, 3)) (by decide) rfl ⟨(by decide), (by decide), by decide +kernel⟩ wm325 wm326 wm327 wm7 wm328 ⟨Nat.le_of_ble_eq_true rfl, Nat.le_of_ble_eq_true rfl⟩) ?_
  refine xAll_c (xs_aload_n C dX8_pin_57 rfl) ?_
  refine xAll_c (xs_getR C dX8_pin_58 (rfl : vwCl[8]? = some (RX8, TX8, 10)) win8 rfl (by decide) (by decide) rfl wm224) ?_
  refine xAll_c (xs_iload_n C dX8_pin_61 rfl) ?_
  refine xAll_c (xs_iload_n C dX8_pin_62 rfl) ?_
  refine xAll_c (xs_callU C (m_X0_pinPage l g) dX8_pin_63 (rfl : vwCl[0]? = some (RX0, TX0, 7)) (by decide) rfl ⟨(by decide), (by decide), by decide +kernel⟩ wm816 wm817 wm818 wm2 wm819 ⟨Nat.le_of_ble_eq_true rfl, Nat.le_of_ble_eq_true rfl⟩) ?_
  refine xAll_c (xs_aload_n C dX8_pin_66 rfl) ?_
  refine xAll_c (xs_getR C dX8_pin_67 (rfl : vwCl[8]? = some (RX8, TX8, 10)) win8 rfl (by decide) (by decide) rfl wm224) ?_
  refine xAll_c (xs_iload_n C dX8_pin_70 rfl) ?_
  refine xAll_c (xs_callV C (m_X0_sizeOf l g) dX8_pin_71 (rfl : vwCl[0]? = some (RX0, TX0, 7)) (by decide) rfl ⟨(by decide), (by decide), by decide +kernel⟩ wm820 wm821 wm822 wm2 wm823 ⟨Nat.le_of_ble_eq_true rfl, Nat.le_of_ble_eq_true rfl⟩) ?_
  refine xAll_c (xs_iret C dX8_pin_74 rfl) ?_
  exact trivial
noncomputable def k_X8_setLimit : xCode := [(0, oIload 1 1), (1, oConst (nI 1) 2), (2, oIf2 (fun x y => decide (x < y)) 11 5), (5, oIload 1 6), (6, oConst (nI 12) 8), (8, oIf2 (fun x y => decide (x ≤ y)) 22 11), (11, oThrow 1), (22, oAload 0 23), (23, oGetR 8 3 26), (26, oAload 0 27), (27, oGetR 8 0 30), (30, oCallU 1 1 f_X1_remember 33), (33, oAload 0 34), (34, oGetR 8 0 37), (37, oGetI 0 6 40), (40, oIstore 2 3 41), (41, oAload 0 42), (42, oGetR 8 0 45), (45, oIload 1 46), (46, oPutI 0 6 49), (49, oIload 2 50), (50, oIret)]
noncomputable def f_X8_setLimit : xRun := xrun k_X8_setLimit 3
set_option maxHeartbeats 4000000 in
set_option maxRecDepth 100000 in
theorem m_X8_setLimit (l : Launch) (hfl : l.stackTraces = false) (g : xG) : xMetX l g yX8_setLimit cX8_setLimit 3 (some .int) 6 108 1 6 f_X8_setLimit := by
  refine xmetX_of (own := RX8) hfl (by decide +kernel) rfl (fun p e s m args below meth c r0 C => ?_)
  refine xAll_c (xs_iload_n C dX8_setLimit_0 rfl) ?_
  refine xAll_c (xs_iconst C dX8_setLimit_1 (by decide)) ?_
  refine xAll_c (xs_icmp_lt C dX8_setLimit_2 (by decide)) ?_
  refine xAll_c (xs_iload_n C dX8_setLimit_5 rfl) ?_
  refine xAll_c (xs_bipush C dX8_setLimit_6 (by decide)) ?_
  refine xAll_c (xs_icmp_le C dX8_setLimit_8 (by decide)) ?_
  refine xAll_c (xs_throwW (text := "the limit is 1 to 12") C hfl dX8_setLimit_11 dX8_setLimit_14 dX8_setLimit_15 dX8_setLimit_18 dX8_setLimit_21 rfl (by decide +kernel) wm455 wm14 (by decide +kernel) (ths_1_77) ⟨Nat.le_of_ble_eq_true rfl, Nat.le_of_ble_eq_true rfl, Nat.le_of_ble_eq_true rfl, Nat.le_of_ble_eq_true rfl⟩ (Nat.le_refl _) (Nat.le_refl _)) ?_
  refine xAll_c (xs_aload_n C dX8_setLimit_22 rfl) ?_
  refine xAll_c (xs_getR C dX8_setLimit_23 (rfl : vwCl[8]? = some (RX8, TX8, 10)) win8 rfl (by decide) (by decide) rfl wm227) ?_
  refine xAll_c (xs_aload_n C dX8_setLimit_26 rfl) ?_
  refine xAll_c (xs_getR C dX8_setLimit_27 (rfl : vwCl[8]? = some (RX8, TX8, 10)) win8 rfl (by decide) (by decide) rfl wm224) ?_
  refine xAll_c (xs_callU C (m_X1_remember l g) dX8_setLimit_30 (rfl : vwCl[1]? = some (RX1, TX1, 3)) (by decide) rfl ⟨(by decide), (by decide), by decide +kernel⟩ wm325 wm326 wm327 wm7 wm328 ⟨Nat.le_of_ble_eq_true rfl, Nat.le_of_ble_eq_true rfl⟩) ?_
  refine xAll_c (xs_aload_n C dX8_setLimit_33 rfl) ?_
  refine xAll_c (xs_getR C dX8_setLimit_34 (rfl : vwCl[8]? = some (RX8, TX8, 10)) win8 rfl (by decide) (by decide) rfl wm224) ?_
  refine xAll_c (xs_getIN (host := "CodedColumn") C dX8_setLimit_37 (rfl : vwCl[0]? = some (RX0, TX0, 7)) win0 rfl (by decide) (by decide) rfl (by decide +kernel)) ?_
  refine xAll_c (xs_istore_n C dX8_setLimit_40 rfl) ?_
  refine xAll_c (xs_aload_n C dX8_setLimit_41 rfl) ?_
  refine xAll_c (xs_getR C dX8_setLimit_42 (rfl : vwCl[8]? = some (RX8, TX8, 10)) win8 rfl (by decide) (by decide) rfl wm224) ?_
  refine xAll_c (xs_iload_n C dX8_setLimit_45 rfl) ?_
  refine xAll_c (xs_putIN (host := "CodedColumn") C dX8_setLimit_46 (rfl : vwCl[0]? = some (RX0, TX0, 7)) win0 tyX0_ok nmX0 rfl (by decide) (by decide) rfl rfl (by decide) (by decide +kernel)) ?_
  refine xAll_c (xs_iload_n C dX8_setLimit_49 rfl) ?_
  refine xAll_c (xs_iret C dX8_setLimit_50 rfl) ?_
  exact trivial
noncomputable def k_X8_take : xCode := [(0, oAload 0 1), (1, oGetR 8 1 4), (4, oCallV 3 0 f_X3_readPage 7), (7, oConst (-9999) 10), (10, oIf2 (fun x y => decide (x = y)) 24 13), (13, oThrow 2), (24, oAload 0 25), (25, oGetR 8 0 28), (28, oCallV 0 0 f_X0_isFull 31), (31, oIf1 (fun x => decide (x = 0)) 44 34), (34, oThrow 2), (44, oAload 0 45), (45, oGetR 8 3 48), (48, oAload 0 49), (49, oGetR 8 0 52), (52, oCallU 1 1 f_X1_remember 55), (55, oAload 0 56), (56, oGetR 8 0 59), (59, oAload 0 60), (60, oGetR 8 1 63), (63, oGetR 3 1 66), (66, oAload 0 67), (67, oGetR 8 1 70), (70, oGetI 3 4 73), (73, oCallV 0 2 f_X0_appendPage 76), (76, oIstore 1 2 77), (77, oAload 0 78), (78, oGetR 8 0 81), (81, oIload 1 82), (82, oCallV 0 1 f_X0_codingOf 85), (85, oIret)]
noncomputable def f_X8_take : xRun := xrun k_X8_take 2
set_option maxHeartbeats 4000000 in
set_option maxRecDepth 100000 in
theorem m_X8_take (l : Launch) (hfl : l.stackTraces = false) (g : xG) : xMetX l g yX8_take cX8_take 2 (some .int) 6 138 1 6 f_X8_take := by
  refine xmetX_of (own := RX8) hfl (by decide +kernel) rfl (fun p e s m args below meth c r0 C => ?_)
  refine xAll_c (xs_aload_n C dX8_take_0 rfl) ?_
  refine xAll_c (xs_getR C dX8_take_1 (rfl : vwCl[8]? = some (RX8, TX8, 10)) win8 rfl (by decide) (by decide) rfl wm225) ?_
  refine xAll_c (xs_callV C (m_X3_readPage l g) dX8_take_4 (rfl : vwCl[3]? = some (RX3, TX3, 7)) (by decide) rfl ⟨(by decide), (by decide), by decide +kernel⟩ wm267 wm268 wm269 wm5 wm270 ⟨Nat.le_of_ble_eq_true rfl, Nat.le_of_ble_eq_true rfl⟩) ?_
  refine xAll_c (xs_sipush C dX8_take_7 (by decide)) ?_
  refine xAll_c (xs_icmp_eq C dX8_take_10 (by decide)) ?_
  refine xAll_c (xs_throwW (text := "the text is not a page") C hfl dX8_take_13 dX8_take_16 dX8_take_17 dX8_take_20 dX8_take_23 rfl (by decide +kernel) wm527 wm15 (by decide +kernel) (ths_2_88) ⟨Nat.le_of_ble_eq_true rfl, Nat.le_of_ble_eq_true rfl, Nat.le_of_ble_eq_true rfl, Nat.le_of_ble_eq_true rfl⟩ (Nat.le_refl _) (Nat.le_refl _)) ?_
  refine xAll_c (xs_aload_n C dX8_take_24 rfl) ?_
  refine xAll_c (xs_getR C dX8_take_25 (rfl : vwCl[8]? = some (RX8, TX8, 10)) win8 rfl (by decide) (by decide) rfl wm224) ?_
  refine xAll_c (xs_callV C (m_X0_isFull l g) dX8_take_28 (rfl : vwCl[0]? = some (RX0, TX0, 7)) (by decide) rfl ⟨(by decide), (by decide), by decide +kernel⟩ wm790 wm736 wm737 wm2 wm738 ⟨Nat.le_of_ble_eq_true rfl, Nat.le_of_ble_eq_true rfl⟩) ?_
  refine xAll_c (xs_if_eq C dX8_take_31 (by decide)) ?_
  refine xAll_c (xs_throw (text := "there are 10 pages") C hfl dX8_take_34 dX8_take_37 dX8_take_38 dX8_take_40 dX8_take_43 rfl (by decide +kernel) wm527 wm15 (by decide +kernel) (ths_2_88) ⟨Nat.le_of_ble_eq_true rfl, Nat.le_of_ble_eq_true rfl, Nat.le_of_ble_eq_true rfl, Nat.le_of_ble_eq_true rfl⟩ (Nat.le_refl _) (Nat.le_refl _)) ?_
  refine xAll_c (xs_aload_n C dX8_take_44 rfl) ?_
  refine xAll_c (xs_getR C dX8_take_45 (rfl : vwCl[8]? = some (RX8, TX8, 10)) win8 rfl (by decide) (by decide) rfl wm227) ?_
  refine xAll_c (xs_aload_n C dX8_take_48 rfl) ?_
  refine xAll_c (xs_getR C dX8_take_49 (rfl : vwCl[8]? = some (RX8, TX8, 10)) win8 rfl (by decide) (by decide) rfl wm224) ?_
  refine xAll_c (xs_callU C (m_X1_remember l g) dX8_take_52 (rfl : vwCl[1]? = some (RX1, TX1, 3)) (by decide) rfl ⟨(by decide), (by decide), by decide +kernel⟩ wm325 wm326 wm327 wm7 wm328 ⟨Nat.le_of_ble_eq_true rfl, Nat.le_of_ble_eq_true rfl⟩) ?_
  refine xAll_c (xs_aload_n C dX8_take_55 rfl) ?_
  refine xAll_c (xs_getR C dX8_take_56 (rfl : vwCl[8]? = some (RX8, TX8, 10)) win8 rfl (by decide) (by decide) rfl wm224) ?_
  refine xAll_c (xs_aload_n C dX8_take_59 rfl) ?_
  refine xAll_c (xs_getR C dX8_take_60 (rfl : vwCl[8]? = some (RX8, TX8, 10)) win8 rfl (by decide) (by decide) rfl wm225) ?_
  refine xAll_c (xs_getRN (host := "CodedColumn") C dX8_take_63 (rfl : vwCl[3]? = some (RX3, TX3, 7)) win3 rfl (by decide) (by decide) rfl (by decide +kernel)) ?_
  refine xAll_c (xs_aload_n C dX8_take_66 rfl) ?_
  refine xAll_c (xs_getR C dX8_take_67 (rfl : vwCl[8]? = some (RX8, TX8, 10)) win8 rfl (by decide) (by decide) rfl wm225) ?_
  refine xAll_c (xs_getIN (host := "CodedColumn") C dX8_take_70 (rfl : vwCl[3]? = some (RX3, TX3, 7)) win3 rfl (by decide) (by decide) rfl (by decide +kernel)) ?_
  refine xAll_c (xs_callV C (m_X0_appendPage l g) dX8_take_73 (rfl : vwCl[0]? = some (RX0, TX0, 7)) (by decide) rfl ⟨(by decide), (by decide), by decide +kernel⟩ wm840 wm841 wm842 wm2 wm843 ⟨Nat.le_of_ble_eq_true rfl, Nat.le_of_ble_eq_true rfl⟩) ?_
  refine xAll_c (xs_istore_n C dX8_take_76 rfl) ?_
  refine xAll_c (xs_aload_n C dX8_take_77 rfl) ?_
  refine xAll_c (xs_getR C dX8_take_78 (rfl : vwCl[8]? = some (RX8, TX8, 10)) win8 rfl (by decide) (by decide) rfl wm224) ?_
  refine xAll_c (xs_iload_n C dX8_take_81 rfl) ?_
  refine xAll_c (xs_callV C (m_X0_codingOf l g) dX8_take_82 (rfl : vwCl[0]? = some (RX0, TX0, 7)) (by decide) rfl ⟨(by decide), (by decide), by decide +kernel⟩ wm844 wm845 wm846 wm2 wm847 ⟨Nat.le_of_ble_eq_true rfl, Nat.le_of_ble_eq_true rfl⟩) ?_
  refine xAll_c (xs_iret C dX8_take_85 rfl) ?_
  exact trivial
noncomputable def k_X8_undo : xCode := [(0, oAload 0 1), (1, oGetR 8 3 4), (4, oGetI 1 2 7), (7, oIf1 (fun x => !(decide (x = 0))) 21 10), (10, oThrow 2), (21, oAload 0 22), (22, oGetR 8 3 25), (25, oAload 0 26), (26, oGetR 8 0 29), (29, oCallV 1 1 f_X1_takeBack 32), (32, oIret)]
noncomputable def f_X8_undo : xRun := xrun k_X8_undo 1
set_option maxHeartbeats 4000000 in
set_option maxRecDepth 100000 in
theorem m_X8_undo (l : Launch) (hfl : l.stackTraces = false) (g : xG) : xMetX l g yX8_undo cX8_undo 1 (some .int) 6 108 1 6 f_X8_undo := by
  refine xmetX_of (own := RX8) hfl (by decide +kernel) rfl (fun p e s m args below meth c r0 C => ?_)
  refine xAll_c (xs_aload_n C dX8_undo_0 rfl) ?_
  refine xAll_c (xs_getR C dX8_undo_1 (rfl : vwCl[8]? = some (RX8, TX8, 10)) win8 rfl (by decide) (by decide) rfl wm227) ?_
  refine xAll_c (xs_getIN (host := "CodedColumn") C dX8_undo_4 (rfl : vwCl[1]? = some (RX1, TX1, 3)) win1 rfl (by decide) (by decide) rfl (by decide +kernel)) ?_
  refine xAll_c (xs_if_ne C dX8_undo_7 (by decide)) ?_
  refine xAll_c (xs_throwW (text := "no state is remembered") C hfl dX8_undo_10 dX8_undo_13 dX8_undo_14 dX8_undo_17 dX8_undo_20 rfl (by decide +kernel) wm527 wm15 (by decide +kernel) (ths_2_88) ⟨Nat.le_of_ble_eq_true rfl, Nat.le_of_ble_eq_true rfl, Nat.le_of_ble_eq_true rfl, Nat.le_of_ble_eq_true rfl⟩ (Nat.le_refl _) (Nat.le_refl _)) ?_
  refine xAll_c (xs_aload_n C dX8_undo_21 rfl) ?_
  refine xAll_c (xs_getR C dX8_undo_22 (rfl : vwCl[8]? = some (RX8, TX8, 10)) win8 rfl (by decide) (by decide) rfl wm227) ?_
  refine xAll_c (xs_aload_n C dX8_undo_25 rfl) ?_
  refine xAll_c (xs_getR C dX8_undo_26 (rfl : vwCl[8]? = some (RX8, TX8, 10)) win8 rfl (by decide) (by decide) rfl wm224) ?_
  refine xAll_c (xs_callV C (m_X1_takeBack l g) dX8_undo_29 (rfl : vwCl[1]? = some (RX1, TX1, 3)) (by decide) rfl ⟨(by decide), (by decide), by decide +kernel⟩ wm856 wm857 wm858 wm7 wm859 ⟨Nat.le_of_ble_eq_true rfl, Nat.le_of_ble_eq_true rfl⟩) ?_
  refine xAll_c (xs_iret C dX8_undo_32 rfl) ?_
  exact trivial
noncomputable def k_X8_gain : xCode := [(0, oAload 0 1), (1, oGetR 8 0 4), (4, oIload 1 5), (5, oCallV 0 1 f_X0_hasPage 8), (8, oIf1 (fun x => !(decide (x = 0))) 21 11), (11, oThrow 3), (21, oAload 0 22), (22, oGetR 8 0 25), (25, oIload 1 26), (26, oCallV 0 1 f_X0_savedByJoin 29), (29, oIret)]
noncomputable def f_X8_gain : xRun := xrun k_X8_gain 2
set_option maxHeartbeats 4000000 in
set_option maxRecDepth 100000 in
theorem m_X8_gain (l : Launch) (hfl : l.stackTraces = false) (g : xG) : xMetX l g yX8_gain cX8_gain 2 (some .int) 6 92 1 6 f_X8_gain := by
  refine xmetX_of (own := RX8) hfl (by decide +kernel) rfl (fun p e s m args below meth c r0 C => ?_)
  refine xAll_c (xs_aload_n C dX8_gain_0 rfl) ?_
  refine xAll_c (xs_getR C dX8_gain_1 (rfl : vwCl[8]? = some (RX8, TX8, 10)) win8 rfl (by decide) (by decide) rfl wm224) ?_
  refine xAll_c (xs_iload_n C dX8_gain_4 rfl) ?_
  refine xAll_c (xs_callV C (m_X0_hasPage l g) dX8_gain_5 (rfl : vwCl[0]? = some (RX0, TX0, 7)) (by decide) rfl ⟨(by decide), (by decide), by decide +kernel⟩ wm616 wm617 wm618 wm2 wm619 ⟨Nat.le_of_ble_eq_true rfl, Nat.le_of_ble_eq_true rfl⟩) ?_
  refine xAll_c (xs_if_ne C dX8_gain_8 (by decide)) ?_
  refine xAll_c (xs_throw (text := "there is no such page") C hfl dX8_gain_11 dX8_gain_14 dX8_gain_15 dX8_gain_17 dX8_gain_20 rfl (by decide +kernel) wm593 wm17 (by decide +kernel) (ths_3_135) ⟨Nat.le_of_ble_eq_true rfl, Nat.le_of_ble_eq_true rfl, Nat.le_of_ble_eq_true rfl, Nat.le_of_ble_eq_true rfl⟩ (Nat.le_refl _) (Nat.le_refl _)) ?_
  refine xAll_c (xs_aload_n C dX8_gain_21 rfl) ?_
  refine xAll_c (xs_getR C dX8_gain_22 (rfl : vwCl[8]? = some (RX8, TX8, 10)) win8 rfl (by decide) (by decide) rfl wm224) ?_
  refine xAll_c (xs_iload_n C dX8_gain_25 rfl) ?_
  refine xAll_c (xs_callV C (m_X0_savedByJoin l g) dX8_gain_26 (rfl : vwCl[0]? = some (RX0, TX0, 7)) (by decide) rfl ⟨(by decide), (by decide), by decide +kernel⟩ wm871 wm355 wm356 wm2 wm357 ⟨Nat.le_of_ble_eq_true rfl, Nat.le_of_ble_eq_true rfl⟩) ?_
  refine xAll_c (xs_iret C dX8_gain_29 rfl) ?_
  exact trivial
noncomputable def k_X8_bestCut : xCode := [(0, oAload 0 1), (1, oGetR 8 0 4), (4, oIload 1 5), (5, oCallV 0 1 f_X0_hasPage 8), (8, oIf1 (fun x => !(decide (x = 0))) 21 11), (11, oThrow 3), (21, oConst (-9999) 24), (24, oIstore 2 7 25), (25, oConst (nI 0) 26), (26, oIstore 3 7 27), (27, oAload 0 28), (28, oGetR 8 0 31), (31, oIload 1 32), (32, oCallV 0 1 f_X0_lengthOf 35), (35, oIstore 4 7 37), (37, oConst (nI 1) 38), (38, oIstore 5 7 40), (40, oIload 5 42), (42, oIload 4 44), (44, oIf2 (fun x y => decide (y ≤ x)) 83 47), (47, oAload 0 48), (48, oGetR 8 0 51), (51, oIload 1 52), (52, oIload 5 54), (54, oCallV 0 2 f_X0_sizeOfParts 57), (57, oIstore 6 7 59), (59, oIload 5 61), (61, oConst (nI 1) 62), (62, oIf2 (fun x y => decide (x = y)) 71 65), (65, oIload 6 67), (67, oIload 3 68), (68, oIf2 (fun x y => decide (y ≤ x)) 77 71), (71, oIload 5 73), (73, oIstore 2 7 74), (74, oIload 6 76), (76, oIstore 3 7 77), (77, oIinc 5 (nI 1) 7 80), (80, oGoto 40), (83, oIload 2 84), (84, oIret)]
noncomputable def f_X8_bestCut : xRun := xrun k_X8_bestCut 7
set_option maxHeartbeats 4000000 in
set_option maxRecDepth 100000 in
theorem m_X8_bestCut (l : Launch) (hfl : l.stackTraces = false) (g : xG) : xMetX l g yX8_bestCut cX8_bestCut 7 (some .int) 6 91 1 6 f_X8_bestCut := by
  refine xmetX_of (own := RX8) hfl (by decide +kernel) rfl (fun p e s m args below meth c r0 C => ?_)
  refine xAll_c (xs_aload_n C dX8_bestCut_0 rfl) ?_
  refine xAll_c (xs_getR C dX8_bestCut_1 (rfl : vwCl[8]? = some (RX8, TX8, 10)) win8 rfl (by decide) (by decide) rfl wm224) ?_
  refine xAll_c (xs_iload_n C dX8_bestCut_4 rfl) ?_
  refine xAll_c (xs_callV C (m_X0_hasPage l g) dX8_bestCut_5 (rfl : vwCl[0]? = some (RX0, TX0, 7)) (by decide) rfl ⟨(by decide), (by decide), by decide +kernel⟩ wm616 wm617 wm618 wm2 wm619 ⟨Nat.le_of_ble_eq_true rfl, Nat.le_of_ble_eq_true rfl⟩) ?_
  refine xAll_c (xs_if_ne C dX8_bestCut_8 (by decide)) ?_
  refine xAll_c (xs_throw (text := "there is no such page") C hfl dX8_bestCut_11 dX8_bestCut_14 dX8_bestCut_15 dX8_bestCut_17 dX8_bestCut_20 rfl (by decide +kernel) wm593 wm17 (by decide +kernel) (ths_3_135) ⟨Nat.le_of_ble_eq_true rfl, Nat.le_of_ble_eq_true rfl, Nat.le_of_ble_eq_true rfl, Nat.le_of_ble_eq_true rfl⟩ (Nat.le_refl _) (Nat.le_refl _)) ?_
  refine xAll_c (xs_sipush C dX8_bestCut_21 (by decide)) ?_
  refine xAll_c (xs_istore_n C dX8_bestCut_24 rfl) ?_
  refine xAll_c (xs_iconst C dX8_bestCut_25 (by decide)) ?_
  refine xAll_c (xs_istore_n C dX8_bestCut_26 rfl) ?_
  refine xAll_c (xs_aload_n C dX8_bestCut_27 rfl) ?_
  refine xAll_c (xs_getR C dX8_bestCut_28 (rfl : vwCl[8]? = some (RX8, TX8, 10)) win8 rfl (by decide) (by decide) rfl wm224) ?_
  refine xAll_c (xs_iload_n C dX8_bestCut_31 rfl) ?_
  refine xAll_c (xs_callV C (m_X0_lengthOf l g) dX8_bestCut_32 (rfl : vwCl[0]? = some (RX0, TX0, 7)) (by decide) rfl ⟨(by decide), (by decide), by decide +kernel⟩ wm879 wm367 wm368 wm2 wm369 ⟨Nat.le_of_ble_eq_true rfl, Nat.le_of_ble_eq_true rfl⟩) ?_
  refine xAll_c (xs_istore C dX8_bestCut_35) ?_
  refine xAll_c (xs_iconst C dX8_bestCut_37 (by decide)) ?_
  refine xAll_c (xs_istore C dX8_bestCut_38) ?_
  refine xAll_c (xs_iload C dX8_bestCut_40) ?_
  refine xAll_c (xs_iload C dX8_bestCut_42) ?_
  refine xAll_c (xs_icmp_ge C dX8_bestCut_44 (by decide)) ?_
  refine xAll_c (xs_aload_n C dX8_bestCut_47 rfl) ?_
  refine xAll_c (xs_getR C dX8_bestCut_48 (rfl : vwCl[8]? = some (RX8, TX8, 10)) win8 rfl (by decide) (by decide) rfl wm224) ?_
  refine xAll_c (xs_iload_n C dX8_bestCut_51 rfl) ?_
  refine xAll_c (xs_iload C dX8_bestCut_52) ?_
  refine xAll_c (xs_callV C (m_X0_sizeOfParts l g) dX8_bestCut_54 (rfl : vwCl[0]? = some (RX0, TX0, 7)) (by decide) rfl ⟨(by decide), (by decide), by decide +kernel⟩ wm880 wm881 wm882 wm2 wm883 ⟨Nat.le_of_ble_eq_true rfl, Nat.le_of_ble_eq_true rfl⟩) ?_
  refine xAll_c (xs_istore C dX8_bestCut_57) ?_
  refine xAll_c (xs_iload C dX8_bestCut_59) ?_
  refine xAll_c (xs_iconst C dX8_bestCut_61 (by decide)) ?_
  refine xAll_c (xs_icmp_eq C dX8_bestCut_62 (by decide)) ?_
  refine xAll_c (xs_iload C dX8_bestCut_65) ?_
  refine xAll_c (xs_iload_n C dX8_bestCut_67 rfl) ?_
  refine xAll_c (xs_icmp_ge C dX8_bestCut_68 (by decide)) ?_
  refine xAll_c (xs_iload C dX8_bestCut_71) ?_
  refine xAll_c (xs_istore_n C dX8_bestCut_73 rfl) ?_
  refine xAll_c (xs_iload C dX8_bestCut_74) ?_
  refine xAll_c (xs_istore_n C dX8_bestCut_76 rfl) ?_
  refine xAll_c (xs_iinc C dX8_bestCut_77 rfl) ?_
  refine xAll_c (xs_goto C dX8_bestCut_80 (by decide)) ?_
  refine xAll_c (xs_iload_n C dX8_bestCut_83 rfl) ?_
  refine xAll_c (xs_iret C dX8_bestCut_84 rfl) ?_
  exact trivial
