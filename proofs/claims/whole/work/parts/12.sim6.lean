noncomputable def k_X9_undo : xCode := [(0, oAload 0 1), (1, oAload 0 2), (2, oGetI 9 8 5), (5, oIf1 (fun x => !(decide (x = 0))) 12 8), (8, oConst (nI 1) 9), (9, oGoto 13), (12, oConst (nI 0) 13), (13, oCallV 9 1 f_X9_refused 16), (16, oIf1 (fun x => decide (x = 0)) 21 19), (19, oConst (nI 0) 20), (20, oIret), (21, oAload 0 22), (22, oDup 23), (23, oGetI 9 8 26), (26, oConst (nI 1) 27), (27, oBin (fun x y => x - y) 28), (28, oPutI 9 8 31), (31, oAload 0 32), (32, oGetR 9 7 35), (35, oConst (nI 142) 38), (38, oAload 0 39), (39, oGetI 9 8 42), (42, oBin (fun x y => x * y) 43), (43, oAload 0 44), (44, oGetR 9 4 47), (47, oConst (nI 0) 48), (48, oCallSU 4 f_X9_copyColumn 51), (51, oAload 0 52), (52, oGetI 9 8 55), (55, oIret)]
noncomputable def f_X9_undo : xRun := xrun k_X9_undo 1
set_option maxHeartbeats 4000000 in
set_option maxRecDepth 100000 in
theorem m_X9_undo (l : Launch) (g : xG) : xMet l g yX9_undo cX9_undo 1 (some .int) 1 24 f_X9_undo := by
  refine xmet_of (own := RX9) (by decide +kernel) rfl (fun p e s m args below meth c r0 C => ?_)
  refine xAll_c (xs_aload_n C dX9_undo_0 rfl) ?_
  refine xAll_c (xs_aload_n C dX9_undo_1 rfl) ?_
  refine xAll_c (xs_getI C dX9_undo_2 (rfl : vwCl[9]? = some (RX9, TX9, 17)) win9 rfl (by decide) (by decide) rfl wm1025) ?_
  refine xAll_c (xs_if_ne C dX9_undo_5 (by decide)) ?_
  refine xAll_c (xs_iconst C dX9_undo_8 (by decide)) ?_
  refine xAll_c (xs_goto C dX9_undo_9 (by decide)) ?_
  refine xAll_c (xs_iconst C dX9_undo_12 (by decide)) ?_
  refine xAll_c (xs_callV C (m_X9_refused l g) dX9_undo_13 (rfl : vwCl[9]? = some (RX9, TX9, 17)) (by decide) rfl ⟨(by decide), (by decide), by decide +kernel⟩ wm1082 wm1084 wp31 wm10 wm1085 ⟨Nat.le_of_ble_eq_true rfl, Nat.le_of_ble_eq_true rfl⟩) ?_
  refine xAll_c (xs_if_eq C dX9_undo_16 (by decide)) ?_
  refine xAll_c (xs_iconst C dX9_undo_19 (by decide)) ?_
  refine xAll_c (xs_iret C dX9_undo_20 rfl) ?_
  refine xAll_c (xs_aload_n C dX9_undo_21 rfl) ?_
  refine xAll_c (xs_dup C dX9_undo_22) ?_
  refine xAll_c (xs_getI C dX9_undo_23 (rfl : vwCl[9]? = some (RX9, TX9, 17)) win9 rfl (by decide) (by decide) rfl wm1025) ?_
  refine xAll_c (xs_iconst C dX9_undo_26 (by decide)) ?_
  refine xAll_c (xs_isub C dX9_undo_27) ?_
  refine xAll_c (xs_putI C dX9_undo_28 (rfl : vwCl[9]? = some (RX9, TX9, 17)) win9 tyX9_ok nmX9 rfl (by decide) (by decide) rfl rfl (by decide) wm1025) ?_
  refine xAll_c (xs_aload_n C dX9_undo_31 rfl) ?_
  refine xAll_c (xs_getR C dX9_undo_32 (rfl : vwCl[9]? = some (RX9, TX9, 17)) win9 rfl (by decide) (by decide) rfl wm1024) ?_
  refine xAll_c (xs_sipush C dX9_undo_35 (by decide)) ?_
  refine xAll_c (xs_aload_n C dX9_undo_38 rfl) ?_
  refine xAll_c (xs_getI C dX9_undo_39 (rfl : vwCl[9]? = some (RX9, TX9, 17)) win9 rfl (by decide) (by decide) rfl wm1025) ?_
  refine xAll_c (xs_imul C dX9_undo_42) ?_
  refine xAll_c (xs_aload_n C dX9_undo_43 rfl) ?_
  refine xAll_c (xs_getR C dX9_undo_44 (rfl : vwCl[9]? = some (RX9, TX9, 17)) win9 rfl (by decide) (by decide) rfl wm1021) ?_
  refine xAll_c (xs_iconst C dX9_undo_47 (by decide)) ?_
  refine xAll_c (xs_callSU C (m_X9_copyColumn l g) dX9_undo_48 rfl ⟨(by decide), (by decide), by decide +kernel⟩ wm1250 wm1251 wm10 wm1252 ⟨Nat.le_of_ble_eq_true rfl, Nat.le_of_ble_eq_true rfl⟩) ?_
  refine xAll_c (xs_aload_n C dX9_undo_51 rfl) ?_
  refine xAll_c (xs_getI C dX9_undo_52 (rfl : vwCl[9]? = some (RX9, TX9, 17)) win9 rfl (by decide) (by decide) rfl wm1025) ?_
  refine xAll_c (xs_iret C dX9_undo_55 rfl) ?_
  exact trivial
noncomputable def k_X9_gain : xCode := [(0, oAload 0 1), (1, oAload 0 2), (2, oGetR 9 4 5), (5, oIload 1 6), (6, oCallSV 2 f_X9_isPage 9), (9, oIf1 (fun x => decide (x = 0)) 16 12), (12, oConst (nI 0) 13), (13, oGoto 17), (16, oConst (nI 1) 17), (17, oCallV 9 1 f_X9_refused 20), (20, oIf1 (fun x => decide (x = 0)) 25 23), (23, oConst (nI 0) 24), (24, oIret), (25, oAload 0 26), (26, oGetR 9 4 29), (29, oIload 1 30), (30, oCallSV 2 f_X9_whyNotMerge 33), (33, oIf1 (fun x => !(decide (x = 0))) 47 36), (36, oAload 0 37), (37, oGetR 9 4 40), (40, oIload 1 41), (41, oCallSV 2 f_X9_gainOn 44), (44, oGoto 50), (47, oConst (-9999) 50), (50, oIret)]
noncomputable def f_X9_gain : xRun := xrun k_X9_gain 2
set_option maxHeartbeats 4000000 in
set_option maxRecDepth 100000 in
theorem m_X9_gain (l : Launch) (g : xG) : xMet l g yX9_gain cX9_gain 2 (some .int) 7 161 f_X9_gain := by
  refine xmet_of (own := RX9) (by decide +kernel) rfl (fun p e s m args below meth c r0 C => ?_)
  refine xAll_c (xs_aload_n C dX9_gain_0 rfl) ?_
  refine xAll_c (xs_aload_n C dX9_gain_1 rfl) ?_
  refine xAll_c (xs_getR C dX9_gain_2 (rfl : vwCl[9]? = some (RX9, TX9, 17)) win9 rfl (by decide) (by decide) rfl wm1021) ?_
  refine xAll_c (xs_iload_n C dX9_gain_5 rfl) ?_
  refine xAll_c (xs_callSV C (m_X9_isPage l g) dX9_gain_6 rfl ⟨(by decide), (by decide), by decide +kernel⟩ wm1190 wm1191 wm10 wm1192 ⟨Nat.le_of_ble_eq_true rfl, Nat.le_of_ble_eq_true rfl⟩) ?_
  refine xAll_c (xs_if_eq C dX9_gain_9 (by decide)) ?_
  refine xAll_c (xs_iconst C dX9_gain_12 (by decide)) ?_
  refine xAll_c (xs_goto C dX9_gain_13 (by decide)) ?_
  refine xAll_c (xs_iconst C dX9_gain_16 (by decide)) ?_
  refine xAll_c (xs_callV C (m_X9_refused l g) dX9_gain_17 (rfl : vwCl[9]? = some (RX9, TX9, 17)) (by decide) rfl ⟨(by decide), (by decide), by decide +kernel⟩ wm1082 wm1084 wp31 wm10 wm1085 ⟨Nat.le_of_ble_eq_true rfl, Nat.le_of_ble_eq_true rfl⟩) ?_
  refine xAll_c (xs_if_eq C dX9_gain_20 (by decide)) ?_
  refine xAll_c (xs_iconst C dX9_gain_23 (by decide)) ?_
  refine xAll_c (xs_iret C dX9_gain_24 rfl) ?_
  refine xAll_c (xs_aload_n C dX9_gain_25 rfl) ?_
  refine xAll_c (xs_getR C dX9_gain_26 (rfl : vwCl[9]? = some (RX9, TX9, 17)) win9 rfl (by decide) (by decide) rfl wm1021) ?_
  refine xAll_c (xs_iload_n C dX9_gain_29 rfl) ?_
  refine xAll_c (xs_callSV C (m_X9_whyNotMerge l g) dX9_gain_30 rfl ⟨(by decide), (by decide), by decide +kernel⟩ wm1287 wm1288 wm10 wm1289 ⟨Nat.le_of_ble_eq_true rfl, Nat.le_of_ble_eq_true rfl⟩) ?_
  refine xAll_c (xs_if_ne C dX9_gain_33 (by decide)) ?_
  refine xAll_c (xs_aload_n C dX9_gain_36 rfl) ?_
  refine xAll_c (xs_getR C dX9_gain_37 (rfl : vwCl[9]? = some (RX9, TX9, 17)) win9 rfl (by decide) (by decide) rfl wm1021) ?_
  refine xAll_c (xs_iload_n C dX9_gain_40 rfl) ?_
  refine xAll_c (xs_callSV C (m_X9_gainOn l g) dX9_gain_41 rfl ⟨(by decide), (by decide), by decide +kernel⟩ wm1303 wm1304 wm10 wm1305 ⟨Nat.le_of_ble_eq_true rfl, Nat.le_of_ble_eq_true rfl⟩) ?_
  refine xAll_c (xs_goto C dX9_gain_44 (by decide)) ?_
  refine xAll_c (xs_sipush C dX9_gain_47 (by decide)) ?_
  refine xAll_c (xs_iret C dX9_gain_50 rfl) ?_
  exact trivial
noncomputable def k_X9_bestCut : xCode := [(0, oAload 0 1), (1, oAload 0 2), (2, oGetR 9 4 5), (5, oIload 1 6), (6, oCallSV 2 f_X9_isPage 9), (9, oIf1 (fun x => decide (x = 0)) 16 12), (12, oConst (nI 0) 13), (13, oGoto 17), (16, oConst (nI 1) 17), (17, oCallV 9 1 f_X9_refused 20), (20, oIf1 (fun x => decide (x = 0)) 25 23), (23, oConst (nI 0) 24), (24, oIret), (25, oConst (nI 22) 27), (27, oAload 0 28), (28, oGetR 9 4 31), (31, oIload 1 32), (32, oCallSV 2 f_X9_firstOf 35), (35, oBin (fun x y => x + y) 36), (36, oIstore 2 8 37), (37, oAload 0 38), (38, oGetR 9 4 41), (41, oConst (nI 2) 42), (42, oIload 1 43), (43, oBin (fun x y => x + y) 44), (44, oIald 45), (45, oIstore 3 8 46), (46, oConst (-9999) 49), (49, oIstore 4 8 51), (51, oConst (nI 1000000) 53), (53, oIstore 5 8 55), (55, oConst (nI 1) 56), (56, oIstore 6 8 58), (58, oIload 6 60), (60, oIload 3 61), (61, oIf2 (fun x y => decide (y ≤ x)) 141 64), (64, oAload 0 65), (65, oGetR 9 4 68), (68, oIload 2 69), (69, oIload 6 71), (71, oAload 0 72), (72, oGetR 9 4 75), (75, oConst (nI 12) 77), (77, oIload 1 78), (78, oBin (fun x y => x + y) 79), (79, oIald 80), (80, oCallSV 4 f_X9_pinnedSize 83), (83, oAload 0 84), (84, oGetR 9 4 87), (87, oIload 2 88), (88, oIload 6 90), (90, oBin (fun x y => x + y) 91), (91, oIload 3 92), (92, oIload 6 94), (94, oBin (fun x y => x - y) 95), (95, oAload 0 96), (96, oGetR 9 4 99), (99, oConst (nI 12) 101), (101, oIload 1 102), (102, oBin (fun x y => x + y) 103), (103, oIald 104), (104, oCallSV 4 f_X9_pinnedSize 107), (107, oBin (fun x y => x + y) 108), (108, oIstore 7 8 110), (110, oIload 7 112), (112, oIload 5 114), (114, oIf2 (fun x y => decide (y ≤ x)) 122 117), (117, oIload 6 119), (119, oGoto 124), (122, oIload 4 124), (124, oIstore 4 8 126), (126, oIload 5 128), (128, oIload 7 130), (130, oCallSV 2 f_X9_less 133), (133, oIstore 5 8 135), (135, oIinc 6 (nI 1) 8 138), (138, oGoto 58), (141, oIload 4 143), (143, oIret)]
noncomputable def f_X9_bestCut : xRun := xrun k_X9_bestCut 8
set_option maxHeartbeats 4000000 in
set_option maxRecDepth 100000 in
theorem m_X9_bestCut (l : Launch) (g : xG) : xMet l g yX9_bestCut cX9_bestCut 8 (some .int) 5 118 f_X9_bestCut := by
  refine xmet_of (own := RX9) (by decide +kernel) rfl (fun p e s m args below meth c r0 C => ?_)
  refine xAll_c (xs_aload_n C dX9_bestCut_0 rfl) ?_
  refine xAll_c (xs_aload_n C dX9_bestCut_1 rfl) ?_
  refine xAll_c (xs_getR C dX9_bestCut_2 (rfl : vwCl[9]? = some (RX9, TX9, 17)) win9 rfl (by decide) (by decide) rfl wm1021) ?_
  refine xAll_c (xs_iload_n C dX9_bestCut_5 rfl) ?_
  refine xAll_c (xs_callSV C (m_X9_isPage l g) dX9_bestCut_6 rfl ⟨(by decide), (by decide), by decide +kernel⟩ wm1190 wm1191 wm10 wm1192 ⟨Nat.le_of_ble_eq_true rfl, Nat.le_of_ble_eq_true rfl⟩) ?_
  refine xAll_c (xs_if_eq C dX9_bestCut_9 (by decide)) ?_
  refine xAll_c (xs_iconst C dX9_bestCut_12 (by decide)) ?_
  refine xAll_c (xs_goto C dX9_bestCut_13 (by decide)) ?_
  refine xAll_c (xs_iconst C dX9_bestCut_16 (by decide)) ?_
  refine xAll_c (xs_callV C (m_X9_refused l g) dX9_bestCut_17 (rfl : vwCl[9]? = some (RX9, TX9, 17)) (by decide) rfl ⟨(by decide), (by decide), by decide +kernel⟩ wm1082 wm1084 wp31 wm10 wm1085 ⟨Nat.le_of_ble_eq_true rfl, Nat.le_of_ble_eq_true rfl⟩) ?_
  refine xAll_c (xs_if_eq C dX9_bestCut_20 (by decide)) ?_
  refine xAll_c (xs_iconst C dX9_bestCut_23 (by decide)) ?_
  refine xAll_c (xs_iret C dX9_bestCut_24 rfl) ?_
  refine xAll_c (xs_bipush C dX9_bestCut_25 (by decide)) ?_
  refine xAll_c (xs_aload_n C dX9_bestCut_27 rfl) ?_
  refine xAll_c (xs_getR C dX9_bestCut_28 (rfl : vwCl[9]? = some (RX9, TX9, 17)) win9 rfl (by decide) (by decide) rfl wm1021) ?_
  refine xAll_c (xs_iload_n C dX9_bestCut_31 rfl) ?_
  refine xAll_c (xs_callSV C (m_X9_firstOf l g) dX9_bestCut_32 rfl ⟨(by decide), (by decide), by decide +kernel⟩ wm1143 wm1144 wm10 wm1145 ⟨Nat.le_of_ble_eq_true rfl, Nat.le_of_ble_eq_true rfl⟩) ?_
  refine xAll_c (xs_iadd C dX9_bestCut_35) ?_
  refine xAll_c (xs_istore_n C dX9_bestCut_36 rfl) ?_
  refine xAll_c (xs_aload_n C dX9_bestCut_37 rfl) ?_
  refine xAll_c (xs_getR C dX9_bestCut_38 (rfl : vwCl[9]? = some (RX9, TX9, 17)) win9 rfl (by decide) (by decide) rfl wm1021) ?_
  refine xAll_c (xs_iconst C dX9_bestCut_41 (by decide)) ?_
  refine xAll_c (xs_iload_n C dX9_bestCut_42 rfl) ?_
  refine xAll_c (xs_iadd C dX9_bestCut_43) ?_
  refine xAll_c (xs_iald C dX9_bestCut_44) ?_
  refine xAll_c (xs_istore_n C dX9_bestCut_45 rfl) ?_
  refine xAll_c (xs_sipush C dX9_bestCut_46 (by decide)) ?_
  refine xAll_c (xs_istore C dX9_bestCut_49) ?_
  refine xAll_c (xs_ldc C dX9_bestCut_51 wm1331) ?_
  refine xAll_c (xs_istore C dX9_bestCut_53) ?_
  refine xAll_c (xs_iconst C dX9_bestCut_55 (by decide)) ?_
  refine xAll_c (xs_istore C dX9_bestCut_56) ?_
  refine xAll_c (xs_iload C dX9_bestCut_58) ?_
  refine xAll_c (xs_iload_n C dX9_bestCut_60 rfl) ?_
  refine xAll_c (xs_icmp_ge C dX9_bestCut_61 (by decide)) ?_
  refine xAll_c (xs_aload_n C dX9_bestCut_64 rfl) ?_
  refine xAll_c (xs_getR C dX9_bestCut_65 (rfl : vwCl[9]? = some (RX9, TX9, 17)) win9 rfl (by decide) (by decide) rfl wm1021) ?_
  refine xAll_c (xs_iload_n C dX9_bestCut_68 rfl) ?_
  refine xAll_c (xs_iload C dX9_bestCut_69) ?_
  refine xAll_c (xs_aload_n C dX9_bestCut_71 rfl) ?_
  refine xAll_c (xs_getR C dX9_bestCut_72 (rfl : vwCl[9]? = some (RX9, TX9, 17)) win9 rfl (by decide) (by decide) rfl wm1021) ?_
  refine xAll_c (xs_bipush C dX9_bestCut_75 (by decide)) ?_
  refine xAll_c (xs_iload_n C dX9_bestCut_77 rfl) ?_
  refine xAll_c (xs_iadd C dX9_bestCut_78) ?_
  refine xAll_c (xs_iald C dX9_bestCut_79) ?_
  refine xAll_c (xs_callSV C (m_X9_pinnedSize l g) dX9_bestCut_80 rfl ⟨(by decide), (by decide), by decide +kernel⟩ wm1152 wm1153 wm10 wm1154 ⟨Nat.le_of_ble_eq_true rfl, Nat.le_of_ble_eq_true rfl⟩) ?_
  refine xAll_c (xs_aload_n C dX9_bestCut_83 rfl) ?_
  refine xAll_c (xs_getR C dX9_bestCut_84 (rfl : vwCl[9]? = some (RX9, TX9, 17)) win9 rfl (by decide) (by decide) rfl wm1021) ?_
  refine xAll_c (xs_iload_n C dX9_bestCut_87 rfl) ?_
  refine xAll_c (xs_iload C dX9_bestCut_88) ?_
  refine xAll_c (xs_iadd C dX9_bestCut_90) ?_
  refine xAll_c (xs_iload_n C dX9_bestCut_91 rfl) ?_
  refine xAll_c (xs_iload C dX9_bestCut_92) ?_
  refine xAll_c (xs_isub C dX9_bestCut_94) ?_
  refine xAll_c (xs_aload_n C dX9_bestCut_95 rfl) ?_
  refine xAll_c (xs_getR C dX9_bestCut_96 (rfl : vwCl[9]? = some (RX9, TX9, 17)) win9 rfl (by decide) (by decide) rfl wm1021) ?_
  refine xAll_c (xs_bipush C dX9_bestCut_99 (by decide)) ?_
  refine xAll_c (xs_iload_n C dX9_bestCut_101 rfl) ?_
  refine xAll_c (xs_iadd C dX9_bestCut_102) ?_
  refine xAll_c (xs_iald C dX9_bestCut_103) ?_
  refine xAll_c (xs_callSV C (m_X9_pinnedSize l g) dX9_bestCut_104 rfl ⟨(by decide), (by decide), by decide +kernel⟩ wm1152 wm1153 wm10 wm1154 ⟨Nat.le_of_ble_eq_true rfl, Nat.le_of_ble_eq_true rfl⟩) ?_
  refine xAll_c (xs_iadd C dX9_bestCut_107) ?_
  refine xAll_c (xs_istore C dX9_bestCut_108) ?_
  refine xAll_c (xs_iload C dX9_bestCut_110) ?_
  refine xAll_c (xs_iload C dX9_bestCut_112) ?_
  refine xAll_c (xs_icmp_ge C dX9_bestCut_114 (by decide)) ?_
  refine xAll_c (xs_iload C dX9_bestCut_117) ?_
  refine xAll_c (xs_goto C dX9_bestCut_119 (by decide)) ?_
  refine xAll_c (xs_iload C dX9_bestCut_122) ?_
  refine xAll_c (xs_istore C dX9_bestCut_124) ?_
  refine xAll_c (xs_iload C dX9_bestCut_126) ?_
  refine xAll_c (xs_iload C dX9_bestCut_128) ?_
  refine xAll_c (xs_callSV C (m_X9_less l g) dX9_bestCut_130 rfl ⟨(by decide), (by decide), by decide +kernel⟩ wm1106 wm1107 wm10 wm1108 ⟨Nat.le_of_ble_eq_true rfl, Nat.le_of_ble_eq_true rfl⟩) ?_
  refine xAll_c (xs_istore C dX9_bestCut_133) ?_
  refine xAll_c (xs_iinc C dX9_bestCut_135 rfl) ?_
  refine xAll_c (xs_goto C dX9_bestCut_138 (by decide)) ?_
  refine xAll_c (xs_iload C dX9_bestCut_141) ?_
  refine xAll_c (xs_iret C dX9_bestCut_143 rfl) ?_
  exact trivial
noncomputable def k_X9_smallest : xCode := [(0, oAload 0 1), (1, oGetR 9 4 4), (4, oCallSV 1 f_X9_valuesOf 7), (7, oIstore 1 4 8), (8, oAload 0 9), (9, oGetR 9 16 12), (12, oConst (nI 0) 13), (13, oConst (nI 0) 14), (14, oIast 15), (15, oConst (nI 1) 16), (16, oIstore 2 4 17), (17, oIload 2 18), (18, oIload 1 19), (19, oIf2 (fun x y => decide (y < x)) 94 22), (22, oAload 0 23), (23, oGetR 9 16 26), (26, oIload 2 27), (27, oConst (nI 1000000) 29), (29, oIast 30), (30, oConst (nI 1) 31), (31, oIstore 3 4 32), (32, oIload 3 33), (33, oConst (nI 12) 35), (35, oIf2 (fun x y => decide (y < x)) 88 38), (38, oIload 3 39), (39, oIload 2 40), (40, oIf2 (fun x y => decide (y < x)) 88 43), (43, oAload 0 44), (44, oGetR 9 16 47), (47, oIload 2 48), (48, oAload 0 49), (49, oGetR 9 16 52), (52, oIload 2 53), (53, oIald 54), (54, oAload 0 55), (55, oGetR 9 16 58), (58, oIload 2 59), (59, oIload 3 60), (60, oBin (fun x y => x - y) 61), (61, oIald 62), (62, oAload 0 63), (63, oGetR 9 4 66), (66, oConst (nI 22) 68), (68, oIload 2 69), (69, oBin (fun x y => x + y) 70), (70, oIload 3 71), (71, oBin (fun x y => x - y) 72), (72, oIload 3 73), (73, oConst (nI 0) 74), (74, oCallSV 4 f_X9_pinnedSize 77), (77, oBin (fun x y => x + y) 78), (78, oCallSV 2 f_X9_less 81), (81, oIast 82), (82, oIinc 3 (nI 1) 4 85), (85, oGoto 32), (88, oIinc 2 (nI 1) 4 91), (91, oGoto 17), (94, oAload 0 95), (95, oGetR 9 16 98), (98, oIload 1 99), (99, oIald 100), (100, oIret)]
noncomputable def f_X9_smallest : xRun := xrun k_X9_smallest 4
set_option maxHeartbeats 4000000 in
set_option maxRecDepth 100000 in
theorem m_X9_smallest (l : Launch) (g : xG) : xMet l g yX9_smallest cX9_smallest 4 (some .int) 5 118 f_X9_smallest := by
  refine xmet_of (own := RX9) (by decide +kernel) rfl (fun p e s m args below meth c r0 C => ?_)
  refine xAll_c (xs_aload_n C dX9_smallest_0 rfl) ?_
  refine xAll_c (xs_getR C dX9_smallest_1 (rfl : vwCl[9]? = some (RX9, TX9, 17)) win9 rfl (by decide) (by decide) rfl wm1021) ?_
  refine xAll_c (xs_callSV C (m_X9_valuesOf l g) dX9_smallest_4 rfl ⟨(by decide), (by decide), by decide +kernel⟩ wm1140 wm1141 wm10 wm1142 ⟨Nat.le_of_ble_eq_true rfl, Nat.le_of_ble_eq_true rfl⟩) ?_
  refine xAll_c (xs_istore_n C dX9_smallest_7 rfl) ?_
  refine xAll_c (xs_aload_n C dX9_smallest_8 rfl) ?_
  refine xAll_c (xs_getR C dX9_smallest_9 (rfl : vwCl[9]? = some (RX9, TX9, 17)) win9 rfl (by decide) (by decide) rfl wm1033) ?_
  refine xAll_c (xs_iconst C dX9_smallest_12 (by decide)) ?_
  refine xAll_c (xs_iconst C dX9_smallest_13 (by decide)) ?_
  refine xAll_c (xs_iast C dX9_smallest_14) ?_
  refine xAll_c (xs_iconst C dX9_smallest_15 (by decide)) ?_
  refine xAll_c (xs_istore_n C dX9_smallest_16 rfl) ?_
  refine xAll_c (xs_iload_n C dX9_smallest_17 rfl) ?_
  refine xAll_c (xs_iload_n C dX9_smallest_18 rfl) ?_
  refine xAll_c (xs_icmp_gt C dX9_smallest_19 (by decide)) ?_
  refine xAll_c (xs_aload_n C dX9_smallest_22 rfl) ?_
  refine xAll_c (xs_getR C dX9_smallest_23 (rfl : vwCl[9]? = some (RX9, TX9, 17)) win9 rfl (by decide) (by decide) rfl wm1033) ?_
  refine xAll_c (xs_iload_n C dX9_smallest_26 rfl) ?_
  refine xAll_c (xs_ldc C dX9_smallest_27 wm1331) ?_
  refine xAll_c (xs_iast C dX9_smallest_29) ?_
  refine xAll_c (xs_iconst C dX9_smallest_30 (by decide)) ?_
  refine xAll_c (xs_istore_n C dX9_smallest_31 rfl) ?_
  refine xAll_c (xs_iload_n C dX9_smallest_32 rfl) ?_
  refine xAll_c (xs_bipush C dX9_smallest_33 (by decide)) ?_
  refine xAll_c (xs_icmp_gt C dX9_smallest_35 (by decide)) ?_
  refine xAll_c (xs_iload_n C dX9_smallest_38 rfl) ?_
  refine xAll_c (xs_iload_n C dX9_smallest_39 rfl) ?_
  refine xAll_c (xs_icmp_gt C dX9_smallest_40 (by decide)) ?_
  refine xAll_c (xs_aload_n C dX9_smallest_43 rfl) ?_
  refine xAll_c (xs_getR C dX9_smallest_44 (rfl : vwCl[9]? = some (RX9, TX9, 17)) win9 rfl (by decide) (by decide) rfl wm1033) ?_
  refine xAll_c (xs_iload_n C dX9_smallest_47 rfl) ?_
  refine xAll_c (xs_aload_n C dX9_smallest_48 rfl) ?_
  refine xAll_c (xs_getR C dX9_smallest_49 (rfl : vwCl[9]? = some (RX9, TX9, 17)) win9 rfl (by decide) (by decide) rfl wm1033) ?_
  refine xAll_c (xs_iload_n C dX9_smallest_52 rfl) ?_
  refine xAll_c (xs_iald C dX9_smallest_53) ?_
  refine xAll_c (xs_aload_n C dX9_smallest_54 rfl) ?_
  refine xAll_c (xs_getR C dX9_smallest_55 (rfl : vwCl[9]? = some (RX9, TX9, 17)) win9 rfl (by decide) (by decide) rfl wm1033) ?_
  refine xAll_c (xs_iload_n C dX9_smallest_58 rfl) ?_
  refine xAll_c (xs_iload_n C dX9_smallest_59 rfl) ?_
  refine xAll_c (xs_isub C dX9_smallest_60) ?_
  refine xAll_c (xs_iald C dX9_smallest_61) ?_
  refine xAll_c (xs_aload_n C dX9_smallest_62 rfl) ?_
  refine xAll_c (xs_getR C dX9_smallest_63 (rfl : vwCl[9]? = some (RX9, TX9, 17)) win9 rfl (by decide) (by decide) rfl wm1021) ?_
  refine xAll_c (xs_bipush C dX9_smallest_66 (by decide)) ?_
  refine xAll_c (xs_iload_n C dX9_smallest_68 rfl) ?_
  refine xAll_c (xs_iadd C dX9_smallest_69) ?_
  refine xAll_c (xs_iload_n C dX9_smallest_70 rfl) ?_
  refine xAll_c (xs_isub C dX9_smallest_71) ?_
  refine xAll_c (xs_iload_n C dX9_smallest_72 rfl) ?_
  refine xAll_c (xs_iconst C dX9_smallest_73 (by decide)) ?_
  refine xAll_c (xs_callSV C (m_X9_pinnedSize l g) dX9_smallest_74 rfl ⟨(by decide), (by decide), by decide +kernel⟩ wm1152 wm1153 wm10 wm1154 ⟨Nat.le_of_ble_eq_true rfl, Nat.le_of_ble_eq_true rfl⟩) ?_
  refine xAll_c (xs_iadd C dX9_smallest_77) ?_
  refine xAll_c (xs_callSV C (m_X9_less l g) dX9_smallest_78 rfl ⟨(by decide), (by decide), by decide +kernel⟩ wm1106 wm1107 wm10 wm1108 ⟨Nat.le_of_ble_eq_true rfl, Nat.le_of_ble_eq_true rfl⟩) ?_
  refine xAll_c (xs_iast C dX9_smallest_81) ?_
  refine xAll_c (xs_iinc C dX9_smallest_82 rfl) ?_
  refine xAll_c (xs_goto C dX9_smallest_85 (by decide)) ?_
  refine xAll_c (xs_iinc C dX9_smallest_88 rfl) ?_
  refine xAll_c (xs_goto C dX9_smallest_91 (by decide)) ?_
  refine xAll_c (xs_aload_n C dX9_smallest_94 rfl) ?_
  refine xAll_c (xs_getR C dX9_smallest_95 (rfl : vwCl[9]? = some (RX9, TX9, 17)) win9 rfl (by decide) (by decide) rfl wm1033) ?_
  refine xAll_c (xs_iload_n C dX9_smallest_98 rfl) ?_
  refine xAll_c (xs_iald C dX9_smallest_99) ?_
  refine xAll_c (xs_iret C dX9_smallest_100 rfl) ?_
  exact trivial
noncomputable def k_X9_bestNext : xCode := [(0, oAload 0 1), (1, oAload 0 2), (2, oGetR 9 4 5), (5, oIload 1 6), (6, oCallSV 2 f_X9_isPage 9), (9, oIf1 (fun x => decide (x = 0)) 16 12), (12, oConst (nI 0) 13), (13, oGoto 17), (16, oConst (nI 1) 17), (17, oCallV 9 1 f_X9_refused 20), (20, oIf1 (fun x => decide (x = 0)) 25 23), (23, oConst (nI 0) 24), (24, oIret), (25, oConst (nI 22) 27), (27, oAload 0 28), (28, oGetR 9 4 31), (31, oIload 1 32), (32, oCallSV 2 f_X9_firstOf 35), (35, oBin (fun x y => x + y) 36), (36, oIstore 2 8 37), (37, oAload 0 38), (38, oGetR 9 4 41), (41, oConst (nI 2) 42), (42, oIload 1 43), (43, oBin (fun x y => x + y) 44), (44, oIald 45), (45, oIstore 3 8 46), (46, oIload 3 47), (47, oConst (nI 12) 49), (49, oIf2 (fun x y => !(decide (x = y))) 56 52), (52, oConst (-9999) 55), (55, oIret), (56, oConst (nI 0) 57), (57, oIstore 4 8 59), (59, oIload 4 61), (61, oIload 3 62), (62, oIf2 (fun x y => decide (y ≤ x)) 87 65), (65, oAload 0 66), (66, oGetR 9 6 69), (69, oIload 4 71), (71, oAload 0 72), (72, oGetR 9 4 75), (75, oIload 2 76), (76, oIload 4 78), (78, oBin (fun x y => x + y) 79), (79, oIald 80), (80, oIast 81), (81, oIinc 4 (nI 1) 8 84), (84, oGoto 59), (87, oConst (-9999) 90), (90, oIstore 4 8 92), (92, oConst (nI 1000000) 94), (94, oIstore 5 8 96), (96, oConst (nI 0) 97), (97, oIstore 6 8 99), (99, oIload 6 101), (101, oConst (nI 1023) 104), (104, oIf2 (fun x y => decide (y < x)) 168 107), (107, oAload 0 108), (108, oGetR 9 6 111), (111, oIload 3 112), (112, oIload 6 114), (114, oIast 115), (115, oAload 0 116), (116, oGetR 9 6 119), (119, oConst (nI 0) 120), (120, oIload 3 121), (121, oConst (nI 1) 122), (122, oBin (fun x y => x + y) 123), (123, oAload 0 124), (124, oGetR 9 4 127), (127, oConst (nI 12) 129), (129, oIload 1 130), (130, oBin (fun x y => x + y) 131), (131, oIald 132), (132, oCallSV 4 f_X9_pinnedSize 135), (135, oIstore 7 8 137), (137, oIload 7 139), (139, oIload 5 141), (141, oIf2 (fun x y => decide (y ≤ x)) 149 144), (144, oIload 6 146), (146, oGoto 151), (149, oIload 4 151), (151, oIstore 4 8 153), (153, oIload 5 155), (155, oIload 7 157), (157, oCallSV 2 f_X9_less 160), (160, oIstore 5 8 162), (162, oIinc 6 (nI 1) 8 165), (165, oGoto 99), (168, oIload 4 170), (170, oIret)]
noncomputable def f_X9_bestNext : xRun := xrun k_X9_bestNext 8
set_option maxHeartbeats 4000000 in
set_option maxRecDepth 100000 in
theorem m_X9_bestNext (l : Launch) (g : xG) : xMet l g yX9_bestNext cX9_bestNext 8 (some .int) 5 118 f_X9_bestNext := by
  refine xmet_of (own := RX9) (by decide +kernel) rfl (fun p e s m args below meth c r0 C => ?_)
  refine xAll_c (xs_aload_n C dX9_bestNext_0 rfl) ?_
  refine xAll_c (xs_aload_n C dX9_bestNext_1 rfl) ?_
  refine xAll_c (xs_getR C dX9_bestNext_2 (rfl : vwCl[9]? = some (RX9, TX9, 17)) win9 rfl (by decide) (by decide) rfl wm1021) ?_
  refine xAll_c (xs_iload_n C dX9_bestNext_5 rfl) ?_
  refine xAll_c (xs_callSV C (m_X9_isPage l g) dX9_bestNext_6 rfl ⟨(by decide), (by decide), by decide +kernel⟩ wm1190 wm1191 wm10 wm1192 ⟨Nat.le_of_ble_eq_true rfl, Nat.le_of_ble_eq_true rfl⟩) ?_
  refine xAll_c (xs_if_eq C dX9_bestNext_9 (by decide)) ?_
  refine xAll_c (xs_iconst C dX9_bestNext_12 (by decide)) ?_
  refine xAll_c (xs_goto C dX9_bestNext_13 (by decide)) ?_
  refine xAll_c (xs_iconst C dX9_bestNext_16 (by decide)) ?_
  refine xAll_c (xs_callV C (m_X9_refused l g) dX9_bestNext_17 (rfl : vwCl[9]? = some (RX9, TX9, 17)) (by decide) rfl ⟨(by decide), (by decide), by decide +kernel⟩ wm1082 wm1084 wp31 wm10 wm1085 ⟨Nat.le_of_ble_eq_true rfl, Nat.le_of_ble_eq_true rfl⟩) ?_
  refine xAll_c (xs_if_eq C dX9_bestNext_20 (by decide)) ?_
  refine xAll_c (xs_iconst C dX9_bestNext_23 (by decide)) ?_
  refine xAll_c (xs_iret C dX9_bestNext_24 rfl) ?_
  refine xAll_c (xs_bipush C dX9_bestNext_25 (by decide)) ?_
  refine xAll_c (xs_aload_n C dX9_bestNext_27 rfl) ?_
  refine xAll_c (xs_getR C dX9_bestNext_28 (rfl : vwCl[9]? = some (RX9, TX9, 17)) win9 rfl (by decide) (by decide) rfl wm1021) ?_
  refine xAll_c (xs_iload_n C dX9_bestNext_31 rfl) ?_
  refine xAll_c (xs_callSV C (m_X9_firstOf l g) dX9_bestNext_32 rfl ⟨(by decide), (by decide), by decide +kernel⟩ wm1143 wm1144 wm10 wm1145 ⟨Nat.le_of_ble_eq_true rfl, Nat.le_of_ble_eq_true rfl⟩) ?_
  refine xAll_c (xs_iadd C dX9_bestNext_35) ?_
  refine xAll_c (xs_istore_n C dX9_bestNext_36 rfl) ?_
  refine xAll_c (xs_aload_n C dX9_bestNext_37 rfl) ?_
  refine xAll_c (xs_getR C dX9_bestNext_38 (rfl : vwCl[9]? = some (RX9, TX9, 17)) win9 rfl (by decide) (by decide) rfl wm1021) ?_
  refine xAll_c (xs_iconst C dX9_bestNext_41 (by decide)) ?_
  refine xAll_c (xs_iload_n C dX9_bestNext_42 rfl) ?_
  refine xAll_c (xs_iadd C dX9_bestNext_43) ?_
  refine xAll_c (xs_iald C dX9_bestNext_44) ?_
  refine xAll_c (xs_istore_n C dX9_bestNext_45 rfl) ?_
  refine xAll_c (xs_iload_n C dX9_bestNext_46 rfl) ?_
  refine xAll_c (xs_bipush C dX9_bestNext_47 (by decide)) ?_
  refine xAll_c (xs_icmp_ne C dX9_bestNext_49 (by decide)) ?_
  refine xAll_c (xs_sipush C dX9_bestNext_52 (by decide)) ?_
  refine xAll_c (xs_iret C dX9_bestNext_55 rfl) ?_
  refine xAll_c (xs_iconst C dX9_bestNext_56 (by decide)) ?_
  refine xAll_c (xs_istore C dX9_bestNext_57) ?_
  refine xAll_c (xs_iload C dX9_bestNext_59) ?_
  refine xAll_c (xs_iload_n C dX9_bestNext_61 rfl) ?_
  refine xAll_c (xs_icmp_ge C dX9_bestNext_62 (by decide)) ?_
  refine xAll_c (xs_aload_n C dX9_bestNext_65 rfl) ?_
  refine xAll_c (xs_getR C dX9_bestNext_66 (rfl : vwCl[9]? = some (RX9, TX9, 17)) win9 rfl (by decide) (by decide) rfl wm1023) ?_
  refine xAll_c (xs_iload C dX9_bestNext_69) ?_
  refine xAll_c (xs_aload_n C dX9_bestNext_71 rfl) ?_
  refine xAll_c (xs_getR C dX9_bestNext_72 (rfl : vwCl[9]? = some (RX9, TX9, 17)) win9 rfl (by decide) (by decide) rfl wm1021) ?_
  refine xAll_c (xs_iload_n C dX9_bestNext_75 rfl) ?_
  refine xAll_c (xs_iload C dX9_bestNext_76) ?_
  refine xAll_c (xs_iadd C dX9_bestNext_78) ?_
  refine xAll_c (xs_iald C dX9_bestNext_79) ?_
  refine xAll_c (xs_iast C dX9_bestNext_80) ?_
  refine xAll_c (xs_iinc C dX9_bestNext_81 rfl) ?_
  refine xAll_c (xs_goto C dX9_bestNext_84 (by decide)) ?_
  refine xAll_c (xs_sipush C dX9_bestNext_87 (by decide)) ?_
  refine xAll_c (xs_istore C dX9_bestNext_90) ?_
  refine xAll_c (xs_ldc C dX9_bestNext_92 wm1331) ?_
  refine xAll_c (xs_istore C dX9_bestNext_94) ?_
  refine xAll_c (xs_iconst C dX9_bestNext_96 (by decide)) ?_
  refine xAll_c (xs_istore C dX9_bestNext_97) ?_
  refine xAll_c (xs_iload C dX9_bestNext_99) ?_
  refine xAll_c (xs_sipush C dX9_bestNext_101 (by decide)) ?_
  refine xAll_c (xs_icmp_gt C dX9_bestNext_104 (by decide)) ?_
  refine xAll_c (xs_aload_n C dX9_bestNext_107 rfl) ?_
  refine xAll_c (xs_getR C dX9_bestNext_108 (rfl : vwCl[9]? = some (RX9, TX9, 17)) win9 rfl (by decide) (by decide) rfl wm1023) ?_
  refine xAll_c (xs_iload_n C dX9_bestNext_111 rfl) ?_
  refine xAll_c (xs_iload C dX9_bestNext_112) ?_
  refine xAll_c (xs_iast C dX9_bestNext_114) ?_
  refine xAll_c (xs_aload_n C dX9_bestNext_115 rfl) ?_
  refine xAll_c (xs_getR C dX9_bestNext_116 (rfl : vwCl[9]? = some (RX9, TX9, 17)) win9 rfl (by decide) (by decide) rfl wm1023) ?_
  refine xAll_c (xs_iconst C dX9_bestNext_119 (by decide)) ?_
  refine xAll_c (xs_iload_n C dX9_bestNext_120 rfl) ?_
  refine xAll_c (xs_iconst C dX9_bestNext_121 (by decide)) ?_
  refine xAll_c (xs_iadd C dX9_bestNext_122) ?_
  refine xAll_c (xs_aload_n C dX9_bestNext_123 rfl) ?_
  refine xAll_c (xs_getR C dX9_bestNext_124 (rfl : vwCl[9]? = some (RX9, TX9, 17)) win9 rfl (by decide) (by decide) rfl wm1021) ?_
  refine xAll_c (xs_bipush C dX9_bestNext_127 (by decide)) ?_
  refine xAll_c (xs_iload_n C dX9_bestNext_129 rfl) ?_
  refine xAll_c (xs_iadd C dX9_bestNext_130) ?_
  refine xAll_c (xs_iald C dX9_bestNext_131) ?_
  refine xAll_c (xs_callSV C (m_X9_pinnedSize l g) dX9_bestNext_132 rfl ⟨(by decide), (by decide), by decide +kernel⟩ wm1152 wm1153 wm10 wm1154 ⟨Nat.le_of_ble_eq_true rfl, Nat.le_of_ble_eq_true rfl⟩) ?_
  refine xAll_c (xs_istore C dX9_bestNext_135) ?_
  refine xAll_c (xs_iload C dX9_bestNext_137) ?_
  refine xAll_c (xs_iload C dX9_bestNext_139) ?_
  refine xAll_c (xs_icmp_ge C dX9_bestNext_141 (by decide)) ?_
  refine xAll_c (xs_iload C dX9_bestNext_144) ?_
  refine xAll_c (xs_goto C dX9_bestNext_146 (by decide)) ?_
  refine xAll_c (xs_iload C dX9_bestNext_149) ?_
  refine xAll_c (xs_istore C dX9_bestNext_151) ?_
  refine xAll_c (xs_iload C dX9_bestNext_153) ?_
  refine xAll_c (xs_iload C dX9_bestNext_155) ?_
  refine xAll_c (xs_callSV C (m_X9_less l g) dX9_bestNext_157 rfl ⟨(by decide), (by decide), by decide +kernel⟩ wm1106 wm1107 wm10 wm1108 ⟨Nat.le_of_ble_eq_true rfl, Nat.le_of_ble_eq_true rfl⟩) ?_
  refine xAll_c (xs_istore C dX9_bestNext_160) ?_
  refine xAll_c (xs_iinc C dX9_bestNext_162 rfl) ?_
  refine xAll_c (xs_goto C dX9_bestNext_165 (by decide)) ?_
  refine xAll_c (xs_iload C dX9_bestNext_168) ?_
  refine xAll_c (xs_iret C dX9_bestNext_170 rfl) ?_
  exact trivial
noncomputable def k_X9_command : xCode := [(0, oConst (nI 10) 2), (2, oIload 2 3), (3, oBin (fun x y => x * y) 4), (4, oIload 3 5), (5, oConst (nI 1000) 8), (8, oDiv (fun x y => x / y) 9), (9, oBin (fun x y => x + y) 10), (10, oIstore 4 7 12), (12, oIload 3 13), (13, oConst (nI 1000) 16), (16, oDiv (fun x y => x - x / y * y) 17), (17, oIstore 5 7 19), (19, oIload 1 20), (20, oTab 1 [72, 110, 138, 173, 211, 238, 260, 281, 319] 374), (72, oIload 2 73), (73, oIf1 (fun x => !(decide (x = 0))) 108 76), (76, oIload 3 77), (77, oConst (nI 1023) 80), (80, oIf2 (fun x y => decide (y < x)) 108 83), (83, oAload 0 84), (84, oGetR 9 5 87), (87, oCallSV 1 f_X9_canAdd 90), (90, oIf1 (fun x => decide (x = 0)) 108 93), (93, oAload 0 94), (94, oGetR 9 5 97), (97, oIload 3 98), (98, oCallSV 2 f_X9_addOn 101), (101, oIf1 (fun x => decide (x < 0)) 108 104), (104, oConst (nI 1) 105), (105, oGoto 109), (108, oConst (nI 0) 109), (109, oZret), (110, oAload 0 111), (111, oGetR 9 5 114), (114, oIload 4 116), (116, oCallSV 2 f_X9_isValue 119), (119, oIf1 (fun x => !(decide (x = 0))) 124 122), (122, oConst (nI 0) 123), (123, oZret), (124, oAload 0 125), (125, oGetR 9 5 128), (128, oConst (nI 22) 130), (130, oIload 4 132), (132, oBin (fun x y => x + y) 133), (133, oIload 5 135), (135, oIast 136), (136, oConst (nI 1) 137), (137, oZret), (138, oIload 5 140), (140, oIf1 (fun x => !(decide (x = 0))) 171 143), (143, oAload 0 144), (144, oGetR 9 5 147), (147, oIload 4 149), (149, oCallSV 2 f_X9_isValue 152), (152, oIf1 (fun x => decide (x = 0)) 171 155), (155, oAload 0 156), (156, oGetR 9 5 159), (159, oIload 4 161), (161, oCallSV 2 f_X9_removeOn 164), (164, oIf1 (fun x => decide (x < 0)) 171 167), (167, oConst (nI 1) 168), (168, oGoto 172), (171, oConst (nI 0) 172), (172, oZret), (173, oIload 3 174), (174, oConst (nI 100) 176), (176, oDiv (fun x y => x - x / y * y) 177), (177, oIf1 (fun x => decide (0 < x)) 195 180), (180, oAload 0 181), (181, oGetR 9 5 184), (184, oIload 2 185), (185, oIload 3 186), (186, oConst (nI 100) 188), (188, oDiv (fun x y => x / y) 189), (189, oCallSV 3 f_X9_whyNotCut 192), (192, oIf1 (fun x => decide (x = 0)) 197 195), (195, oConst (nI 0) 196), (196, oZret), (197, oAload 0 198), (198, oGetR 9 5 201), (201, oIload 2 202), (202, oIload 3 203), (203, oConst (nI 100) 205), (205, oDiv (fun x y => x / y) 206), (206, oCallSU 3 f_X9_cutOn 209), (209, oConst (nI 1) 210), (210, oZret), (211, oIload 3 212), (212, oIf1 (fun x => decide (0 < x)) 226 215), (215, oAload 0 216), (216, oGetR 9 5 219), (219, oIload 2 220), (220, oCallSV 2 f_X9_whyNotMerge 223), (223, oIf1 (fun x => decide (x = 0)) 228 226), (226, oConst (nI 0) 227), (227, oZret), (228, oAload 0 229), (229, oGetR 9 5 232), (232, oIload 2 233), (233, oCallSU 2 f_X9_mergeOn 236), (236, oConst (nI 1) 237), (237, oZret), (238, oIload 2 239), (239, oIload 3 240), (240, oBin (fun x y => x + y) 241), (241, oIf1 (fun x => !(decide (x = 0))) 258 244), (244, oAload 0 245), (245, oGetR 9 5 248), (248, oCallSV 1 f_X9_compactOn 251), (251, oIf1 (fun x => decide (x < 0)) 258 254), (254, oConst (nI 1) 255), (255, oGoto 259), (258, oConst (nI 0) 259), (259, oZret), (260, oIload 2 261), (261, oIf1 (fun x => !(decide (x = 0))) 279 264), (264, oAload 0 265), (265, oGetR 9 5 268), (268, oCallSV 1 f_X9_sizeOfAll 271), (271, oIload 3 272), (272, oIf2 (fun x y => decide (y < x)) 279 275), (275, oConst (nI 1) 276), (276, oGoto 280), (279, oConst (nI 0) 280), (280, oZret), (281, oIload 5 283), (283, oIf1 (fun x => !(decide (x = 0))) 317 286), (286, oAload 0 287), (287, oGetR 9 5 290), (290, oIload 2 291), (291, oCallSV 2 f_X9_isPage 294), (294, oIf1 (fun x => decide (x = 0)) 317 297), (297, oAload 0 298), (298, oGetR 9 5 301), (301, oIload 2 302), (302, oCallSV 2 f_X9_codingOf 305), (305, oIload 3 306), (306, oConst (nI 1000) 309), (309, oDiv (fun x y => x / y) 310), (310, oIf2 (fun x y => !(decide (x = y))) 317 313), (313, oConst (nI 1) 314), (314, oGoto 318), (317, oConst (nI 0) 318), (318, oZret), (319, oAload 0 320), (320, oGetR 9 5 323), (323, oCallSV 1 f_X9_valuesOf 326), (326, oIstore 6 7 328), (328, oIload 2 329), (329, oIf1 (fun x => !(decide (x = 0))) 372 332), (332, oIload 3 333), (333, oConst (nI 10) 335), (335, oDiv (fun x y => x - x / y * y) 336), (336, oIf1 (fun x => !(decide (x = 0))) 372 339), (339, oAload 0 340), (340, oGetR 9 5 343), (343, oConst (nI 22) 345), (345, oIload 6 347), (347, oIload 3 348), (348, oConst (nI 10) 350), (350, oDiv (fun x y => x / y) 351), (351, oCallSV 4 f_X9_wordOf 354), (354, oAload 0 355), (355, oGetR 9 5 358), (358, oConst (nI 22) 360), (360, oIload 6 362), (362, oCallSV 3 f_X9_differentIn 365), (365, oIf2 (fun x y => decide (y ≤ x)) 372 368), (368, oConst (nI 1) 369), (369, oGoto 373), (372, oConst (nI 0) 373), (373, oZret), (374, oConst (nI 0) 375), (375, oZret)]
noncomputable def f_X9_command : xRun := xrun k_X9_command 7
set_option maxHeartbeats 4000000 in
set_option maxRecDepth 100000 in
theorem m_X9_command (l : Launch) (g : xG) : xMet l g yX9_command cX9_command 7 (some .boolean) 8 183 f_X9_command := by
  refine xmet_of (own := RX9) (by decide +kernel) rfl (fun p e s m args below meth c r0 C => ?_)
  refine xAll_c (xs_bipush C dX9_command_0 (by decide)) ?_
  refine xAll_c (xs_iload_n C dX9_command_2 rfl) ?_
  refine xAll_c (xs_imul C dX9_command_3) ?_
  refine xAll_c (xs_iload_n C dX9_command_4 rfl) ?_
  refine xAll_c (xs_sipush C dX9_command_5 (by decide)) ?_
  refine xAll_c (xs_idiv C dX9_command_8) ?_
  refine xAll_c (xs_iadd C dX9_command_9) ?_
  refine xAll_c (xs_istore C dX9_command_10) ?_
  refine xAll_c (xs_iload_n C dX9_command_12 rfl) ?_
  refine xAll_c (xs_sipush C dX9_command_13 (by decide)) ?_
  refine xAll_c (xs_irem C dX9_command_16) ?_
  refine xAll_c (xs_istore C dX9_command_17) ?_
  refine xAll_c (xs_iload_n C dX9_command_19 rfl) ?_
  refine xAll_c (xs_tab C dX9_command_20 (by decide) (by decide) (by decide)) ?_
  refine xAll_c (xs_iload_n C dX9_command_72 rfl) ?_
  refine xAll_c (xs_if_ne C dX9_command_73 (by decide)) ?_
  refine xAll_c (xs_iload_n C dX9_command_76 rfl) ?_
  refine xAll_c (xs_sipush C dX9_command_77 (by decide)) ?_
  refine xAll_c (xs_icmp_gt C dX9_command_80 (by decide)) ?_
  refine xAll_c (xs_aload_n C dX9_command_83 rfl) ?_
  refine xAll_c (xs_getR C dX9_command_84 (rfl : vwCl[9]? = some (RX9, TX9, 17)) win9 rfl (by decide) (by decide) rfl wm1022) ?_
  refine xAll_c (xs_callSV C (m_X9_canAdd l g) dX9_command_87 rfl ⟨(by decide), (by decide), by decide +kernel⟩ wm1240 wm1241 wm10 wm1242 ⟨Nat.le_of_ble_eq_true rfl, Nat.le_of_ble_eq_true rfl⟩) ?_
  refine xAll_c (xs_if_eq C dX9_command_90 (by decide)) ?_
  refine xAll_c (xs_aload_n C dX9_command_93 rfl) ?_
  refine xAll_c (xs_getR C dX9_command_94 (rfl : vwCl[9]? = some (RX9, TX9, 17)) win9 rfl (by decide) (by decide) rfl wm1022) ?_
  refine xAll_c (xs_iload_n C dX9_command_97 rfl) ?_
  refine xAll_c (xs_callSV C (m_X9_addOn l g) dX9_command_98 rfl ⟨(by decide), (by decide), by decide +kernel⟩ wm1253 wm1254 wm10 wm1255 ⟨Nat.le_of_ble_eq_true rfl, Nat.le_of_ble_eq_true rfl⟩) ?_
  refine xAll_c (xs_if_lt C dX9_command_101 (by decide)) ?_
  refine xAll_c (xs_iconst C dX9_command_104 (by decide)) ?_
  refine xAll_c (xs_goto C dX9_command_105 (by decide)) ?_
  refine xAll_c (xs_iconst C dX9_command_108 (by decide)) ?_
  refine xAll_c (xs_zret C dX9_command_109 rfl) ?_
  refine xAll_c (xs_aload_n C dX9_command_110 rfl) ?_
  refine xAll_c (xs_getR C dX9_command_111 (rfl : vwCl[9]? = some (RX9, TX9, 17)) win9 rfl (by decide) (by decide) rfl wm1022) ?_
  refine xAll_c (xs_iload C dX9_command_114) ?_
  refine xAll_c (xs_callSV C (m_X9_isValue l g) dX9_command_116 rfl ⟨(by decide), (by decide), by decide +kernel⟩ wm1183 wm1184 wm10 wm1185 ⟨Nat.le_of_ble_eq_true rfl, Nat.le_of_ble_eq_true rfl⟩) ?_
  refine xAll_c (xs_if_ne C dX9_command_119 (by decide)) ?_
  refine xAll_c (xs_iconst C dX9_command_122 (by decide)) ?_
  refine xAll_c (xs_zret C dX9_command_123 rfl) ?_
  refine xAll_c (xs_aload_n C dX9_command_124 rfl) ?_
  refine xAll_c (xs_getR C dX9_command_125 (rfl : vwCl[9]? = some (RX9, TX9, 17)) win9 rfl (by decide) (by decide) rfl wm1022) ?_
  refine xAll_c (xs_bipush C dX9_command_128 (by decide)) ?_
  refine xAll_c (xs_iload C dX9_command_130) ?_
  refine xAll_c (xs_iadd C dX9_command_132) ?_
  refine xAll_c (xs_iload C dX9_command_133) ?_
  refine xAll_c (xs_iast C dX9_command_135) ?_
  refine xAll_c (xs_iconst C dX9_command_136 (by decide)) ?_
  refine xAll_c (xs_zret C dX9_command_137 rfl) ?_
  refine xAll_c (xs_iload C dX9_command_138) ?_
  refine xAll_c (xs_if_ne C dX9_command_140 (by decide)) ?_
  refine xAll_c (xs_aload_n C dX9_command_143 rfl) ?_
  refine xAll_c (xs_getR C dX9_command_144 (rfl : vwCl[9]? = some (RX9, TX9, 17)) win9 rfl (by decide) (by decide) rfl wm1022) ?_
  refine xAll_c (xs_iload C dX9_command_147) ?_
  refine xAll_c (xs_callSV C (m_X9_isValue l g) dX9_command_149 rfl ⟨(by decide), (by decide), by decide +kernel⟩ wm1183 wm1184 wm10 wm1185 ⟨Nat.le_of_ble_eq_true rfl, Nat.le_of_ble_eq_true rfl⟩) ?_
  refine xAll_c (xs_if_eq C dX9_command_152 (by decide)) ?_
  refine xAll_c (xs_aload_n C dX9_command_155 rfl) ?_
  refine xAll_c (xs_getR C dX9_command_156 (rfl : vwCl[9]? = some (RX9, TX9, 17)) win9 rfl (by decide) (by decide) rfl wm1022) ?_
  refine xAll_c (xs_iload C dX9_command_159) ?_
  refine xAll_c (xs_callSV C (m_X9_removeOn l g) dX9_command_161 rfl ⟨(by decide), (by decide), by decide +kernel⟩ wm1264 wm1265 wm10 wm1266 ⟨Nat.le_of_ble_eq_true rfl, Nat.le_of_ble_eq_true rfl⟩) ?_
  refine xAll_c (xs_if_lt C dX9_command_164 (by decide)) ?_
  refine xAll_c (xs_iconst C dX9_command_167 (by decide)) ?_
  refine xAll_c (xs_goto C dX9_command_168 (by decide)) ?_
  refine xAll_c (xs_iconst C dX9_command_171 (by decide)) ?_
  refine xAll_c (xs_zret C dX9_command_172 rfl) ?_
  refine xAll_c (xs_iload_n C dX9_command_173 rfl) ?_
  refine xAll_c (xs_bipush C dX9_command_174 (by decide)) ?_
  refine xAll_c (xs_irem C dX9_command_176) ?_
  refine xAll_c (xs_if_gt C dX9_command_177 (by decide)) ?_
  refine xAll_c (xs_aload_n C dX9_command_180 rfl) ?_
  refine xAll_c (xs_getR C dX9_command_181 (rfl : vwCl[9]? = some (RX9, TX9, 17)) win9 rfl (by decide) (by decide) rfl wm1022) ?_
  refine xAll_c (xs_iload_n C dX9_command_184 rfl) ?_
  refine xAll_c (xs_iload_n C dX9_command_185 rfl) ?_
  refine xAll_c (xs_bipush C dX9_command_186 (by decide)) ?_
  refine xAll_c (xs_idiv C dX9_command_188) ?_
  refine xAll_c (xs_callSV C (m_X9_whyNotCut l g) dX9_command_189 rfl ⟨(by decide), (by decide), by decide +kernel⟩ wm1277 wm1278 wm10 wm1279 ⟨Nat.le_of_ble_eq_true rfl, Nat.le_of_ble_eq_true rfl⟩) ?_
  refine xAll_c (xs_if_eq C dX9_command_192 (by decide)) ?_
  refine xAll_c (xs_iconst C dX9_command_195 (by decide)) ?_
  refine xAll_c (xs_zret C dX9_command_196 rfl) ?_
  refine xAll_c (xs_aload_n C dX9_command_197 rfl) ?_
  refine xAll_c (xs_getR C dX9_command_198 (rfl : vwCl[9]? = some (RX9, TX9, 17)) win9 rfl (by decide) (by decide) rfl wm1022) ?_
  refine xAll_c (xs_iload_n C dX9_command_201 rfl) ?_
  refine xAll_c (xs_iload_n C dX9_command_202 rfl) ?_
  refine xAll_c (xs_bipush C dX9_command_203 (by decide)) ?_
  refine xAll_c (xs_idiv C dX9_command_205) ?_
  refine xAll_c (xs_callSU C (m_X9_cutOn l g) dX9_command_206 rfl ⟨(by decide), (by decide), by decide +kernel⟩ wm1280 wm1281 wm10 wm1282 ⟨Nat.le_of_ble_eq_true rfl, Nat.le_of_ble_eq_true rfl⟩) ?_
  refine xAll_c (xs_iconst C dX9_command_209 (by decide)) ?_
  refine xAll_c (xs_zret C dX9_command_210 rfl) ?_
  refine xAll_c (xs_iload_n C dX9_command_211 rfl) ?_
  refine xAll_c (xs_if_gt C dX9_command_212 (by decide)) ?_
  refine xAll_c (xs_aload_n C dX9_command_215 rfl) ?_
  refine xAll_c (xs_getR C dX9_command_216 (rfl : vwCl[9]? = some (RX9, TX9, 17)) win9 rfl (by decide) (by decide) rfl wm1022) ?_
  refine xAll_c (xs_iload_n C dX9_command_219 rfl) ?_
  refine xAll_c (xs_callSV C (m_X9_whyNotMerge l g) dX9_command_220 rfl ⟨(by decide), (by decide), by decide +kernel⟩ wm1287 wm1288 wm10 wm1289 ⟨Nat.le_of_ble_eq_true rfl, Nat.le_of_ble_eq_true rfl⟩) ?_
  refine xAll_c (xs_if_eq C dX9_command_223 (by decide)) ?_
  refine xAll_c (xs_iconst C dX9_command_226 (by decide)) ?_
  refine xAll_c (xs_zret C dX9_command_227 rfl) ?_
  refine xAll_c (xs_aload_n C dX9_command_228 rfl) ?_
  refine xAll_c (xs_getR C dX9_command_229 (rfl : vwCl[9]? = some (RX9, TX9, 17)) win9 rfl (by decide) (by decide) rfl wm1022) ?_
  refine xAll_c (xs_iload_n C dX9_command_232 rfl) ?_
  refine xAll_c (xs_callSU C (m_X9_mergeOn l g) dX9_command_233 rfl ⟨(by decide), (by decide), by decide +kernel⟩ wm1290 wm1291 wm10 wm1292 ⟨Nat.le_of_ble_eq_true rfl, Nat.le_of_ble_eq_true rfl⟩) ?_
  refine xAll_c (xs_iconst C dX9_command_236 (by decide)) ?_
  refine xAll_c (xs_zret C dX9_command_237 rfl) ?_
  refine xAll_c (xs_iload_n C dX9_command_238 rfl) ?_
  refine xAll_c (xs_iload_n C dX9_command_239 rfl) ?_
  refine xAll_c (xs_iadd C dX9_command_240) ?_
  refine xAll_c (xs_if_ne C dX9_command_241 (by decide)) ?_
  refine xAll_c (xs_aload_n C dX9_command_244 rfl) ?_
  refine xAll_c (xs_getR C dX9_command_245 (rfl : vwCl[9]? = some (RX9, TX9, 17)) win9 rfl (by decide) (by decide) rfl wm1022) ?_
  refine xAll_c (xs_callSV C (m_X9_compactOn l g) dX9_command_248 rfl ⟨(by decide), (by decide), by decide +kernel⟩ wm1300 wm1301 wm10 wm1302 ⟨Nat.le_of_ble_eq_true rfl, Nat.le_of_ble_eq_true rfl⟩) ?_
  refine xAll_c (xs_if_lt C dX9_command_251 (by decide)) ?_
  refine xAll_c (xs_iconst C dX9_command_254 (by decide)) ?_
  refine xAll_c (xs_goto C dX9_command_255 (by decide)) ?_
  refine xAll_c (xs_iconst C dX9_command_258 (by decide)) ?_
  refine xAll_c (xs_zret C dX9_command_259 rfl) ?_
  refine xAll_c (xs_iload_n C dX9_command_260 rfl) ?_
  refine xAll_c (xs_if_ne C dX9_command_261 (by decide)) ?_
  refine xAll_c (xs_aload_n C dX9_command_264 rfl) ?_
  refine xAll_c (xs_getR C dX9_command_265 (rfl : vwCl[9]? = some (RX9, TX9, 17)) win9 rfl (by decide) (by decide) rfl wm1022) ?_
  refine xAll_c (xs_callSV C (m_X9_sizeOfAll l g) dX9_command_268 rfl ⟨(by decide), (by decide), by decide +kernel⟩ wm1146 wm1147 wm10 wm1148 ⟨Nat.le_of_ble_eq_true rfl, Nat.le_of_ble_eq_true rfl⟩) ?_
  refine xAll_c (xs_iload_n C dX9_command_271 rfl) ?_
  refine xAll_c (xs_icmp_gt C dX9_command_272 (by decide)) ?_
  refine xAll_c (xs_iconst C dX9_command_275 (by decide)) ?_
  refine xAll_c (xs_goto C dX9_command_276 (by decide)) ?_
  refine xAll_c (xs_iconst C dX9_command_279 (by decide)) ?_
  refine xAll_c (xs_zret C dX9_command_280 rfl) ?_
  refine xAll_c (xs_iload C dX9_command_281) ?_
  refine xAll_c (xs_if_ne C dX9_command_283 (by decide)) ?_
  refine xAll_c (xs_aload_n C dX9_command_286 rfl) ?_
  refine xAll_c (xs_getR C dX9_command_287 (rfl : vwCl[9]? = some (RX9, TX9, 17)) win9 rfl (by decide) (by decide) rfl wm1022) ?_
  refine xAll_c (xs_iload_n C dX9_command_290 rfl) ?_
  refine xAll_c (xs_callSV C (m_X9_isPage l g) dX9_command_291 rfl ⟨(by decide), (by decide), by decide +kernel⟩ wm1190 wm1191 wm10 wm1192 ⟨Nat.le_of_ble_eq_true rfl, Nat.le_of_ble_eq_true rfl⟩) ?_
  refine xAll_c (xs_if_eq C dX9_command_294 (by decide)) ?_
  refine xAll_c (xs_aload_n C dX9_command_297 rfl) ?_
  refine xAll_c (xs_getR C dX9_command_298 (rfl : vwCl[9]? = some (RX9, TX9, 17)) win9 rfl (by decide) (by decide) rfl wm1022) ?_
  refine xAll_c (xs_iload_n C dX9_command_301 rfl) ?_
  refine xAll_c (xs_callSV C (m_X9_codingOf l g) dX9_command_302 rfl ⟨(by decide), (by decide), by decide +kernel⟩ wm1193 wm1194 wm10 wm1195 ⟨Nat.le_of_ble_eq_true rfl, Nat.le_of_ble_eq_true rfl⟩) ?_
  refine xAll_c (xs_iload_n C dX9_command_305 rfl) ?_
  refine xAll_c (xs_sipush C dX9_command_306 (by decide)) ?_
  refine xAll_c (xs_idiv C dX9_command_309) ?_
  refine xAll_c (xs_icmp_ne C dX9_command_310 (by decide)) ?_
  refine xAll_c (xs_iconst C dX9_command_313 (by decide)) ?_
  refine xAll_c (xs_goto C dX9_command_314 (by decide)) ?_
  refine xAll_c (xs_iconst C dX9_command_317 (by decide)) ?_
  refine xAll_c (xs_zret C dX9_command_318 rfl) ?_
  refine xAll_c (xs_aload_n C dX9_command_319 rfl) ?_
  refine xAll_c (xs_getR C dX9_command_320 (rfl : vwCl[9]? = some (RX9, TX9, 17)) win9 rfl (by decide) (by decide) rfl wm1022) ?_
  refine xAll_c (xs_callSV C (m_X9_valuesOf l g) dX9_command_323 rfl ⟨(by decide), (by decide), by decide +kernel⟩ wm1140 wm1141 wm10 wm1142 ⟨Nat.le_of_ble_eq_true rfl, Nat.le_of_ble_eq_true rfl⟩) ?_
  refine xAll_c (xs_istore C dX9_command_326) ?_
  refine xAll_c (xs_iload_n C dX9_command_328 rfl) ?_
  refine xAll_c (xs_if_ne C dX9_command_329 (by decide)) ?_
  refine xAll_c (xs_iload_n C dX9_command_332 rfl) ?_
  refine xAll_c (xs_bipush C dX9_command_333 (by decide)) ?_
  refine xAll_c (xs_irem C dX9_command_335) ?_
  refine xAll_c (xs_if_ne C dX9_command_336 (by decide)) ?_
  refine xAll_c (xs_aload_n C dX9_command_339 rfl) ?_
  refine xAll_c (xs_getR C dX9_command_340 (rfl : vwCl[9]? = some (RX9, TX9, 17)) win9 rfl (by decide) (by decide) rfl wm1022) ?_
  refine xAll_c (xs_bipush C dX9_command_343 (by decide)) ?_
  refine xAll_c (xs_iload C dX9_command_345) ?_
  refine xAll_c (xs_iload_n C dX9_command_347 rfl) ?_
  refine xAll_c (xs_bipush C dX9_command_348 (by decide)) ?_
  refine xAll_c (xs_idiv C dX9_command_350) ?_
  refine xAll_c (xs_callSV C (m_X9_wordOf l g) dX9_command_351 rfl ⟨(by decide), (by decide), by decide +kernel⟩ wm1212 wm1213 wm10 wm1214 ⟨Nat.le_of_ble_eq_true rfl, Nat.le_of_ble_eq_true rfl⟩) ?_
  refine xAll_c (xs_aload_n C dX9_command_354 rfl) ?_
  refine xAll_c (xs_getR C dX9_command_355 (rfl : vwCl[9]? = some (RX9, TX9, 17)) win9 rfl (by decide) (by decide) rfl wm1022) ?_
  refine xAll_c (xs_bipush C dX9_command_358 (by decide)) ?_
  refine xAll_c (xs_iload C dX9_command_360) ?_
  refine xAll_c (xs_callSV C (m_X9_differentIn l g) dX9_command_362 rfl ⟨(by decide), (by decide), by decide +kernel⟩ wm1161 wm1162 wm10 wm1163 ⟨Nat.le_of_ble_eq_true rfl, Nat.le_of_ble_eq_true rfl⟩) ?_
  refine xAll_c (xs_icmp_ge C dX9_command_365 (by decide)) ?_
  refine xAll_c (xs_iconst C dX9_command_368 (by decide)) ?_
  refine xAll_c (xs_goto C dX9_command_369 (by decide)) ?_
  refine xAll_c (xs_iconst C dX9_command_372 (by decide)) ?_
  refine xAll_c (xs_zret C dX9_command_373 rfl) ?_
  refine xAll_c (xs_iconst C dX9_command_374 (by decide)) ?_
  refine xAll_c (xs_zret C dX9_command_375 rfl) ?_
  exact trivial
noncomputable def k_X9_runScript : xCode := [(0, oLconst (1) 1), (1, oLstore 4 8 3), (3, oConst (nI 0) 4), (4, oIstore 6 8 6), (6, oIload 6 8), (8, oIload 1 9), (9, oIf2 (fun x y => decide (y ≤ x)) 32 12), (12, oIload 6 14), (14, oConst (nI 3) 15), (15, oIf2 (fun x y => decide (y ≤ x)) 32 18), (18, oLload 4 20), (20, oLconst (1000000) 23), (23, oLBin (fun x y => x * y) 24), (24, oLstore 4 8 26), (26, oIinc 6 (nI 1) 8 29), (29, oGoto 6), (32, oAload 0 33), (33, oIload 1 34), (34, oI2l 35), (35, oLconst (1) 36), (36, oLconst (3) 39), (39, oCallSV 3 f_X9_in 42), (42, oIf1 (fun x => decide (x = 0)) 61 45), (45, oLload 2 46), (46, oLconst (0) 47), (47, oLload 4 49), (49, oLconst (1) 50), (50, oLBin (fun x y => x - y) 51), (51, oCallSV 3 f_X9_in 54), (54, oIf1 (fun x => decide (x = 0)) 61 57), (57, oConst (nI 0) 58), (58, oGoto 62), (61, oConst (nI 1) 62), (62, oCallV 9 1 f_X9_refused 65), (65, oIf1 (fun x => decide (x = 0)) 70 68), (68, oConst (nI 0) 69), (69, oIret), (70, oAload 0 71), (71, oGetR 9 4 74), (74, oConst (nI 0) 75), (75, oAload 0 76), (76, oGetR 9 5 79), (79, oConst (nI 0) 80), (80, oCallSU 4 f_X9_copyColumn 83), (83, oConst (nI 0) 84), (84, oIstore 6 8 86), (86, oIload 6 88), (88, oIload 1 89), (89, oIf2 (fun x y => decide (y ≤ x)) 147 92), (92, oLload 4 94), (94, oLconst (1000000) 97), (97, oLDiv (fun x y => x / y) 98), (98, oLstore 4 8 100), (100, oLload 2 101), (101, oLload 4 103), (103, oLDiv (fun x y => x / y) 104), (104, oLconst (1000000) 107), (107, oLDiv (fun x y => x - x / y * y) 108), (108, oL2i 109), (109, oIstore 7 8 111), (111, oAload 0 112), (112, oIload 7 114), (114, oConst (nI 100000) 116), (116, oDiv (fun x y => x / y) 117), (117, oIload 7 119), (119, oConst (nI 10000) 122), (122, oDiv (fun x y => x / y) 123), (123, oConst (nI 10) 125), (125, oDiv (fun x y => x - x / y * y) 126), (126, oIload 7 128), (128, oConst (nI 10000) 131), (131, oDiv (fun x y => x - x / y * y) 132), (132, oCallV 9 3 f_X9_command 135), (135, oIf1 (fun x => !(decide (x = 0))) 141 138), (138, oIload 6 140), (140, oIret), (141, oIinc 6 (nI 1) 8 144), (144, oGoto 86), (147, oConst (-9999) 150), (150, oIret)]
noncomputable def f_X9_runScript : xRun := xrun k_X9_runScript 8
set_option maxHeartbeats 4000000 in
set_option maxRecDepth 100000 in
theorem m_X9_runScript (l : Launch) (g : xG) : xMet l g yX9_runScript cX9_runScript 8 (some .int) 9 209 f_X9_runScript := by
  refine xmet_of (own := RX9) (by decide +kernel) rfl (fun p e s m args below meth c r0 C => ?_)
  refine xAll_c (xs_lconst C dX9_runScript_0 (by decide)) ?_
  refine xAll_c (xs_lstore C dX9_runScript_1) ?_
  refine xAll_c (xs_iconst C dX9_runScript_3 (by decide)) ?_
  refine xAll_c (xs_istore C dX9_runScript_4) ?_
  refine xAll_c (xs_iload C dX9_runScript_6) ?_
  refine xAll_c (xs_iload_n C dX9_runScript_8 rfl) ?_
  refine xAll_c (xs_icmp_ge C dX9_runScript_9 (by decide)) ?_
  refine xAll_c (xs_iload C dX9_runScript_12) ?_
  refine xAll_c (xs_iconst C dX9_runScript_14 (by decide)) ?_
  refine xAll_c (xs_icmp_ge C dX9_runScript_15 (by decide)) ?_
  refine xAll_c (xs_lload C dX9_runScript_18) ?_
  refine xAll_c (xs_ldc2 C dX9_runScript_20 wm1344) ?_
  refine xAll_c (xs_lmul C dX9_runScript_23) ?_
  refine xAll_c (xs_lstore C dX9_runScript_24) ?_
  refine xAll_c (xs_iinc C dX9_runScript_26 rfl) ?_
  refine xAll_c (xs_goto C dX9_runScript_29 (by decide)) ?_
  refine xAll_c (xs_aload_n C dX9_runScript_32 rfl) ?_
  refine xAll_c (xs_iload_n C dX9_runScript_33 rfl) ?_
  refine xAll_c (xs_i2l C dX9_runScript_34) ?_
  refine xAll_c (xs_lconst C dX9_runScript_35 (by decide)) ?_
  refine xAll_c (xs_ldc2 C dX9_runScript_36 wm1345) ?_
  refine xAll_c (xs_callSV C (m_X9_in l g) dX9_runScript_39 rfl ⟨(by decide), (by decide), by decide +kernel⟩ wm1079 wm1080 wm10 wm1081 ⟨Nat.le_of_ble_eq_true rfl, Nat.le_of_ble_eq_true rfl⟩) ?_
  refine xAll_c (xs_if_eq C dX9_runScript_42 (by decide)) ?_
  refine xAll_c (xs_lload_n C dX9_runScript_45 rfl) ?_
  refine xAll_c (xs_lconst C dX9_runScript_46 (by decide)) ?_
  refine xAll_c (xs_lload C dX9_runScript_47) ?_
  refine xAll_c (xs_lconst C dX9_runScript_49 (by decide)) ?_
  refine xAll_c (xs_lsub C dX9_runScript_50) ?_
  refine xAll_c (xs_callSV C (m_X9_in l g) dX9_runScript_51 rfl ⟨(by decide), (by decide), by decide +kernel⟩ wm1079 wm1080 wm10 wm1081 ⟨Nat.le_of_ble_eq_true rfl, Nat.le_of_ble_eq_true rfl⟩) ?_
  refine xAll_c (xs_if_eq C dX9_runScript_54 (by decide)) ?_
  refine xAll_c (xs_iconst C dX9_runScript_57 (by decide)) ?_
  refine xAll_c (xs_goto C dX9_runScript_58 (by decide)) ?_
  refine xAll_c (xs_iconst C dX9_runScript_61 (by decide)) ?_
  refine xAll_c (xs_callV C (m_X9_refused l g) dX9_runScript_62 (rfl : vwCl[9]? = some (RX9, TX9, 17)) (by decide) rfl ⟨(by decide), (by decide), by decide +kernel⟩ wm1082 wm1084 wp31 wm10 wm1085 ⟨Nat.le_of_ble_eq_true rfl, Nat.le_of_ble_eq_true rfl⟩) ?_
  refine xAll_c (xs_if_eq C dX9_runScript_65 (by decide)) ?_
  refine xAll_c (xs_iconst C dX9_runScript_68 (by decide)) ?_
  refine xAll_c (xs_iret C dX9_runScript_69 rfl) ?_
  refine xAll_c (xs_aload_n C dX9_runScript_70 rfl) ?_
  refine xAll_c (xs_getR C dX9_runScript_71 (rfl : vwCl[9]? = some (RX9, TX9, 17)) win9 rfl (by decide) (by decide) rfl wm1021) ?_
  refine xAll_c (xs_iconst C dX9_runScript_74 (by decide)) ?_
  refine xAll_c (xs_aload_n C dX9_runScript_75 rfl) ?_
  refine xAll_c (xs_getR C dX9_runScript_76 (rfl : vwCl[9]? = some (RX9, TX9, 17)) win9 rfl (by decide) (by decide) rfl wm1022) ?_
  refine xAll_c (xs_iconst C dX9_runScript_79 (by decide)) ?_
  refine xAll_c (xs_callSU C (m_X9_copyColumn l g) dX9_runScript_80 rfl ⟨(by decide), (by decide), by decide +kernel⟩ wm1250 wm1251 wm10 wm1252 ⟨Nat.le_of_ble_eq_true rfl, Nat.le_of_ble_eq_true rfl⟩) ?_
  refine xAll_c (xs_iconst C dX9_runScript_83 (by decide)) ?_
  refine xAll_c (xs_istore C dX9_runScript_84) ?_
  refine xAll_c (xs_iload C dX9_runScript_86) ?_
  refine xAll_c (xs_iload_n C dX9_runScript_88 rfl) ?_
  refine xAll_c (xs_icmp_ge C dX9_runScript_89 (by decide)) ?_
  refine xAll_c (xs_lload C dX9_runScript_92) ?_
  refine xAll_c (xs_ldc2 C dX9_runScript_94 wm1344) ?_
  refine xAll_c (xs_ldiv C dX9_runScript_97) ?_
  refine xAll_c (xs_lstore C dX9_runScript_98) ?_
  refine xAll_c (xs_lload_n C dX9_runScript_100 rfl) ?_
  refine xAll_c (xs_lload C dX9_runScript_101) ?_
  refine xAll_c (xs_ldiv C dX9_runScript_103) ?_
  refine xAll_c (xs_ldc2 C dX9_runScript_104 wm1344) ?_
  refine xAll_c (xs_lrem C dX9_runScript_107) ?_
  refine xAll_c (xs_l2i C dX9_runScript_108) ?_
  refine xAll_c (xs_istore C dX9_runScript_109) ?_
  refine xAll_c (xs_aload_n C dX9_runScript_111 rfl) ?_
  refine xAll_c (xs_iload C dX9_runScript_112) ?_
  refine xAll_c (xs_ldc C dX9_runScript_114 wm1346) ?_
  refine xAll_c (xs_idiv C dX9_runScript_116) ?_
  refine xAll_c (xs_iload C dX9_runScript_117) ?_
  refine xAll_c (xs_sipush C dX9_runScript_119 (by decide)) ?_
  refine xAll_c (xs_idiv C dX9_runScript_122) ?_
  refine xAll_c (xs_bipush C dX9_runScript_123 (by decide)) ?_
  refine xAll_c (xs_irem C dX9_runScript_125) ?_
  refine xAll_c (xs_iload C dX9_runScript_126) ?_
  refine xAll_c (xs_sipush C dX9_runScript_128 (by decide)) ?_
  refine xAll_c (xs_irem C dX9_runScript_131) ?_
  refine xAll_c (xs_callV C (m_X9_command l g) dX9_runScript_132 (rfl : vwCl[9]? = some (RX9, TX9, 17)) (by decide) rfl ⟨(by decide), (by decide), by decide +kernel⟩ wm1347 wm1349 wp45 wm10 wm1350 ⟨Nat.le_of_ble_eq_true rfl, Nat.le_of_ble_eq_true rfl⟩) ?_
  refine xAll_c (xs_if_ne C dX9_runScript_135 (by decide)) ?_
  refine xAll_c (xs_iload C dX9_runScript_138) ?_
  refine xAll_c (xs_iret C dX9_runScript_140 rfl) ?_
  refine xAll_c (xs_iinc C dX9_runScript_141 rfl) ?_
  refine xAll_c (xs_goto C dX9_runScript_144 (by decide)) ?_
  refine xAll_c (xs_sipush C dX9_runScript_147 (by decide)) ?_
  refine xAll_c (xs_iret C dX9_runScript_150 rfl) ?_
  exact trivial
noncomputable def k_X9_simulate : xCode := [(0, oAload 0 1), (1, oIload 3 2), (2, oI2l 3), (3, oLconst (1) 4), (4, oLconst (99) 7), (7, oCallSV 3 f_X9_in 10), (10, oIf1 (fun x => decide (x = 0)) 17 13), (13, oConst (nI 0) 14), (14, oGoto 18), (17, oConst (nI 1) 18), (18, oCallV 9 1 f_X9_refused 21), (21, oIf1 (fun x => decide (x = 0)) 26 24), (24, oConst (nI 0) 25), (25, oIret), (26, oAload 0 27), (27, oGetR 9 4 30), (30, oConst (nI 0) 31), (31, oAload 0 32), (32, oGetR 9 5 35), (35, oConst (nI 0) 36), (36, oCallSU 4 f_X9_copyColumn 39), (39, oLload 1 40), (40, oLstore 4 12 42), (42, oConst (nI 0) 43), (43, oIstore 6 12 45), (45, oIload 6 47), (47, oIload 3 48), (48, oIf2 (fun x y => decide (y ≤ x)) 213 51), (51, oLload 4 53), (53, oLconst (6364136223846793005) 56), (56, oLBin (fun x y => x * y) 57), (57, oLconst (1442695040888963407) 60), (60, oLBin (fun x y => x + y) 61), (61, oLstore 4 12 63), (63, oLload 4 65), (65, oConst (nI 33) 67), (67, oLSh (fun x y => (x.toUInt64 >>> (y.toInt64.toUInt64 &&& Int64.toUInt64 63)).toInt64) 68), (68, oL2i 69), (69, oIstore 7 12 71), (71, oAload 0 72), (72, oGetR 9 5 75), (75, oCallSV 1 f_X9_valuesOf 78), (78, oIstore 8 12 80), (80, oIload 8 82), (82, oIf1 (fun x => !(decide (x = 0))) 89 85), (85, oConst (nI 0) 86), (86, oGoto 101), (89, oAload 0 90), (90, oGetR 9 5 93), (93, oConst (nI 22) 95), (95, oIload 8 97), (97, oBin (fun x y => x + y) 98), (98, oConst (nI 1) 99), (99, oBin (fun x y => x - y) 100), (100, oIald 101), (101, oIstore 9 12 103), (103, oIload 7 105), (105, oConst (nI 4) 106), (106, oDiv (fun x y => x / y) 107), (107, oConst (nI 8) 109), (109, oDiv (fun x y => x - x / y * y) 110), (110, oIstore 10 12 112), (112, oIload 7 114), (114, oConst (nI 4) 115), (115, oDiv (fun x y => x - x / y * y) 116), (116, oIf1 (fun x => !(decide (x = 0))) 130 119), (119, oIload 7 121), (121, oConst (nI 4) 122), (122, oDiv (fun x y => x / y) 123), (123, oConst (nI 1024) 126), (126, oDiv (fun x y => x - x / y * y) 127), (127, oGoto 174), (130, oIload 7 132), (132, oConst (nI 4) 133), (133, oDiv (fun x y => x - x / y * y) 134), (134, oConst (nI 1) 135), (135, oIf2 (fun x y => !(decide (x = y))) 143 138), (138, oIload 9 140), (140, oGoto 174), (143, oIload 7 145), (145, oConst (nI 4) 146), (146, oDiv (fun x y => x - x / y * y) 147), (147, oConst (nI 2) 148), (148, oIf2 (fun x y => !(decide (x = y))) 165 151), (151, oConst (nI 1023) 154), (154, oIload 9 156), (156, oIload 10 158), (158, oBin (fun x y => x + y) 159), (159, oCallSV 2 f_X9_less 162), (162, oGoto 174), (165, oConst (nI 0) 166), (166, oIload 9 168), (168, oIload 10 170), (170, oBin (fun x y => x - y) 171), (171, oCallSV 2 f_X9_more 174), (174, oIstore 11 12 176), (176, oAload 0 177), (177, oGetR 9 5 180), (180, oCallSV 1 f_X9_canAdd 183), (183, oIf1 (fun x => decide (x = 0)) 199 186), (186, oAload 0 187), (187, oGetR 9 5 190), (190, oIload 11 192), (192, oCallSV 2 f_X9_addOn 195), (195, oPop 196), (196, oGoto 207), (199, oAload 0 200), (200, oGetR 9 5 203), (203, oCallSV 1 f_X9_compactOn 206), (206, oPop 207), (207, oIinc 6 (nI 1) 12 210), (210, oGoto 45), (213, oConst (nI 0) 214), (214, oIstore 6 12 216), (216, oConst (nI 0) 217), (217, oIstore 7 12 219), (219, oIload 7 221), (221, oAload 0 222), (222, oGetR 9 5 225), (225, oConst (nI 0) 226), (226, oIald 227), (227, oIf2 (fun x y => decide (y ≤ x)) 252 230), (230, oIload 6 232), (232, oConst (nI 1) 233), (233, oAload 0 234), (234, oGetR 9 5 237), (237, oIload 7 239), (239, oCallSV 2 f_X9_codingOf 242), (242, oBin (fun x y => x <<< (y &&& 31)) 243), (243, oBin (fun x y => x ||| y) 244), (244, oIstore 6 12 246), (246, oIinc 7 (nI 1) 12 249), (249, oGoto 219), (252, oConst (nI 0) 253), (253, oIstore 7 12 255), (255, oConst (nI 0) 256), (256, oIstore 8 12 258), (258, oIload 8 260), (260, oConst (nI 5) 261), (261, oIf2 (fun x y => decide (y ≤ x)) 282 264), (264, oIload 7 266), (266, oIload 6 268), (268, oIload 8 270), (270, oBin (fun x y => x >>> (y &&& 31)) 271), (271, oConst (nI 1) 272), (272, oBin (fun x y => x &&& y) 273), (273, oBin (fun x y => x + y) 274), (274, oIstore 7 12 276), (276, oIinc 8 (nI 1) 12 279), (279, oGoto 258), (282, oConst (nI 10) 284), (284, oAload 0 285), (285, oGetR 9 5 288), (288, oCallSV 1 f_X9_sizeOfAll 291), (291, oBin (fun x y => x * y) 292), (292, oIload 7 294), (294, oBin (fun x y => x + y) 295), (295, oIret)]
noncomputable def f_X9_simulate : xRun := xrun k_X9_simulate 12
set_option maxHeartbeats 4000000 in
set_option maxRecDepth 100000 in
theorem m_X9_simulate (l : Launch) (g : xG) : xMet l g yX9_simulate cX9_simulate 12 (some .int) 8 183 f_X9_simulate := by
  refine xmet_of (own := RX9) (by decide +kernel) rfl (fun p e s m args below meth c r0 C => ?_)
  refine xAll_c (xs_aload_n C dX9_simulate_0 rfl) ?_
  refine xAll_c (xs_iload_n C dX9_simulate_1 rfl) ?_
  refine xAll_c (xs_i2l C dX9_simulate_2) ?_
  refine xAll_c (xs_lconst C dX9_simulate_3 (by decide)) ?_
  refine xAll_c (xs_ldc2 C dX9_simulate_4 wm1355) ?_
  refine xAll_c (xs_callSV C (m_X9_in l g) dX9_simulate_7 rfl ⟨(by decide), (by decide), by decide +kernel⟩ wm1079 wm1080 wm10 wm1081 ⟨Nat.le_of_ble_eq_true rfl, Nat.le_of_ble_eq_true rfl⟩) ?_
  refine xAll_c (xs_if_eq C dX9_simulate_10 (by decide)) ?_
  refine xAll_c (xs_iconst C dX9_simulate_13 (by decide)) ?_
  refine xAll_c (xs_goto C dX9_simulate_14 (by decide)) ?_
  refine xAll_c (xs_iconst C dX9_simulate_17 (by decide)) ?_
  refine xAll_c (xs_callV C (m_X9_refused l g) dX9_simulate_18 (rfl : vwCl[9]? = some (RX9, TX9, 17)) (by decide) rfl ⟨(by decide), (by decide), by decide +kernel⟩ wm1082 wm1084 wp31 wm10 wm1085 ⟨Nat.le_of_ble_eq_true rfl, Nat.le_of_ble_eq_true rfl⟩) ?_
  refine xAll_c (xs_if_eq C dX9_simulate_21 (by decide)) ?_
  refine xAll_c (xs_iconst C dX9_simulate_24 (by decide)) ?_
  refine xAll_c (xs_iret C dX9_simulate_25 rfl) ?_
  refine xAll_c (xs_aload_n C dX9_simulate_26 rfl) ?_
  refine xAll_c (xs_getR C dX9_simulate_27 (rfl : vwCl[9]? = some (RX9, TX9, 17)) win9 rfl (by decide) (by decide) rfl wm1021) ?_
  refine xAll_c (xs_iconst C dX9_simulate_30 (by decide)) ?_
  refine xAll_c (xs_aload_n C dX9_simulate_31 rfl) ?_
  refine xAll_c (xs_getR C dX9_simulate_32 (rfl : vwCl[9]? = some (RX9, TX9, 17)) win9 rfl (by decide) (by decide) rfl wm1022) ?_
  refine xAll_c (xs_iconst C dX9_simulate_35 (by decide)) ?_
  refine xAll_c (xs_callSU C (m_X9_copyColumn l g) dX9_simulate_36 rfl ⟨(by decide), (by decide), by decide +kernel⟩ wm1250 wm1251 wm10 wm1252 ⟨Nat.le_of_ble_eq_true rfl, Nat.le_of_ble_eq_true rfl⟩) ?_
  refine xAll_c (xs_lload_n C dX9_simulate_39 rfl) ?_
  refine xAll_c (xs_lstore C dX9_simulate_40) ?_
  refine xAll_c (xs_iconst C dX9_simulate_42 (by decide)) ?_
  refine xAll_c (xs_istore C dX9_simulate_43) ?_
  refine xAll_c (xs_iload C dX9_simulate_45) ?_
  refine xAll_c (xs_iload_n C dX9_simulate_47 rfl) ?_
  refine xAll_c (xs_icmp_ge C dX9_simulate_48 (by decide)) ?_
  refine xAll_c (xs_lload C dX9_simulate_51) ?_
  refine xAll_c (xs_ldc2 C dX9_simulate_53 wm1356) ?_
  refine xAll_c (xs_lmul C dX9_simulate_56) ?_
  refine xAll_c (xs_ldc2 C dX9_simulate_57 wm1357) ?_
  refine xAll_c (xs_ladd C dX9_simulate_60) ?_
  refine xAll_c (xs_lstore C dX9_simulate_61) ?_
  refine xAll_c (xs_lload C dX9_simulate_63) ?_
  refine xAll_c (xs_bipush C dX9_simulate_65 (by decide)) ?_
  refine xAll_c (xs_lushr C dX9_simulate_67) ?_
  refine xAll_c (xs_l2i C dX9_simulate_68) ?_
  refine xAll_c (xs_istore C dX9_simulate_69) ?_
  refine xAll_c (xs_aload_n C dX9_simulate_71 rfl) ?_
  refine xAll_c (xs_getR C dX9_simulate_72 (rfl : vwCl[9]? = some (RX9, TX9, 17)) win9 rfl (by decide) (by decide) rfl wm1022) ?_
  refine xAll_c (xs_callSV C (m_X9_valuesOf l g) dX9_simulate_75 rfl ⟨(by decide), (by decide), by decide +kernel⟩ wm1140 wm1141 wm10 wm1142 ⟨Nat.le_of_ble_eq_true rfl, Nat.le_of_ble_eq_true rfl⟩) ?_
  refine xAll_c (xs_istore C dX9_simulate_78) ?_
  refine xAll_c (xs_iload C dX9_simulate_80) ?_
  refine xAll_c (xs_if_ne C dX9_simulate_82 (by decide)) ?_
  refine xAll_c (xs_iconst C dX9_simulate_85 (by decide)) ?_
  refine xAll_c (xs_goto C dX9_simulate_86 (by decide)) ?_
  refine xAll_c (xs_aload_n C dX9_simulate_89 rfl) ?_
  refine xAll_c (xs_getR C dX9_simulate_90 (rfl : vwCl[9]? = some (RX9, TX9, 17)) win9 rfl (by decide) (by decide) rfl wm1022) ?_
  refine xAll_c (xs_bipush C dX9_simulate_93 (by decide)) ?_
  refine xAll_c (xs_iload C dX9_simulate_95) ?_
  refine xAll_c (xs_iadd C dX9_simulate_97) ?_
  refine xAll_c (xs_iconst C dX9_simulate_98 (by decide)) ?_
  refine xAll_c (xs_isub C dX9_simulate_99) ?_
  refine xAll_c (xs_iald C dX9_simulate_100) ?_
  refine xAll_c (xs_istore C dX9_simulate_101) ?_
  refine xAll_c (xs_iload C dX9_simulate_103) ?_
  refine xAll_c (xs_iconst C dX9_simulate_105 (by decide)) ?_
  refine xAll_c (xs_idiv C dX9_simulate_106) ?_
  refine xAll_c (xs_bipush C dX9_simulate_107 (by decide)) ?_
  refine xAll_c (xs_irem C dX9_simulate_109) ?_
  refine xAll_c (xs_istore C dX9_simulate_110) ?_
  refine xAll_c (xs_iload C dX9_simulate_112) ?_
  refine xAll_c (xs_iconst C dX9_simulate_114 (by decide)) ?_
  refine xAll_c (xs_irem C dX9_simulate_115) ?_
  refine xAll_c (xs_if_ne C dX9_simulate_116 (by decide)) ?_
  refine xAll_c (xs_iload C dX9_simulate_119) ?_
  refine xAll_c (xs_iconst C dX9_simulate_121 (by decide)) ?_
  refine xAll_c (xs_idiv C dX9_simulate_122) ?_
  refine xAll_c (xs_sipush C dX9_simulate_123 (by decide)) ?_
  refine xAll_c (xs_irem C dX9_simulate_126) ?_
  refine xAll_c (xs_goto C dX9_simulate_127 (by decide)) ?_
  refine xAll_c (xs_iload C dX9_simulate_130) ?_
  refine xAll_c (xs_iconst C dX9_simulate_132 (by decide)) ?_
  refine xAll_c (xs_irem C dX9_simulate_133) ?_
  refine xAll_c (xs_iconst C dX9_simulate_134 (by decide)) ?_
  refine xAll_c (xs_icmp_ne C dX9_simulate_135 (by decide)) ?_
  refine xAll_c (xs_iload C dX9_simulate_138) ?_
  refine xAll_c (xs_goto C dX9_simulate_140 (by decide)) ?_
  refine xAll_c (xs_iload C dX9_simulate_143) ?_
  refine xAll_c (xs_iconst C dX9_simulate_145 (by decide)) ?_
  refine xAll_c (xs_irem C dX9_simulate_146) ?_
  refine xAll_c (xs_iconst C dX9_simulate_147 (by decide)) ?_
  refine xAll_c (xs_icmp_ne C dX9_simulate_148 (by decide)) ?_
  refine xAll_c (xs_sipush C dX9_simulate_151 (by decide)) ?_
  refine xAll_c (xs_iload C dX9_simulate_154) ?_
  refine xAll_c (xs_iload C dX9_simulate_156) ?_
  refine xAll_c (xs_iadd C dX9_simulate_158) ?_
  refine xAll_c (xs_callSV C (m_X9_less l g) dX9_simulate_159 rfl ⟨(by decide), (by decide), by decide +kernel⟩ wm1106 wm1107 wm10 wm1108 ⟨Nat.le_of_ble_eq_true rfl, Nat.le_of_ble_eq_true rfl⟩) ?_
  refine xAll_c (xs_goto C dX9_simulate_162 (by decide)) ?_
  refine xAll_c (xs_iconst C dX9_simulate_165 (by decide)) ?_
  refine xAll_c (xs_iload C dX9_simulate_166) ?_
  refine xAll_c (xs_iload C dX9_simulate_168) ?_
  refine xAll_c (xs_isub C dX9_simulate_170) ?_
  refine xAll_c (xs_callSV C (m_X9_more l g) dX9_simulate_171 rfl ⟨(by decide), (by decide), by decide +kernel⟩ wm1109 wm1110 wm10 wm1111 ⟨Nat.le_of_ble_eq_true rfl, Nat.le_of_ble_eq_true rfl⟩) ?_
  refine xAll_c (xs_istore C dX9_simulate_174) ?_
  refine xAll_c (xs_aload_n C dX9_simulate_176 rfl) ?_
  refine xAll_c (xs_getR C dX9_simulate_177 (rfl : vwCl[9]? = some (RX9, TX9, 17)) win9 rfl (by decide) (by decide) rfl wm1022) ?_
  refine xAll_c (xs_callSV C (m_X9_canAdd l g) dX9_simulate_180 rfl ⟨(by decide), (by decide), by decide +kernel⟩ wm1240 wm1241 wm10 wm1242 ⟨Nat.le_of_ble_eq_true rfl, Nat.le_of_ble_eq_true rfl⟩) ?_
  refine xAll_c (xs_if_eq C dX9_simulate_183 (by decide)) ?_
  refine xAll_c (xs_aload_n C dX9_simulate_186 rfl) ?_
  refine xAll_c (xs_getR C dX9_simulate_187 (rfl : vwCl[9]? = some (RX9, TX9, 17)) win9 rfl (by decide) (by decide) rfl wm1022) ?_
  refine xAll_c (xs_iload C dX9_simulate_190) ?_
  refine xAll_c (xs_callSV C (m_X9_addOn l g) dX9_simulate_192 rfl ⟨(by decide), (by decide), by decide +kernel⟩ wm1253 wm1254 wm10 wm1255 ⟨Nat.le_of_ble_eq_true rfl, Nat.le_of_ble_eq_true rfl⟩) ?_
  refine xAll_c (xs_pop C dX9_simulate_195) ?_
  refine xAll_c (xs_goto C dX9_simulate_196 (by decide)) ?_
  refine xAll_c (xs_aload_n C dX9_simulate_199 rfl) ?_
  refine xAll_c (xs_getR C dX9_simulate_200 (rfl : vwCl[9]? = some (RX9, TX9, 17)) win9 rfl (by decide) (by decide) rfl wm1022) ?_
  refine xAll_c (xs_callSV C (m_X9_compactOn l g) dX9_simulate_203 rfl ⟨(by decide), (by decide), by decide +kernel⟩ wm1300 wm1301 wm10 wm1302 ⟨Nat.le_of_ble_eq_true rfl, Nat.le_of_ble_eq_true rfl⟩) ?_
  refine xAll_c (xs_pop C dX9_simulate_206) ?_
  refine xAll_c (xs_iinc C dX9_simulate_207 rfl) ?_
  refine xAll_c (xs_goto C dX9_simulate_210 (by decide)) ?_
  refine xAll_c (xs_iconst C dX9_simulate_213 (by decide)) ?_
  refine xAll_c (xs_istore C dX9_simulate_214) ?_
  refine xAll_c (xs_iconst C dX9_simulate_216 (by decide)) ?_
  refine xAll_c (xs_istore C dX9_simulate_217) ?_
  refine xAll_c (xs_iload C dX9_simulate_219) ?_
  refine xAll_c (xs_aload_n C dX9_simulate_221 rfl) ?_
  refine xAll_c (xs_getR C dX9_simulate_222 (rfl : vwCl[9]? = some (RX9, TX9, 17)) win9 rfl (by decide) (by decide) rfl wm1022) ?_
  refine xAll_c (xs_iconst C dX9_simulate_225 (by decide)) ?_
  refine xAll_c (xs_iald C dX9_simulate_226) ?_
  refine xAll_c (xs_icmp_ge C dX9_simulate_227 (by decide)) ?_
  refine xAll_c (xs_iload C dX9_simulate_230) ?_
  refine xAll_c (xs_iconst C dX9_simulate_232 (by decide)) ?_
  refine xAll_c (xs_aload_n C dX9_simulate_233 rfl) ?_
  refine xAll_c (xs_getR C dX9_simulate_234 (rfl : vwCl[9]? = some (RX9, TX9, 17)) win9 rfl (by decide) (by decide) rfl wm1022) ?_
  refine xAll_c (xs_iload C dX9_simulate_237) ?_
  refine xAll_c (xs_callSV C (m_X9_codingOf l g) dX9_simulate_239 rfl ⟨(by decide), (by decide), by decide +kernel⟩ wm1193 wm1194 wm10 wm1195 ⟨Nat.le_of_ble_eq_true rfl, Nat.le_of_ble_eq_true rfl⟩) ?_
  refine xAll_c (xs_ishl C dX9_simulate_242) ?_
  refine xAll_c (xs_ior C dX9_simulate_243) ?_
  refine xAll_c (xs_istore C dX9_simulate_244) ?_
  refine xAll_c (xs_iinc C dX9_simulate_246 rfl) ?_
  refine xAll_c (xs_goto C dX9_simulate_249 (by decide)) ?_
  refine xAll_c (xs_iconst C dX9_simulate_252 (by decide)) ?_
  refine xAll_c (xs_istore C dX9_simulate_253) ?_
  refine xAll_c (xs_iconst C dX9_simulate_255 (by decide)) ?_
  refine xAll_c (xs_istore C dX9_simulate_256) ?_
  refine xAll_c (xs_iload C dX9_simulate_258) ?_
  refine xAll_c (xs_iconst C dX9_simulate_260 (by decide)) ?_
  refine xAll_c (xs_icmp_ge C dX9_simulate_261 (by decide)) ?_
  refine xAll_c (xs_iload C dX9_simulate_264) ?_
  refine xAll_c (xs_iload C dX9_simulate_266) ?_
  refine xAll_c (xs_iload C dX9_simulate_268) ?_
  refine xAll_c (xs_ishr C dX9_simulate_270) ?_
  refine xAll_c (xs_iconst C dX9_simulate_271 (by decide)) ?_
  refine xAll_c (xs_iand C dX9_simulate_272) ?_
  refine xAll_c (xs_iadd C dX9_simulate_273) ?_
  refine xAll_c (xs_istore C dX9_simulate_274) ?_
  refine xAll_c (xs_iinc C dX9_simulate_276 rfl) ?_
  refine xAll_c (xs_goto C dX9_simulate_279 (by decide)) ?_
  refine xAll_c (xs_bipush C dX9_simulate_282 (by decide)) ?_
  refine xAll_c (xs_aload_n C dX9_simulate_284 rfl) ?_
  refine xAll_c (xs_getR C dX9_simulate_285 (rfl : vwCl[9]? = some (RX9, TX9, 17)) win9 rfl (by decide) (by decide) rfl wm1022) ?_
  refine xAll_c (xs_callSV C (m_X9_sizeOfAll l g) dX9_simulate_288 rfl ⟨(by decide), (by decide), by decide +kernel⟩ wm1146 wm1147 wm10 wm1148 ⟨Nat.le_of_ble_eq_true rfl, Nat.le_of_ble_eq_true rfl⟩) ?_
  refine xAll_c (xs_imul C dX9_simulate_291) ?_
  refine xAll_c (xs_iload C dX9_simulate_292) ?_
  refine xAll_c (xs_iadd C dX9_simulate_294) ?_
  refine xAll_c (xs_iret C dX9_simulate_295 rfl) ?_
  exact trivial
noncomputable def k_X9_save : xCode := [(0, oAload 0 1), (1, oIload 1 2), (2, oI2l 3), (3, oLconst (0) 4), (4, oLconst (1) 5), (5, oCallSV 3 f_X9_in 8), (8, oIf1 (fun x => decide (x = 0)) 15 11), (11, oConst (nI 0) 12), (12, oGoto 16), (15, oConst (nI 1) 16), (16, oCallV 9 1 f_X9_refused 19), (19, oIf1 (fun x => decide (x = 0)) 24 22), (22, oConst (nI 0) 23), (23, oIret), (24, oAload 0 25), (25, oGetR 9 4 28), (28, oConst (nI 0) 29), (29, oAload 0 30), (30, oGetR 9 9 33), (33, oConst (nI 142) 36), (36, oIload 1 37), (37, oBin (fun x y => x * y) 38), (38, oCallSU 4 f_X9_copyColumn 41), (41, oAload 0 42), (42, oGetR 9 10 45), (45, oIload 1 46), (46, oConst (nI 1) 47), (47, oZast 48), (48, oAload 0 49), (49, oGetR 9 4 52), (52, oCallSV 1 f_X9_valuesOf 55), (55, oIret)]
noncomputable def f_X9_save : xRun := xrun k_X9_save 2
set_option maxHeartbeats 4000000 in
set_option maxRecDepth 100000 in
theorem m_X9_save (l : Launch) (g : xG) : xMet l g yX9_save cX9_save 2 (some .int) 2 43 f_X9_save := by
  refine xmet_of (own := RX9) (by decide +kernel) rfl (fun p e s m args below meth c r0 C => ?_)
  refine xAll_c (xs_aload_n C dX9_save_0 rfl) ?_
  refine xAll_c (xs_iload_n C dX9_save_1 rfl) ?_
  refine xAll_c (xs_i2l C dX9_save_2) ?_
  refine xAll_c (xs_lconst C dX9_save_3 (by decide)) ?_
  refine xAll_c (xs_lconst C dX9_save_4 (by decide)) ?_
  refine xAll_c (xs_callSV C (m_X9_in l g) dX9_save_5 rfl ⟨(by decide), (by decide), by decide +kernel⟩ wm1079 wm1080 wm10 wm1081 ⟨Nat.le_of_ble_eq_true rfl, Nat.le_of_ble_eq_true rfl⟩) ?_
  refine xAll_c (xs_if_eq C dX9_save_8 (by decide)) ?_
  refine xAll_c (xs_iconst C dX9_save_11 (by decide)) ?_
  refine xAll_c (xs_goto C dX9_save_12 (by decide)) ?_
  refine xAll_c (xs_iconst C dX9_save_15 (by decide)) ?_
  refine xAll_c (xs_callV C (m_X9_refused l g) dX9_save_16 (rfl : vwCl[9]? = some (RX9, TX9, 17)) (by decide) rfl ⟨(by decide), (by decide), by decide +kernel⟩ wm1082 wm1084 wp31 wm10 wm1085 ⟨Nat.le_of_ble_eq_true rfl, Nat.le_of_ble_eq_true rfl⟩) ?_
  refine xAll_c (xs_if_eq C dX9_save_19 (by decide)) ?_
  refine xAll_c (xs_iconst C dX9_save_22 (by decide)) ?_
  refine xAll_c (xs_iret C dX9_save_23 rfl) ?_
  refine xAll_c (xs_aload_n C dX9_save_24 rfl) ?_
  refine xAll_c (xs_getR C dX9_save_25 (rfl : vwCl[9]? = some (RX9, TX9, 17)) win9 rfl (by decide) (by decide) rfl wm1021) ?_
  refine xAll_c (xs_iconst C dX9_save_28 (by decide)) ?_
  refine xAll_c (xs_aload_n C dX9_save_29 rfl) ?_
  refine xAll_c (xs_getR C dX9_save_30 (rfl : vwCl[9]? = some (RX9, TX9, 17)) win9 rfl (by decide) (by decide) rfl wm1026) ?_
  refine xAll_c (xs_sipush C dX9_save_33 (by decide)) ?_
  refine xAll_c (xs_iload_n C dX9_save_36 rfl) ?_
  refine xAll_c (xs_imul C dX9_save_37) ?_
  refine xAll_c (xs_callSU C (m_X9_copyColumn l g) dX9_save_38 rfl ⟨(by decide), (by decide), by decide +kernel⟩ wm1250 wm1251 wm10 wm1252 ⟨Nat.le_of_ble_eq_true rfl, Nat.le_of_ble_eq_true rfl⟩) ?_
  refine xAll_c (xs_aload_n C dX9_save_41 rfl) ?_
  refine xAll_c (xs_getR C dX9_save_42 (rfl : vwCl[9]? = some (RX9, TX9, 17)) win9 rfl (by decide) (by decide) rfl wm1027) ?_
  refine xAll_c (xs_iload_n C dX9_save_45 rfl) ?_
  refine xAll_c (xs_iconst C dX9_save_46 (by decide)) ?_
  refine xAll_c (xs_zast C dX9_save_47) ?_
  refine xAll_c (xs_aload_n C dX9_save_48 rfl) ?_
  refine xAll_c (xs_getR C dX9_save_49 (rfl : vwCl[9]? = some (RX9, TX9, 17)) win9 rfl (by decide) (by decide) rfl wm1021) ?_
  refine xAll_c (xs_callSV C (m_X9_valuesOf l g) dX9_save_52 rfl ⟨(by decide), (by decide), by decide +kernel⟩ wm1140 wm1141 wm10 wm1142 ⟨Nat.le_of_ble_eq_true rfl, Nat.le_of_ble_eq_true rfl⟩) ?_
  refine xAll_c (xs_iret C dX9_save_55 rfl) ?_
  exact trivial
noncomputable def k_X9_restore : xCode := [(0, oAload 0 1), (1, oIload 1 2), (2, oI2l 3), (3, oLconst (0) 4), (4, oLconst (1) 5), (5, oCallSV 3 f_X9_in 8), (8, oIf1 (fun x => !(decide (x = 0))) 15 11), (11, oConst (nI 1) 12), (12, oGoto 29), (15, oAload 0 16), (16, oGetR 9 10 19), (19, oIload 1 20), (20, oZald 21), (21, oIf1 (fun x => !(decide (x = 0))) 28 24), (24, oConst (nI 2) 25), (25, oGoto 29), (28, oConst (nI 0) 29), (29, oCallV 9 1 f_X9_refused 32), (32, oIf1 (fun x => decide (x = 0)) 37 35), (35, oConst (nI 0) 36), (36, oIret), (37, oAload 0 38), (38, oGetR 9 9 41), (41, oConst (nI 142) 44), (44, oIload 1 45), (45, oBin (fun x y => x * y) 46), (46, oAload 0 47), (47, oGetR 9 4 50), (50, oConst (nI 0) 51), (51, oCallSU 4 f_X9_copyColumn 54), (54, oAload 0 55), (55, oConst (nI 0) 56), (56, oPutI 9 8 59), (59, oAload 0 60), (60, oGetR 9 4 63), (63, oCallSV 1 f_X9_valuesOf 66), (66, oIret)]
noncomputable def f_X9_restore : xRun := xrun k_X9_restore 2
set_option maxHeartbeats 4000000 in
set_option maxRecDepth 100000 in
theorem m_X9_restore (l : Launch) (g : xG) : xMet l g yX9_restore cX9_restore 2 (some .int) 2 43 f_X9_restore := by
  refine xmet_of (own := RX9) (by decide +kernel) rfl (fun p e s m args below meth c r0 C => ?_)
  refine xAll_c (xs_aload_n C dX9_restore_0 rfl) ?_
  refine xAll_c (xs_iload_n C dX9_restore_1 rfl) ?_
  refine xAll_c (xs_i2l C dX9_restore_2) ?_
  refine xAll_c (xs_lconst C dX9_restore_3 (by decide)) ?_
  refine xAll_c (xs_lconst C dX9_restore_4 (by decide)) ?_
  refine xAll_c (xs_callSV C (m_X9_in l g) dX9_restore_5 rfl ⟨(by decide), (by decide), by decide +kernel⟩ wm1079 wm1080 wm10 wm1081 ⟨Nat.le_of_ble_eq_true rfl, Nat.le_of_ble_eq_true rfl⟩) ?_
  refine xAll_c (xs_if_ne C dX9_restore_8 (by decide)) ?_
  refine xAll_c (xs_iconst C dX9_restore_11 (by decide)) ?_
  refine xAll_c (xs_goto C dX9_restore_12 (by decide)) ?_
  refine xAll_c (xs_aload_n C dX9_restore_15 rfl) ?_
  refine xAll_c (xs_getR C dX9_restore_16 (rfl : vwCl[9]? = some (RX9, TX9, 17)) win9 rfl (by decide) (by decide) rfl wm1027) ?_
  refine xAll_c (xs_iload_n C dX9_restore_19 rfl) ?_
  refine xAll_c (xs_zald C dX9_restore_20) ?_
  refine xAll_c (xs_if_ne C dX9_restore_21 (by decide)) ?_
  refine xAll_c (xs_iconst C dX9_restore_24 (by decide)) ?_
  refine xAll_c (xs_goto C dX9_restore_25 (by decide)) ?_
  refine xAll_c (xs_iconst C dX9_restore_28 (by decide)) ?_
  refine xAll_c (xs_callV C (m_X9_refused l g) dX9_restore_29 (rfl : vwCl[9]? = some (RX9, TX9, 17)) (by decide) rfl ⟨(by decide), (by decide), by decide +kernel⟩ wm1082 wm1084 wp31 wm10 wm1085 ⟨Nat.le_of_ble_eq_true rfl, Nat.le_of_ble_eq_true rfl⟩) ?_
  refine xAll_c (xs_if_eq C dX9_restore_32 (by decide)) ?_
  refine xAll_c (xs_iconst C dX9_restore_35 (by decide)) ?_
  refine xAll_c (xs_iret C dX9_restore_36 rfl) ?_
  refine xAll_c (xs_aload_n C dX9_restore_37 rfl) ?_
  refine xAll_c (xs_getR C dX9_restore_38 (rfl : vwCl[9]? = some (RX9, TX9, 17)) win9 rfl (by decide) (by decide) rfl wm1026) ?_
  refine xAll_c (xs_sipush C dX9_restore_41 (by decide)) ?_
  refine xAll_c (xs_iload_n C dX9_restore_44 rfl) ?_
  refine xAll_c (xs_imul C dX9_restore_45) ?_
  refine xAll_c (xs_aload_n C dX9_restore_46 rfl) ?_
  refine xAll_c (xs_getR C dX9_restore_47 (rfl : vwCl[9]? = some (RX9, TX9, 17)) win9 rfl (by decide) (by decide) rfl wm1021) ?_
  refine xAll_c (xs_iconst C dX9_restore_50 (by decide)) ?_
  refine xAll_c (xs_callSU C (m_X9_copyColumn l g) dX9_restore_51 rfl ⟨(by decide), (by decide), by decide +kernel⟩ wm1250 wm1251 wm10 wm1252 ⟨Nat.le_of_ble_eq_true rfl, Nat.le_of_ble_eq_true rfl⟩) ?_
  refine xAll_c (xs_aload_n C dX9_restore_54 rfl) ?_
  refine xAll_c (xs_iconst C dX9_restore_55 (by decide)) ?_
  refine xAll_c (xs_putI C dX9_restore_56 (rfl : vwCl[9]? = some (RX9, TX9, 17)) win9 tyX9_ok nmX9 rfl (by decide) (by decide) rfl rfl (by decide) wm1025) ?_
  refine xAll_c (xs_aload_n C dX9_restore_59 rfl) ?_
  refine xAll_c (xs_getR C dX9_restore_60 (rfl : vwCl[9]? = some (RX9, TX9, 17)) win9 rfl (by decide) (by decide) rfl wm1021) ?_
  refine xAll_c (xs_callSV C (m_X9_valuesOf l g) dX9_restore_63 rfl ⟨(by decide), (by decide), by decide +kernel⟩ wm1140 wm1141 wm10 wm1142 ⟨Nat.le_of_ble_eq_true rfl, Nat.le_of_ble_eq_true rfl⟩) ?_
  refine xAll_c (xs_iret C dX9_restore_66 rfl) ?_
  exact trivial
