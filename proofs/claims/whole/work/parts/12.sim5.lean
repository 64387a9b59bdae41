noncomputable def k_X9_size : xCode := [(0, oAload 0 1), (1, oAload 0 2), (2, oGetR 9 4 5), (5, oIload 1 6), (6, oCallSV 2 f_X9_isPage 9), (9, oIf1 (fun x => !(decide (x = 0))) 16 12), (12, oConst (nI 1) 13), (13, oGoto 33), (16, oIload 2 17), (17, oI2l 18), (18, oLconst (0) 19), (19, oLconst (4) 22), (22, oCallSV 3 f_X9_in 25), (25, oIf1 (fun x => decide (x = 0)) 32 28), (28, oConst (nI 0) 29), (29, oGoto 33), (32, oConst (nI 2) 33), (33, oCallV 9 1 f_X9_refused 36), (36, oIf1 (fun x => decide (x = 0)) 41 39), (39, oConst (nI 0) 40), (40, oIret), (41, oAload 0 42), (42, oGetR 9 4 45), (45, oConst (nI 22) 47), (47, oAload 0 48), (48, oGetR 9 4 51), (51, oIload 1 52), (52, oCallSV 2 f_X9_firstOf 55), (55, oBin (fun x y => x + y) 56), (56, oAload 0 57), (57, oGetR 9 4 60), (60, oConst (nI 2) 61), (61, oIload 1 62), (62, oBin (fun x y => x + y) 63), (63, oIald 64), (64, oIload 2 65), (65, oCallSV 4 f_X9_sizeBy 68), (68, oIret)]
noncomputable def f_X9_size : xRun := xrun k_X9_size 3
set_option maxHeartbeats 4000000 in
set_option maxRecDepth 100000 in
theorem m_X9_size (l : Launch) (g : xG) : xMet l g yX9_size cX9_size 3 (some .int) 3 71 f_X9_size := by
  refine xmet_of (own := RX9) (by decide +kernel) rfl (fun p e s m args below meth c r0 C => ?_)
  refine xAll_c (xs_aload_n C dX9_size_0 rfl) ?_
  refine xAll_c (xs_aload_n C dX9_size_1 rfl) ?_
  refine xAll_c (xs_getR C dX9_size_2 (rfl : vwCl[9]? = some (RX9, TX9, 17)) win9 rfl (by decide) (by decide) rfl wm1021) ?_
  refine xAll_c (xs_iload_n C dX9_size_5 rfl) ?_
  refine xAll_c (xs_callSV C (m_X9_isPage l g) dX9_size_6 rfl ⟨(by decide), (by decide), by decide +kernel⟩ wm1190 wm1191 wm10 wm1192 ⟨Nat.le_of_ble_eq_true rfl, Nat.le_of_ble_eq_true rfl⟩) ?_
  refine xAll_c (xs_if_ne C dX9_size_9 (by decide)) ?_
  refine xAll_c (xs_iconst C dX9_size_12 (by decide)) ?_
  refine xAll_c (xs_goto C dX9_size_13 (by decide)) ?_
  refine xAll_c (xs_iload_n C dX9_size_16 rfl) ?_
  refine xAll_c (xs_i2l C dX9_size_17) ?_
  refine xAll_c (xs_lconst C dX9_size_18 (by decide)) ?_
  refine xAll_c (xs_ldc2 C dX9_size_19 wm1223) ?_
  refine xAll_c (xs_callSV C (m_X9_in l g) dX9_size_22 rfl ⟨(by decide), (by decide), by decide +kernel⟩ wm1079 wm1080 wm10 wm1081 ⟨Nat.le_of_ble_eq_true rfl, Nat.le_of_ble_eq_true rfl⟩) ?_
  refine xAll_c (xs_if_eq C dX9_size_25 (by decide)) ?_
  refine xAll_c (xs_iconst C dX9_size_28 (by decide)) ?_
  refine xAll_c (xs_goto C dX9_size_29 (by decide)) ?_
  refine xAll_c (xs_iconst C dX9_size_32 (by decide)) ?_
  refine xAll_c (xs_callV C (m_X9_refused l g) dX9_size_33 (rfl : vwCl[9]? = some (RX9, TX9, 17)) (by decide) rfl ⟨(by decide), (by decide), by decide +kernel⟩ wm1082 wm1084 wp31 wm10 wm1085 ⟨Nat.le_of_ble_eq_true rfl, Nat.le_of_ble_eq_true rfl⟩) ?_
  refine xAll_c (xs_if_eq C dX9_size_36 (by decide)) ?_
  refine xAll_c (xs_iconst C dX9_size_39 (by decide)) ?_
  refine xAll_c (xs_iret C dX9_size_40 rfl) ?_
  refine xAll_c (xs_aload_n C dX9_size_41 rfl) ?_
  refine xAll_c (xs_getR C dX9_size_42 (rfl : vwCl[9]? = some (RX9, TX9, 17)) win9 rfl (by decide) (by decide) rfl wm1021) ?_
  refine xAll_c (xs_bipush C dX9_size_45 (by decide)) ?_
  refine xAll_c (xs_aload_n C dX9_size_47 rfl) ?_
  refine xAll_c (xs_getR C dX9_size_48 (rfl : vwCl[9]? = some (RX9, TX9, 17)) win9 rfl (by decide) (by decide) rfl wm1021) ?_
  refine xAll_c (xs_iload_n C dX9_size_51 rfl) ?_
  refine xAll_c (xs_callSV C (m_X9_firstOf l g) dX9_size_52 rfl ⟨(by decide), (by decide), by decide +kernel⟩ wm1143 wm1144 wm10 wm1145 ⟨Nat.le_of_ble_eq_true rfl, Nat.le_of_ble_eq_true rfl⟩) ?_
  refine xAll_c (xs_iadd C dX9_size_55) ?_
  refine xAll_c (xs_aload_n C dX9_size_56 rfl) ?_
  refine xAll_c (xs_getR C dX9_size_57 (rfl : vwCl[9]? = some (RX9, TX9, 17)) win9 rfl (by decide) (by decide) rfl wm1021) ?_
  refine xAll_c (xs_iconst C dX9_size_60 (by decide)) ?_
  refine xAll_c (xs_iload_n C dX9_size_61 rfl) ?_
  refine xAll_c (xs_iadd C dX9_size_62) ?_
  refine xAll_c (xs_iald C dX9_size_63) ?_
  refine xAll_c (xs_iload_n C dX9_size_64 rfl) ?_
  refine xAll_c (xs_callSV C (m_X9_sizeBy l g) dX9_size_65 rfl ⟨(by decide), (by decide), by decide +kernel⟩ wm1158 wm1159 wm10 wm1160 ⟨Nat.le_of_ble_eq_true rfl, Nat.le_of_ble_eq_true rfl⟩) ?_
  refine xAll_c (xs_iret C dX9_size_68 rfl) ?_
  exact trivial
noncomputable def k_X9_costOf : xCode := [(0, oConst (nI 22) 2), (2, oAload 0 3), (3, oIload 1 4), (4, oCallSV 2 f_X9_firstOf 7), (7, oBin (fun x y => x + y) 8), (8, oIstore 3 8 9), (9, oAload 0 10), (10, oConst (nI 2) 11), (11, oIload 1 12), (12, oBin (fun x y => x + y) 13), (13, oIald 14), (14, oIstore 4 8 16), (16, oIload 2 17), (17, oAload 0 18), (18, oIload 3 19), (19, oIload 4 21), (21, oCallSV 3 f_X9_smallestIn 24), (24, oIf2 (fun x y => decide (x < y)) 38 27), (27, oIload 2 28), (28, oAload 0 29), (29, oIload 3 30), (30, oIload 4 32), (32, oCallSV 3 f_X9_greatestIn 35), (35, oIf2 (fun x y => decide (x ≤ y)) 40 38), (38, oConst (nI 1) 39), (39, oIret), (40, oAload 0 41), (41, oIload 1 42), (42, oCallSV 2 f_X9_codingOf 45), (45, oIstore 5 8 47), (47, oIload 5 49), (49, oConst (nI 1) 50), (50, oIf2 (fun x y => !(decide (x = y))) 94 53), (53, oAload 0 54), (54, oIload 3 55), (55, oIload 4 57), (57, oCallSV 3 f_X9_differentIn 60), (60, oIstore 6 8 62), (62, oAload 0 63), (63, oIload 3 64), (64, oIload 4 66), (66, oIload 2 67), (67, oCallSV 4 f_X9_wordOf 70), (70, oIstore 7 8 72), (72, oIload 7 74), (74, oIload 6 76), (76, oIf2 (fun x y => !(decide (x = y))) 86 79), (79, oConst (nI 1) 80), (80, oIload 6 82), (82, oBin (fun x y => x + y) 83), (83, oGoto 93), (86, oConst (nI 2) 87), (87, oIload 7 89), (89, oBin (fun x y => x + y) 90), (90, oIload 4 92), (92, oBin (fun x y => x + y) 93), (93, oIret), (94, oConst (nI 1) 95), (95, oIload 5 97), (97, oConst (nI 2) 98), (98, oIf2 (fun x y => !(decide (x = y))) 111 101), (101, oAload 0 102), (102, oIload 3 103), (103, oIload 4 105), (105, oCallSV 3 f_X9_runsIn 108), (108, oGoto 113), (111, oIload 4 113), (113, oBin (fun x y => x + y) 114), (114, oIret)]
noncomputable def f_X9_costOf : xRun := xrun k_X9_costOf 8
set_option maxHeartbeats 4000000 in
set_option maxRecDepth 100000 in
theorem m_X9_costOf (l : Launch) (g : xG) : xMet l g yX9_costOf cX9_costOf 8 (some .int) 5 116 f_X9_costOf := by
  refine xmet_of (own := RX9) (by decide +kernel) rfl (fun p e s m args below meth c r0 C => ?_)
  refine xAll_c (xs_bipush C dX9_costOf_0 (by decide)) ?_
  refine xAll_c (xs_aload_n C dX9_costOf_2 rfl) ?_
  refine xAll_c (xs_iload_n C dX9_costOf_3 rfl) ?_
  refine xAll_c (xs_callSV C (m_X9_firstOf l g) dX9_costOf_4 rfl ⟨(by decide), (by decide), by decide +kernel⟩ wm1143 wm1144 wm10 wm1145 ⟨Nat.le_of_ble_eq_true rfl, Nat.le_of_ble_eq_true rfl⟩) ?_
  refine xAll_c (xs_iadd C dX9_costOf_7) ?_
  refine xAll_c (xs_istore_n C dX9_costOf_8 rfl) ?_
  refine xAll_c (xs_aload_n C dX9_costOf_9 rfl) ?_
  refine xAll_c (xs_iconst C dX9_costOf_10 (by decide)) ?_
  refine xAll_c (xs_iload_n C dX9_costOf_11 rfl) ?_
  refine xAll_c (xs_iadd C dX9_costOf_12) ?_
  refine xAll_c (xs_iald C dX9_costOf_13) ?_
  refine xAll_c (xs_istore C dX9_costOf_14) ?_
  refine xAll_c (xs_iload_n C dX9_costOf_16 rfl) ?_
  refine xAll_c (xs_aload_n C dX9_costOf_17 rfl) ?_
  refine xAll_c (xs_iload_n C dX9_costOf_18 rfl) ?_
  refine xAll_c (xs_iload C dX9_costOf_19) ?_
  refine xAll_c (xs_callSV C (m_X9_smallestIn l g) dX9_costOf_21 rfl ⟨(by decide), (by decide), by decide +kernel⟩ wm1173 wm1174 wm10 wm1175 ⟨Nat.le_of_ble_eq_true rfl, Nat.le_of_ble_eq_true rfl⟩) ?_
  refine xAll_c (xs_icmp_lt C dX9_costOf_24 (by decide)) ?_
  refine xAll_c (xs_iload_n C dX9_costOf_27 rfl) ?_
  refine xAll_c (xs_aload_n C dX9_costOf_28 rfl) ?_
  refine xAll_c (xs_iload_n C dX9_costOf_29 rfl) ?_
  refine xAll_c (xs_iload C dX9_costOf_30) ?_
  refine xAll_c (xs_callSV C (m_X9_greatestIn l g) dX9_costOf_32 rfl ⟨(by decide), (by decide), by decide +kernel⟩ wm1170 wm1171 wm10 wm1172 ⟨Nat.le_of_ble_eq_true rfl, Nat.le_of_ble_eq_true rfl⟩) ?_
  refine xAll_c (xs_icmp_le C dX9_costOf_35 (by decide)) ?_
  refine xAll_c (xs_iconst C dX9_costOf_38 (by decide)) ?_
  refine xAll_c (xs_iret C dX9_costOf_39 rfl) ?_
  refine xAll_c (xs_aload_n C dX9_costOf_40 rfl) ?_
  refine xAll_c (xs_iload_n C dX9_costOf_41 rfl) ?_
  refine xAll_c (xs_callSV C (m_X9_codingOf l g) dX9_costOf_42 rfl ⟨(by decide), (by decide), by decide +kernel⟩ wm1193 wm1194 wm10 wm1195 ⟨Nat.le_of_ble_eq_true rfl, Nat.le_of_ble_eq_true rfl⟩) ?_
  refine xAll_c (xs_istore C dX9_costOf_45) ?_
  refine xAll_c (xs_iload C dX9_costOf_47) ?_
  refine xAll_c (xs_iconst C dX9_costOf_49 (by decide)) ?_
  refine xAll_c (xs_icmp_ne C dX9_costOf_50 (by decide)) ?_
  refine xAll_c (xs_aload_n C dX9_costOf_53 rfl) ?_
  refine xAll_c (xs_iload_n C dX9_costOf_54 rfl) ?_
  refine xAll_c (xs_iload C dX9_costOf_55) ?_
  refine xAll_c (xs_callSV C (m_X9_differentIn l g) dX9_costOf_57 rfl ⟨(by decide), (by decide), by decide +kernel⟩ wm1161 wm1162 wm10 wm1163 ⟨Nat.le_of_ble_eq_true rfl, Nat.le_of_ble_eq_true rfl⟩) ?_
  refine xAll_c (xs_istore C dX9_costOf_60) ?_
  refine xAll_c (xs_aload_n C dX9_costOf_62 rfl) ?_
  refine xAll_c (xs_iload_n C dX9_costOf_63 rfl) ?_
  refine xAll_c (xs_iload C dX9_costOf_64) ?_
  refine xAll_c (xs_iload_n C dX9_costOf_66 rfl) ?_
  refine xAll_c (xs_callSV C (m_X9_wordOf l g) dX9_costOf_67 rfl ⟨(by decide), (by decide), by decide +kernel⟩ wm1212 wm1213 wm10 wm1214 ⟨Nat.le_of_ble_eq_true rfl, Nat.le_of_ble_eq_true rfl⟩) ?_
  refine xAll_c (xs_istore C dX9_costOf_70) ?_
  refine xAll_c (xs_iload C dX9_costOf_72) ?_
  refine xAll_c (xs_iload C dX9_costOf_74) ?_
  refine xAll_c (xs_icmp_ne C dX9_costOf_76 (by decide)) ?_
  refine xAll_c (xs_iconst C dX9_costOf_79 (by decide)) ?_
  refine xAll_c (xs_iload C dX9_costOf_80) ?_
  refine xAll_c (xs_iadd C dX9_costOf_82) ?_
  refine xAll_c (xs_goto C dX9_costOf_83 (by decide)) ?_
  refine xAll_c (xs_iconst C dX9_costOf_86 (by decide)) ?_
  refine xAll_c (xs_iload C dX9_costOf_87) ?_
  refine xAll_c (xs_iadd C dX9_costOf_89) ?_
  refine xAll_c (xs_iload C dX9_costOf_90) ?_
  refine xAll_c (xs_iadd C dX9_costOf_92) ?_
  refine xAll_c (xs_iret C dX9_costOf_93 rfl) ?_
  refine xAll_c (xs_iconst C dX9_costOf_94 (by decide)) ?_
  refine xAll_c (xs_iload C dX9_costOf_95) ?_
  refine xAll_c (xs_iconst C dX9_costOf_97 (by decide)) ?_
  refine xAll_c (xs_icmp_ne C dX9_costOf_98 (by decide)) ?_
  refine xAll_c (xs_aload_n C dX9_costOf_101 rfl) ?_
  refine xAll_c (xs_iload_n C dX9_costOf_102 rfl) ?_
  refine xAll_c (xs_iload C dX9_costOf_103) ?_
  refine xAll_c (xs_callSV C (m_X9_runsIn l g) dX9_costOf_105 rfl ⟨(by decide), (by decide), by decide +kernel⟩ wm1167 wm1168 wm10 wm1169 ⟨Nat.le_of_ble_eq_true rfl, Nat.le_of_ble_eq_true rfl⟩) ?_
  refine xAll_c (xs_goto C dX9_costOf_108 (by decide)) ?_
  refine xAll_c (xs_iload C dX9_costOf_111) ?_
  refine xAll_c (xs_iadd C dX9_costOf_113) ?_
  refine xAll_c (xs_iret C dX9_costOf_114 rfl) ?_
  exact trivial
noncomputable def k_X9_scan : xCode := [(0, oAload 0 1), (1, oIload 1 2), (2, oI2l 3), (3, oLconst (0) 4), (4, oLconst (1023) 7), (7, oCallSV 3 f_X9_in 10), (10, oIf1 (fun x => decide (x = 0)) 17 13), (13, oConst (nI 0) 14), (14, oGoto 18), (17, oConst (nI 1) 18), (18, oCallV 9 1 f_X9_refused 21), (21, oIf1 (fun x => decide (x = 0)) 26 24), (24, oConst (nI 0) 25), (25, oIret), (26, oConst (nI 0) 27), (27, oIstore 3 5 28), (28, oIload 2 29), (29, oIf1 (fun x => decide (x = 0)) 77 32), (32, oConst (nI 0) 33), (33, oIstore 4 5 35), (35, oIload 4 37), (37, oAload 0 38), (38, oGetR 9 4 41), (41, oCallSV 1 f_X9_valuesOf 44), (44, oIf2 (fun x y => decide (y ≤ x)) 75 47), (47, oIload 3 48), (48, oAload 0 49), (49, oGetR 9 4 52), (52, oConst (nI 22) 54), (54, oIload 4 56), (56, oBin (fun x y => x + y) 57), (57, oIald 58), (58, oIload 1 59), (59, oIf2 (fun x y => !(decide (x = y))) 66 62), (62, oConst (nI 1) 63), (63, oGoto 67), (66, oConst (nI 0) 67), (67, oBin (fun x y => x + y) 68), (68, oIstore 3 5 69), (69, oIinc 4 (nI 1) 5 72), (72, oGoto 35), (75, oIload 3 76), (76, oIret), (77, oConst (nI 0) 78), (78, oIstore 4 5 80), (80, oIload 4 82), (82, oAload 0 83), (83, oGetR 9 4 86), (86, oConst (nI 0) 87), (87, oIald 88), (88, oIf2 (fun x y => decide (y ≤ x)) 110 91), (91, oIload 3 92), (92, oAload 0 93), (93, oGetR 9 4 96), (96, oIload 4 98), (98, oIload 1 99), (99, oCallSV 3 f_X9_costOf 102), (102, oBin (fun x y => x + y) 103), (103, oIstore 3 5 104), (104, oIinc 4 (nI 1) 5 107), (107, oGoto 80), (110, oIload 3 111), (111, oIret)]
noncomputable def f_X9_scan : xRun := xrun k_X9_scan 5
set_option maxHeartbeats 4000000 in
set_option maxRecDepth 100000 in
theorem m_X9_scan (l : Launch) (g : xG) : xMet l g yX9_scan cX9_scan 5 (some .int) 6 143 f_X9_scan := by
  refine xmet_of (own := RX9) (by decide +kernel) rfl (fun p e s m args below meth c r0 C => ?_)
  refine xAll_c (xs_aload_n C dX9_scan_0 rfl) ?_
  refine xAll_c (xs_iload_n C dX9_scan_1 rfl) ?_
  refine xAll_c (xs_i2l C dX9_scan_2) ?_
  refine xAll_c (xs_lconst C dX9_scan_3 (by decide)) ?_
  refine xAll_c (xs_ldc2 C dX9_scan_4 wm1228) ?_
  refine xAll_c (xs_callSV C (m_X9_in l g) dX9_scan_7 rfl ⟨(by decide), (by decide), by decide +kernel⟩ wm1079 wm1080 wm10 wm1081 ⟨Nat.le_of_ble_eq_true rfl, Nat.le_of_ble_eq_true rfl⟩) ?_
  refine xAll_c (xs_if_eq C dX9_scan_10 (by decide)) ?_
  refine xAll_c (xs_iconst C dX9_scan_13 (by decide)) ?_
  refine xAll_c (xs_goto C dX9_scan_14 (by decide)) ?_
  refine xAll_c (xs_iconst C dX9_scan_17 (by decide)) ?_
  refine xAll_c (xs_callV C (m_X9_refused l g) dX9_scan_18 (rfl : vwCl[9]? = some (RX9, TX9, 17)) (by decide) rfl ⟨(by decide), (by decide), by decide +kernel⟩ wm1082 wm1084 wp31 wm10 wm1085 ⟨Nat.le_of_ble_eq_true rfl, Nat.le_of_ble_eq_true rfl⟩) ?_
  refine xAll_c (xs_if_eq C dX9_scan_21 (by decide)) ?_
  refine xAll_c (xs_iconst C dX9_scan_24 (by decide)) ?_
  refine xAll_c (xs_iret C dX9_scan_25 rfl) ?_
  refine xAll_c (xs_iconst C dX9_scan_26 (by decide)) ?_
  refine xAll_c (xs_istore_n C dX9_scan_27 rfl) ?_
  refine xAll_c (xs_iload_n C dX9_scan_28 rfl) ?_
  refine xAll_c (xs_if_eq C dX9_scan_29 (by decide)) ?_
  refine xAll_c (xs_iconst C dX9_scan_32 (by decide)) ?_
  refine xAll_c (xs_istore C dX9_scan_33) ?_
  refine xAll_c (xs_iload C dX9_scan_35) ?_
  refine xAll_c (xs_aload_n C dX9_scan_37 rfl) ?_
  refine xAll_c (xs_getR C dX9_scan_38 (rfl : vwCl[9]? = some (RX9, TX9, 17)) win9 rfl (by decide) (by decide) rfl wm1021) ?_
  refine xAll_c (xs_callSV C (m_X9_valuesOf l g) dX9_scan_41 rfl ⟨(by decide), (by decide), by decide +kernel⟩ wm1140 wm1141 wm10 wm1142 ⟨Nat.le_of_ble_eq_true rfl, Nat.le_of_ble_eq_true rfl⟩) ?_
  refine xAll_c (xs_icmp_ge C dX9_scan_44 (by decide)) ?_
  refine xAll_c (xs_iload_n C dX9_scan_47 rfl) ?_
  refine xAll_c (xs_aload_n C dX9_scan_48 rfl) ?_
  refine xAll_c (xs_getR C dX9_scan_49 (rfl : vwCl[9]? = some (RX9, TX9, 17)) win9 rfl (by decide) (by decide) rfl wm1021) ?_
  refine xAll_c (xs_bipush C dX9_scan_52 (by decide)) ?_
  refine xAll_c (xs_iload C dX9_scan_54) ?_
  refine xAll_c (xs_iadd C dX9_scan_56) ?_
  refine xAll_c (xs_iald C dX9_scan_57) ?_
  refine xAll_c (xs_iload_n C dX9_scan_58 rfl) ?_
  refine xAll_c (xs_icmp_ne C dX9_scan_59 (by decide)) ?_
  refine xAll_c (xs_iconst C dX9_scan_62 (by decide)) ?_
  refine xAll_c (xs_goto C dX9_scan_63 (by decide)) ?_
  refine xAll_c (xs_iconst C dX9_scan_66 (by decide)) ?_
  refine xAll_c (xs_iadd C dX9_scan_67) ?_
  refine xAll_c (xs_istore_n C dX9_scan_68 rfl) ?_
  refine xAll_c (xs_iinc C dX9_scan_69 rfl) ?_
  refine xAll_c (xs_goto C dX9_scan_72 (by decide)) ?_
  refine xAll_c (xs_iload_n C dX9_scan_75 rfl) ?_
  refine xAll_c (xs_iret C dX9_scan_76 rfl) ?_
  refine xAll_c (xs_iconst C dX9_scan_77 (by decide)) ?_
  refine xAll_c (xs_istore C dX9_scan_78) ?_
  refine xAll_c (xs_iload C dX9_scan_80) ?_
  refine xAll_c (xs_aload_n C dX9_scan_82 rfl) ?_
  refine xAll_c (xs_getR C dX9_scan_83 (rfl : vwCl[9]? = some (RX9, TX9, 17)) win9 rfl (by decide) (by decide) rfl wm1021) ?_
  refine xAll_c (xs_iconst C dX9_scan_86 (by decide)) ?_
  refine xAll_c (xs_iald C dX9_scan_87) ?_
  refine xAll_c (xs_icmp_ge C dX9_scan_88 (by decide)) ?_
  refine xAll_c (xs_iload_n C dX9_scan_91 rfl) ?_
  refine xAll_c (xs_aload_n C dX9_scan_92 rfl) ?_
  refine xAll_c (xs_getR C dX9_scan_93 (rfl : vwCl[9]? = some (RX9, TX9, 17)) win9 rfl (by decide) (by decide) rfl wm1021) ?_
  refine xAll_c (xs_iload C dX9_scan_96) ?_
  refine xAll_c (xs_iload_n C dX9_scan_98 rfl) ?_
  refine xAll_c (xs_callSV C (m_X9_costOf l g) dX9_scan_99 rfl ⟨(by decide), (by decide), by decide +kernel⟩ wm1229 wm1230 wm10 wm1231 ⟨Nat.le_of_ble_eq_true rfl, Nat.le_of_ble_eq_true rfl⟩) ?_
  refine xAll_c (xs_iadd C dX9_scan_102) ?_
  refine xAll_c (xs_istore_n C dX9_scan_103 rfl) ?_
  refine xAll_c (xs_iinc C dX9_scan_104 rfl) ?_
  refine xAll_c (xs_goto C dX9_scan_107 (by decide)) ?_
  refine xAll_c (xs_iload_n C dX9_scan_110 rfl) ?_
  refine xAll_c (xs_iret C dX9_scan_111 rfl) ?_
  exact trivial
noncomputable def k_X9_sum : xCode := [(0, oAload 0 1), (1, oAload 0 2), (2, oGetR 9 4 5), (5, oIload 1 6), (6, oCallSV 2 f_X9_isValue 9), (9, oIf1 (fun x => decide (x = 0)) 27 12), (12, oAload 0 13), (13, oGetR 9 4 16), (16, oIload 2 17), (17, oCallSV 2 f_X9_isValue 20), (20, oIf1 (fun x => decide (x = 0)) 27 23), (23, oConst (nI 0) 24), (24, oGoto 28), (27, oConst (nI 1) 28), (28, oCallV 9 1 f_X9_refused 31), (31, oIf1 (fun x => decide (x = 0)) 36 34), (34, oConst (nI 0) 35), (35, oIret), (36, oConst (nI 0) 37), (37, oIstore 3 5 38), (38, oIload 1 39), (39, oIstore 4 5 41), (41, oIload 4 43), (43, oIload 2 44), (44, oIf2 (fun x y => decide (y < x)) 66 47), (47, oIload 3 48), (48, oAload 0 49), (49, oGetR 9 4 52), (52, oConst (nI 22) 54), (54, oIload 4 56), (56, oBin (fun x y => x + y) 57), (57, oIald 58), (58, oBin (fun x y => x + y) 59), (59, oIstore 3 5 60), (60, oIinc 4 (nI 1) 5 63), (63, oGoto 41), (66, oIload 3 67), (67, oIret)]
noncomputable def f_X9_sum : xRun := xrun k_X9_sum 5
set_option maxHeartbeats 4000000 in
set_option maxRecDepth 100000 in
theorem m_X9_sum (l : Launch) (g : xG) : xMet l g yX9_sum cX9_sum 5 (some .int) 3 64 f_X9_sum := by
  refine xmet_of (own := RX9) (by decide +kernel) rfl (fun p e s m args below meth c r0 C => ?_)
  refine xAll_c (xs_aload_n C dX9_sum_0 rfl) ?_
  refine xAll_c (xs_aload_n C dX9_sum_1 rfl) ?_
  refine xAll_c (xs_getR C dX9_sum_2 (rfl : vwCl[9]? = some (RX9, TX9, 17)) win9 rfl (by decide) (by decide) rfl wm1021) ?_
  refine xAll_c (xs_iload_n C dX9_sum_5 rfl) ?_
  refine xAll_c (xs_callSV C (m_X9_isValue l g) dX9_sum_6 rfl ⟨(by decide), (by decide), by decide +kernel⟩ wm1183 wm1184 wm10 wm1185 ⟨Nat.le_of_ble_eq_true rfl, Nat.le_of_ble_eq_true rfl⟩) ?_
  refine xAll_c (xs_if_eq C dX9_sum_9 (by decide)) ?_
  refine xAll_c (xs_aload_n C dX9_sum_12 rfl) ?_
  refine xAll_c (xs_getR C dX9_sum_13 (rfl : vwCl[9]? = some (RX9, TX9, 17)) win9 rfl (by decide) (by decide) rfl wm1021) ?_
  refine xAll_c (xs_iload_n C dX9_sum_16 rfl) ?_
  refine xAll_c (xs_callSV C (m_X9_isValue l g) dX9_sum_17 rfl ⟨(by decide), (by decide), by decide +kernel⟩ wm1183 wm1184 wm10 wm1185 ⟨Nat.le_of_ble_eq_true rfl, Nat.le_of_ble_eq_true rfl⟩) ?_
  refine xAll_c (xs_if_eq C dX9_sum_20 (by decide)) ?_
  refine xAll_c (xs_iconst C dX9_sum_23 (by decide)) ?_
  refine xAll_c (xs_goto C dX9_sum_24 (by decide)) ?_
  refine xAll_c (xs_iconst C dX9_sum_27 (by decide)) ?_
  refine xAll_c (xs_callV C (m_X9_refused l g) dX9_sum_28 (rfl : vwCl[9]? = some (RX9, TX9, 17)) (by decide) rfl ⟨(by decide), (by decide), by decide +kernel⟩ wm1082 wm1084 wp31 wm10 wm1085 ⟨Nat.le_of_ble_eq_true rfl, Nat.le_of_ble_eq_true rfl⟩) ?_
  refine xAll_c (xs_if_eq C dX9_sum_31 (by decide)) ?_
  refine xAll_c (xs_iconst C dX9_sum_34 (by decide)) ?_
  refine xAll_c (xs_iret C dX9_sum_35 rfl) ?_
  refine xAll_c (xs_iconst C dX9_sum_36 (by decide)) ?_
  refine xAll_c (xs_istore_n C dX9_sum_37 rfl) ?_
  refine xAll_c (xs_iload_n C dX9_sum_38 rfl) ?_
  refine xAll_c (xs_istore C dX9_sum_39) ?_
  refine xAll_c (xs_iload C dX9_sum_41) ?_
  refine xAll_c (xs_iload_n C dX9_sum_43 rfl) ?_
  refine xAll_c (xs_icmp_gt C dX9_sum_44 (by decide)) ?_
  refine xAll_c (xs_iload_n C dX9_sum_47 rfl) ?_
  refine xAll_c (xs_aload_n C dX9_sum_48 rfl) ?_
  refine xAll_c (xs_getR C dX9_sum_49 (rfl : vwCl[9]? = some (RX9, TX9, 17)) win9 rfl (by decide) (by decide) rfl wm1021) ?_
  refine xAll_c (xs_bipush C dX9_sum_52 (by decide)) ?_
  refine xAll_c (xs_iload C dX9_sum_54) ?_
  refine xAll_c (xs_iadd C dX9_sum_56) ?_
  refine xAll_c (xs_iald C dX9_sum_57) ?_
  refine xAll_c (xs_iadd C dX9_sum_58) ?_
  refine xAll_c (xs_istore_n C dX9_sum_59 rfl) ?_
  refine xAll_c (xs_iinc C dX9_sum_60 rfl) ?_
  refine xAll_c (xs_goto C dX9_sum_63 (by decide)) ?_
  refine xAll_c (xs_iload_n C dX9_sum_66 rfl) ?_
  refine xAll_c (xs_iret C dX9_sum_67 rfl) ?_
  exact trivial
noncomputable def k_X9_remember : xCode := [(0, oAload 0 1), (1, oGetI 9 8 4), (4, oConst (nI 14) 6), (6, oIf2 (fun x y => !(decide (x = y))) 50 9), (9, oConst (nI 0) 10), (10, oIstore 1 2 11), (11, oIload 1 12), (12, oConst (nI 1846) 15), (15, oIf2 (fun x y => decide (y ≤ x)) 40 18), (18, oAload 0 19), (19, oGetR 9 7 22), (22, oIload 1 23), (23, oAload 0 24), (24, oGetR 9 7 27), (27, oIload 1 28), (28, oConst (nI 142) 31), (31, oBin (fun x y => x + y) 32), (32, oIald 33), (33, oIast 34), (34, oIinc 1 (nI 1) 2 37), (37, oGoto 11), (40, oAload 0 41), (41, oDup 42), (42, oGetI 9 8 45), (45, oConst (nI 1) 46), (46, oBin (fun x y => x - y) 47), (47, oPutI 9 8 50), (50, oAload 0 51), (51, oGetR 9 4 54), (54, oConst (nI 0) 55), (55, oAload 0 56), (56, oGetR 9 7 59), (59, oConst (nI 142) 62), (62, oAload 0 63), (63, oGetI 9 8 66), (66, oBin (fun x y => x * y) 67), (67, oCallSU 4 f_X9_copyColumn 70), (70, oAload 0 71), (71, oDup 72), (72, oGetI 9 8 75), (75, oConst (nI 1) 76), (76, oBin (fun x y => x + y) 77), (77, oPutI 9 8 80), (80, oVret)]
noncomputable def f_X9_remember : xRun := xrun k_X9_remember 2
set_option maxHeartbeats 4000000 in
set_option maxRecDepth 100000 in
theorem m_X9_remember (l : Launch) (g : xG) : xMet l g yX9_remember cX9_remember 2 none 1 24 f_X9_remember := by
  refine xmet_of (own := RX9) (by decide +kernel) rfl (fun p e s m args below meth c r0 C => ?_)
  refine xAll_c (xs_aload_n C dX9_remember_0 rfl) ?_
  refine xAll_c (xs_getI C dX9_remember_1 (rfl : vwCl[9]? = some (RX9, TX9, 17)) win9 rfl (by decide) (by decide) rfl wm1025) ?_
  refine xAll_c (xs_bipush C dX9_remember_4 (by decide)) ?_
  refine xAll_c (xs_icmp_ne C dX9_remember_6 (by decide)) ?_
  refine xAll_c (xs_iconst C dX9_remember_9 (by decide)) ?_
  refine xAll_c (xs_istore_n C dX9_remember_10 rfl) ?_
  refine xAll_c (xs_iload_n C dX9_remember_11 rfl) ?_
  refine xAll_c (xs_sipush C dX9_remember_12 (by decide)) ?_
  refine xAll_c (xs_icmp_ge C dX9_remember_15 (by decide)) ?_
  refine xAll_c (xs_aload_n C dX9_remember_18 rfl) ?_
  refine xAll_c (xs_getR C dX9_remember_19 (rfl : vwCl[9]? = some (RX9, TX9, 17)) win9 rfl (by decide) (by decide) rfl wm1024) ?_
  refine xAll_c (xs_iload_n C dX9_remember_22 rfl) ?_
  refine xAll_c (xs_aload_n C dX9_remember_23 rfl) ?_
  refine xAll_c (xs_getR C dX9_remember_24 (rfl : vwCl[9]? = some (RX9, TX9, 17)) win9 rfl (by decide) (by decide) rfl wm1024) ?_
  refine xAll_c (xs_iload_n C dX9_remember_27 rfl) ?_
  refine xAll_c (xs_sipush C dX9_remember_28 (by decide)) ?_
  refine xAll_c (xs_iadd C dX9_remember_31) ?_
  refine xAll_c (xs_iald C dX9_remember_32) ?_
  refine xAll_c (xs_iast C dX9_remember_33) ?_
  refine xAll_c (xs_iinc C dX9_remember_34 rfl) ?_
  refine xAll_c (xs_goto C dX9_remember_37 (by decide)) ?_
  refine xAll_c (xs_aload_n C dX9_remember_40 rfl) ?_
  refine xAll_c (xs_dup C dX9_remember_41) ?_
  refine xAll_c (xs_getI C dX9_remember_42 (rfl : vwCl[9]? = some (RX9, TX9, 17)) win9 rfl (by decide) (by decide) rfl wm1025) ?_
  refine xAll_c (xs_iconst C dX9_remember_45 (by decide)) ?_
  refine xAll_c (xs_isub C dX9_remember_46) ?_
  refine xAll_c (xs_putI C dX9_remember_47 (rfl : vwCl[9]? = some (RX9, TX9, 17)) win9 tyX9_ok nmX9 rfl (by decide) (by decide) rfl rfl (by decide) wm1025) ?_
  refine xAll_c (xs_aload_n C dX9_remember_50 rfl) ?_
  refine xAll_c (xs_getR C dX9_remember_51 (rfl : vwCl[9]? = some (RX9, TX9, 17)) win9 rfl (by decide) (by decide) rfl wm1021) ?_
  refine xAll_c (xs_iconst C dX9_remember_54 (by decide)) ?_
  refine xAll_c (xs_aload_n C dX9_remember_55 rfl) ?_
  refine xAll_c (xs_getR C dX9_remember_56 (rfl : vwCl[9]? = some (RX9, TX9, 17)) win9 rfl (by decide) (by decide) rfl wm1024) ?_
  refine xAll_c (xs_sipush C dX9_remember_59 (by decide)) ?_
  refine xAll_c (xs_aload_n C dX9_remember_62 rfl) ?_
  refine xAll_c (xs_getI C dX9_remember_63 (rfl : vwCl[9]? = some (RX9, TX9, 17)) win9 rfl (by decide) (by decide) rfl wm1025) ?_
  refine xAll_c (xs_imul C dX9_remember_66) ?_
  refine xAll_c (xs_callSU C (m_X9_copyColumn l g) dX9_remember_67 rfl ⟨(by decide), (by decide), by decide +kernel⟩ wm1250 wm1251 wm10 wm1252 ⟨Nat.le_of_ble_eq_true rfl, Nat.le_of_ble_eq_true rfl⟩) ?_
  refine xAll_c (xs_aload_n C dX9_remember_70 rfl) ?_
  refine xAll_c (xs_dup C dX9_remember_71) ?_
  refine xAll_c (xs_getI C dX9_remember_72 (rfl : vwCl[9]? = some (RX9, TX9, 17)) win9 rfl (by decide) (by decide) rfl wm1025) ?_
  refine xAll_c (xs_iconst C dX9_remember_75 (by decide)) ?_
  refine xAll_c (xs_iadd C dX9_remember_76) ?_
  refine xAll_c (xs_putI C dX9_remember_77 (rfl : vwCl[9]? = some (RX9, TX9, 17)) win9 tyX9_ok nmX9 rfl (by decide) (by decide) rfl rfl (by decide) wm1025) ?_
  refine xAll_c (xs_vret C dX9_remember_80 rfl) ?_
  exact trivial
noncomputable def k_X9_hasRoom : xCode := [(0, oAload 0 1), (1, oConst (nI 0) 2), (2, oIald 3), (3, oConst (nI 1) 4), (4, oBin (fun x y => x - y) 5), (5, oIstore 1 2 6), (6, oIload 1 7), (7, oIf1 (fun x => decide (x < 0)) 25 10), (10, oAload 0 11), (11, oConst (nI 2) 12), (12, oIload 1 13), (13, oBin (fun x y => x + y) 14), (14, oIald 15), (15, oAload 0 16), (16, oConst (nI 1) 17), (17, oIald 18), (18, oIf2 (fun x y => decide (y ≤ x)) 25 21), (21, oConst (nI 1) 22), (22, oGoto 26), (25, oConst (nI 0) 26), (26, oZret)]
noncomputable def f_X9_hasRoom : xRun := xrun k_X9_hasRoom 2
set_option maxHeartbeats 4000000 in
set_option maxRecDepth 100000 in
theorem m_X9_hasRoom (l : Launch) (g : xG) : xMet l g yX9_hasRoom cX9_hasRoom 2 (some .boolean) 0 0 f_X9_hasRoom := by
  refine xmet_of (own := RX9) (by decide +kernel) rfl (fun p e s m args below meth c r0 C => ?_)
  refine xAll_c (xs_aload_n C dX9_hasRoom_0 rfl) ?_
  refine xAll_c (xs_iconst C dX9_hasRoom_1 (by decide)) ?_
  refine xAll_c (xs_iald C dX9_hasRoom_2) ?_
  refine xAll_c (xs_iconst C dX9_hasRoom_3 (by decide)) ?_
  refine xAll_c (xs_isub C dX9_hasRoom_4) ?_
  refine xAll_c (xs_istore_n C dX9_hasRoom_5 rfl) ?_
  refine xAll_c (xs_iload_n C dX9_hasRoom_6 rfl) ?_
  refine xAll_c (xs_if_lt C dX9_hasRoom_7 (by decide)) ?_
  refine xAll_c (xs_aload_n C dX9_hasRoom_10 rfl) ?_
  refine xAll_c (xs_iconst C dX9_hasRoom_11 (by decide)) ?_
  refine xAll_c (xs_iload_n C dX9_hasRoom_12 rfl) ?_
  refine xAll_c (xs_iadd C dX9_hasRoom_13) ?_
  refine xAll_c (xs_iald C dX9_hasRoom_14) ?_
  refine xAll_c (xs_aload_n C dX9_hasRoom_15 rfl) ?_
  refine xAll_c (xs_iconst C dX9_hasRoom_16 (by decide)) ?_
  refine xAll_c (xs_iald C dX9_hasRoom_17) ?_
  refine xAll_c (xs_icmp_ge C dX9_hasRoom_18 (by decide)) ?_
  refine xAll_c (xs_iconst C dX9_hasRoom_21 (by decide)) ?_
  refine xAll_c (xs_goto C dX9_hasRoom_22 (by decide)) ?_
  refine xAll_c (xs_iconst C dX9_hasRoom_25 (by decide)) ?_
  refine xAll_c (xs_zret C dX9_hasRoom_26 rfl) ?_
  exact trivial
noncomputable def k_X9_canAdd : xCode := [(0, oAload 0 1), (1, oCallSV 1 f_X9_hasRoom 4), (4, oIf1 (fun x => !(decide (x = 0))) 15 7), (7, oAload 0 8), (8, oConst (nI 0) 9), (9, oIald 10), (10, oConst (nI 10) 12), (12, oIf2 (fun x y => decide (y ≤ x)) 19 15), (15, oConst (nI 1) 16), (16, oGoto 20), (19, oConst (nI 0) 20), (20, oZret)]
noncomputable def f_X9_canAdd : xRun := xrun k_X9_canAdd 1
set_option maxHeartbeats 4000000 in
set_option maxRecDepth 100000 in
theorem m_X9_canAdd (l : Launch) (g : xG) : xMet l g yX9_canAdd cX9_canAdd 1 (some .boolean) 1 21 f_X9_canAdd := by
  refine xmet_of (own := RX9) (by decide +kernel) rfl (fun p e s m args below meth c r0 C => ?_)
  refine xAll_c (xs_aload_n C dX9_canAdd_0 rfl) ?_
  refine xAll_c (xs_callSV C (m_X9_hasRoom l g) dX9_canAdd_1 rfl ⟨(by decide), (by decide), by decide +kernel⟩ wm1243 wm1244 wm10 wm1245 ⟨Nat.le_of_ble_eq_true rfl, Nat.le_of_ble_eq_true rfl⟩) ?_
  refine xAll_c (xs_if_ne C dX9_canAdd_4 (by decide)) ?_
  refine xAll_c (xs_aload_n C dX9_canAdd_7 rfl) ?_
  refine xAll_c (xs_iconst C dX9_canAdd_8 (by decide)) ?_
  refine xAll_c (xs_iald C dX9_canAdd_9) ?_
  refine xAll_c (xs_bipush C dX9_canAdd_10 (by decide)) ?_
  refine xAll_c (xs_icmp_ge C dX9_canAdd_12 (by decide)) ?_
  refine xAll_c (xs_iconst C dX9_canAdd_15 (by decide)) ?_
  refine xAll_c (xs_goto C dX9_canAdd_16 (by decide)) ?_
  refine xAll_c (xs_iconst C dX9_canAdd_19 (by decide)) ?_
  refine xAll_c (xs_zret C dX9_canAdd_20 rfl) ?_
  exact trivial
noncomputable def k_X9_addOn : xCode := [(0, oAload 0 1), (1, oConst (nI 22) 3), (3, oAload 0 4), (4, oCallSV 1 f_X9_valuesOf 7), (7, oBin (fun x y => x + y) 8), (8, oIload 1 9), (9, oIast 10), (10, oAload 0 11), (11, oCallSV 1 f_X9_hasRoom 14), (14, oIf1 (fun x => !(decide (x = 0))) 41 17), (17, oAload 0 18), (18, oConst (nI 2) 19), (19, oAload 0 20), (20, oConst (nI 0) 21), (21, oIald 22), (22, oBin (fun x y => x + y) 23), (23, oConst (nI 0) 24), (24, oIast 25), (25, oAload 0 26), (26, oConst (nI 12) 28), (28, oAload 0 29), (29, oConst (nI 0) 30), (30, oIald 31), (31, oBin (fun x y => x + y) 32), (32, oConst (nI 0) 33), (33, oIast 34), (34, oAload 0 35), (35, oConst (nI 0) 36), (36, oDup2 37), (37, oIald 38), (38, oConst (nI 1) 39), (39, oBin (fun x y => x + y) 40), (40, oIast 41), (41, oAload 0 42), (42, oConst (nI 2) 43), (43, oAload 0 44), (44, oConst (nI 0) 45), (45, oIald 46), (46, oBin (fun x y => x + y) 47), (47, oConst (nI 1) 48), (48, oBin (fun x y => x - y) 49), (49, oDup2 50), (50, oIald 51), (51, oConst (nI 1) 52), (52, oBin (fun x y => x + y) 53), (53, oIast 54), (54, oAload 0 55), (55, oConst (nI 0) 56), (56, oIald 57), (57, oConst (nI 1) 58), (58, oBin (fun x y => x - y) 59), (59, oIret)]
noncomputable def f_X9_addOn : xRun := xrun k_X9_addOn 2
set_option maxHeartbeats 4000000 in
set_option maxRecDepth 100000 in
theorem m_X9_addOn (l : Launch) (g : xG) : xMet l g yX9_addOn cX9_addOn 2 (some .int) 2 43 f_X9_addOn := by
  refine xmet_of (own := RX9) (by decide +kernel) rfl (fun p e s m args below meth c r0 C => ?_)
  refine xAll_c (xs_aload_n C dX9_addOn_0 rfl) ?_
  refine xAll_c (xs_bipush C dX9_addOn_1 (by decide)) ?_
  refine xAll_c (xs_aload_n C dX9_addOn_3 rfl) ?_
  refine xAll_c (xs_callSV C (m_X9_valuesOf l g) dX9_addOn_4 rfl ⟨(by decide), (by decide), by decide +kernel⟩ wm1140 wm1141 wm10 wm1142 ⟨Nat.le_of_ble_eq_true rfl, Nat.le_of_ble_eq_true rfl⟩) ?_
  refine xAll_c (xs_iadd C dX9_addOn_7) ?_
  refine xAll_c (xs_iload_n C dX9_addOn_8 rfl) ?_
  refine xAll_c (xs_iast C dX9_addOn_9) ?_
  refine xAll_c (xs_aload_n C dX9_addOn_10 rfl) ?_
  refine xAll_c (xs_callSV C (m_X9_hasRoom l g) dX9_addOn_11 rfl ⟨(by decide), (by decide), by decide +kernel⟩ wm1243 wm1244 wm10 wm1245 ⟨Nat.le_of_ble_eq_true rfl, Nat.le_of_ble_eq_true rfl⟩) ?_
  refine xAll_c (xs_if_ne C dX9_addOn_14 (by decide)) ?_
  refine xAll_c (xs_aload_n C dX9_addOn_17 rfl) ?_
  refine xAll_c (xs_iconst C dX9_addOn_18 (by decide)) ?_
  refine xAll_c (xs_aload_n C dX9_addOn_19 rfl) ?_
  refine xAll_c (xs_iconst C dX9_addOn_20 (by decide)) ?_
  refine xAll_c (xs_iald C dX9_addOn_21) ?_
  refine xAll_c (xs_iadd C dX9_addOn_22) ?_
  refine xAll_c (xs_iconst C dX9_addOn_23 (by decide)) ?_
  refine xAll_c (xs_iast C dX9_addOn_24) ?_
  refine xAll_c (xs_aload_n C dX9_addOn_25 rfl) ?_
  refine xAll_c (xs_bipush C dX9_addOn_26 (by decide)) ?_
  refine xAll_c (xs_aload_n C dX9_addOn_28 rfl) ?_
  refine xAll_c (xs_iconst C dX9_addOn_29 (by decide)) ?_
  refine xAll_c (xs_iald C dX9_addOn_30) ?_
  refine xAll_c (xs_iadd C dX9_addOn_31) ?_
  refine xAll_c (xs_iconst C dX9_addOn_32 (by decide)) ?_
  refine xAll_c (xs_iast C dX9_addOn_33) ?_
  refine xAll_c (xs_aload_n C dX9_addOn_34 rfl) ?_
  refine xAll_c (xs_iconst C dX9_addOn_35 (by decide)) ?_
  refine xAll_c (xs_dup2 C dX9_addOn_36) ?_
  refine xAll_c (xs_iald C dX9_addOn_37) ?_
  refine xAll_c (xs_iconst C dX9_addOn_38 (by decide)) ?_
  refine xAll_c (xs_iadd C dX9_addOn_39) ?_
  refine xAll_c (xs_iast C dX9_addOn_40) ?_
  refine xAll_c (xs_aload_n C dX9_addOn_41 rfl) ?_
  refine xAll_c (xs_iconst C dX9_addOn_42 (by decide)) ?_
  refine xAll_c (xs_aload_n C dX9_addOn_43 rfl) ?_
  refine xAll_c (xs_iconst C dX9_addOn_44 (by decide)) ?_
  refine xAll_c (xs_iald C dX9_addOn_45) ?_
  refine xAll_c (xs_iadd C dX9_addOn_46) ?_
  refine xAll_c (xs_iconst C dX9_addOn_47 (by decide)) ?_
  refine xAll_c (xs_isub C dX9_addOn_48) ?_
  refine xAll_c (xs_dup2 C dX9_addOn_49) ?_
  refine xAll_c (xs_iald C dX9_addOn_50) ?_
  refine xAll_c (xs_iconst C dX9_addOn_51 (by decide)) ?_
  refine xAll_c (xs_iadd C dX9_addOn_52) ?_
  refine xAll_c (xs_iast C dX9_addOn_53) ?_
  refine xAll_c (xs_aload_n C dX9_addOn_54 rfl) ?_
  refine xAll_c (xs_iconst C dX9_addOn_55 (by decide)) ?_
  refine xAll_c (xs_iald C dX9_addOn_56) ?_
  refine xAll_c (xs_iconst C dX9_addOn_57 (by decide)) ?_
  refine xAll_c (xs_isub C dX9_addOn_58) ?_
  refine xAll_c (xs_iret C dX9_addOn_59 rfl) ?_
  exact trivial
noncomputable def k_X9_add : xCode := [(0, oAload 0 1), (1, oIload 1 2), (2, oI2l 3), (3, oLconst (0) 4), (4, oLconst (1023) 7), (7, oCallSV 3 f_X9_in 10), (10, oIf1 (fun x => !(decide (x = 0))) 17 13), (13, oConst (nI 1) 14), (14, oGoto 32), (17, oAload 0 18), (18, oGetR 9 4 21), (21, oCallSV 1 f_X9_canAdd 24), (24, oIf1 (fun x => decide (x = 0)) 31 27), (27, oConst (nI 0) 28), (28, oGoto 32), (31, oConst (nI 2) 32), (32, oCallV 9 1 f_X9_refused 35), (35, oIf1 (fun x => decide (x = 0)) 40 38), (38, oConst (nI 0) 39), (39, oIret), (40, oAload 0 41), (41, oCallU 9 0 f_X9_remember 44), (44, oAload 0 45), (45, oGetR 9 4 48), (48, oIload 1 49), (49, oCallSV 2 f_X9_addOn 52), (52, oIret)]
noncomputable def f_X9_add : xRun := xrun k_X9_add 2
set_option maxHeartbeats 4000000 in
set_option maxRecDepth 100000 in
theorem m_X9_add (l : Launch) (g : xG) : xMet l g yX9_add cX9_add 2 (some .int) 3 64 f_X9_add := by
  refine xmet_of (own := RX9) (by decide +kernel) rfl (fun p e s m args below meth c r0 C => ?_)
  refine xAll_c (xs_aload_n C dX9_add_0 rfl) ?_
  refine xAll_c (xs_iload_n C dX9_add_1 rfl) ?_
  refine xAll_c (xs_i2l C dX9_add_2) ?_
  refine xAll_c (xs_lconst C dX9_add_3 (by decide)) ?_
  refine xAll_c (xs_ldc2 C dX9_add_4 wm1228) ?_
  refine xAll_c (xs_callSV C (m_X9_in l g) dX9_add_7 rfl ⟨(by decide), (by decide), by decide +kernel⟩ wm1079 wm1080 wm10 wm1081 ⟨Nat.le_of_ble_eq_true rfl, Nat.le_of_ble_eq_true rfl⟩) ?_
  refine xAll_c (xs_if_ne C dX9_add_10 (by decide)) ?_
  refine xAll_c (xs_iconst C dX9_add_13 (by decide)) ?_
  refine xAll_c (xs_goto C dX9_add_14 (by decide)) ?_
  refine xAll_c (xs_aload_n C dX9_add_17 rfl) ?_
  refine xAll_c (xs_getR C dX9_add_18 (rfl : vwCl[9]? = some (RX9, TX9, 17)) win9 rfl (by decide) (by decide) rfl wm1021) ?_
  refine xAll_c (xs_callSV C (m_X9_canAdd l g) dX9_add_21 rfl ⟨(by decide), (by decide), by decide +kernel⟩ wm1240 wm1241 wm10 wm1242 ⟨Nat.le_of_ble_eq_true rfl, Nat.le_of_ble_eq_true rfl⟩) ?_
  refine xAll_c (xs_if_eq C dX9_add_24 (by decide)) ?_
  refine xAll_c (xs_iconst C dX9_add_27 (by decide)) ?_
  refine xAll_c (xs_goto C dX9_add_28 (by decide)) ?_
  refine xAll_c (xs_iconst C dX9_add_31 (by decide)) ?_
  refine xAll_c (xs_callV C (m_X9_refused l g) dX9_add_32 (rfl : vwCl[9]? = some (RX9, TX9, 17)) (by decide) rfl ⟨(by decide), (by decide), by decide +kernel⟩ wm1082 wm1084 wp31 wm10 wm1085 ⟨Nat.le_of_ble_eq_true rfl, Nat.le_of_ble_eq_true rfl⟩) ?_
  refine xAll_c (xs_if_eq C dX9_add_35 (by decide)) ?_
  refine xAll_c (xs_iconst C dX9_add_38 (by decide)) ?_
  refine xAll_c (xs_iret C dX9_add_39 rfl) ?_
  refine xAll_c (xs_aload_n C dX9_add_40 rfl) ?_
  refine xAll_c (xs_callU C (m_X9_remember l g) dX9_add_41 (rfl : vwCl[9]? = some (RX9, TX9, 17)) (by decide) rfl ⟨(by decide), (by decide), by decide +kernel⟩ wm1246 wm1248 wp44 wm10 wm1249 ⟨Nat.le_of_ble_eq_true rfl, Nat.le_of_ble_eq_true rfl⟩) ?_
  refine xAll_c (xs_aload_n C dX9_add_44 rfl) ?_
  refine xAll_c (xs_getR C dX9_add_45 (rfl : vwCl[9]? = some (RX9, TX9, 17)) win9 rfl (by decide) (by decide) rfl wm1021) ?_
  refine xAll_c (xs_iload_n C dX9_add_48 rfl) ?_
  refine xAll_c (xs_callSV C (m_X9_addOn l g) dX9_add_49 rfl ⟨(by decide), (by decide), by decide +kernel⟩ wm1253 wm1254 wm10 wm1255 ⟨Nat.le_of_ble_eq_true rfl, Nat.le_of_ble_eq_true rfl⟩) ?_
  refine xAll_c (xs_iret C dX9_add_52 rfl) ?_
  exact trivial
noncomputable def k_X9_put : xCode := [(0, oAload 0 1), (1, oAload 0 2), (2, oGetR 9 4 5), (5, oIload 1 6), (6, oCallSV 2 f_X9_isValue 9), (9, oIf1 (fun x => !(decide (x = 0))) 16 12), (12, oConst (nI 1) 13), (13, oGoto 33), (16, oIload 2 17), (17, oI2l 18), (18, oLconst (0) 19), (19, oLconst (1023) 22), (22, oCallSV 3 f_X9_in 25), (25, oIf1 (fun x => decide (x = 0)) 32 28), (28, oConst (nI 0) 29), (29, oGoto 33), (32, oConst (nI 2) 33), (33, oCallV 9 1 f_X9_refused 36), (36, oIf1 (fun x => decide (x = 0)) 41 39), (39, oConst (nI 0) 40), (40, oIret), (41, oAload 0 42), (42, oCallU 9 0 f_X9_remember 45), (45, oAload 0 46), (46, oGetR 9 4 49), (49, oConst (nI 22) 51), (51, oIload 1 52), (52, oBin (fun x y => x + y) 53), (53, oIald 54), (54, oIstore 3 4 55), (55, oAload 0 56), (56, oGetR 9 4 59), (59, oConst (nI 22) 61), (61, oIload 1 62), (62, oBin (fun x y => x + y) 63), (63, oIload 2 64), (64, oIast 65), (65, oIload 3 66), (66, oIret)]
noncomputable def f_X9_put : xRun := xrun k_X9_put 4
set_option maxHeartbeats 4000000 in
set_option maxRecDepth 100000 in
theorem m_X9_put (l : Launch) (g : xG) : xMet l g yX9_put cX9_put 4 (some .int) 3 64 f_X9_put := by
  refine xmet_of (own := RX9) (by decide +kernel) rfl (fun p e s m args below meth c r0 C => ?_)
  refine xAll_c (xs_aload_n C dX9_put_0 rfl) ?_
  refine xAll_c (xs_aload_n C dX9_put_1 rfl) ?_
  refine xAll_c (xs_getR C dX9_put_2 (rfl : vwCl[9]? = some (RX9, TX9, 17)) win9 rfl (by decide) (by decide) rfl wm1021) ?_
  refine xAll_c (xs_iload_n C dX9_put_5 rfl) ?_
  refine xAll_c (xs_callSV C (m_X9_isValue l g) dX9_put_6 rfl ⟨(by decide), (by decide), by decide +kernel⟩ wm1183 wm1184 wm10 wm1185 ⟨Nat.le_of_ble_eq_true rfl, Nat.le_of_ble_eq_true rfl⟩) ?_
  refine xAll_c (xs_if_ne C dX9_put_9 (by decide)) ?_
  refine xAll_c (xs_iconst C dX9_put_12 (by decide)) ?_
  refine xAll_c (xs_goto C dX9_put_13 (by decide)) ?_
  refine xAll_c (xs_iload_n C dX9_put_16 rfl) ?_
  refine xAll_c (xs_i2l C dX9_put_17) ?_
  refine xAll_c (xs_lconst C dX9_put_18 (by decide)) ?_
  refine xAll_c (xs_ldc2 C dX9_put_19 wm1228) ?_
  refine xAll_c (xs_callSV C (m_X9_in l g) dX9_put_22 rfl ⟨(by decide), (by decide), by decide +kernel⟩ wm1079 wm1080 wm10 wm1081 ⟨Nat.le_of_ble_eq_true rfl, Nat.le_of_ble_eq_true rfl⟩) ?_
  refine xAll_c (xs_if_eq C dX9_put_25 (by decide)) ?_
  refine xAll_c (xs_iconst C dX9_put_28 (by decide)) ?_
  refine xAll_c (xs_goto C dX9_put_29 (by decide)) ?_
  refine xAll_c (xs_iconst C dX9_put_32 (by decide)) ?_
  refine xAll_c (xs_callV C (m_X9_refused l g) dX9_put_33 (rfl : vwCl[9]? = some (RX9, TX9, 17)) (by decide) rfl ⟨(by decide), (by decide), by decide +kernel⟩ wm1082 wm1084 wp31 wm10 wm1085 ⟨Nat.le_of_ble_eq_true rfl, Nat.le_of_ble_eq_true rfl⟩) ?_
  refine xAll_c (xs_if_eq C dX9_put_36 (by decide)) ?_
  refine xAll_c (xs_iconst C dX9_put_39 (by decide)) ?_
  refine xAll_c (xs_iret C dX9_put_40 rfl) ?_
  refine xAll_c (xs_aload_n C dX9_put_41 rfl) ?_
  refine xAll_c (xs_callU C (m_X9_remember l g) dX9_put_42 (rfl : vwCl[9]? = some (RX9, TX9, 17)) (by decide) rfl ⟨(by decide), (by decide), by decide +kernel⟩ wm1246 wm1248 wp44 wm10 wm1249 ⟨Nat.le_of_ble_eq_true rfl, Nat.le_of_ble_eq_true rfl⟩) ?_
  refine xAll_c (xs_aload_n C dX9_put_45 rfl) ?_
  refine xAll_c (xs_getR C dX9_put_46 (rfl : vwCl[9]? = some (RX9, TX9, 17)) win9 rfl (by decide) (by decide) rfl wm1021) ?_
  refine xAll_c (xs_bipush C dX9_put_49 (by decide)) ?_
  refine xAll_c (xs_iload_n C dX9_put_51 rfl) ?_
  refine xAll_c (xs_iadd C dX9_put_52) ?_
  refine xAll_c (xs_iald C dX9_put_53) ?_
  refine xAll_c (xs_istore_n C dX9_put_54 rfl) ?_
  refine xAll_c (xs_aload_n C dX9_put_55 rfl) ?_
  refine xAll_c (xs_getR C dX9_put_56 (rfl : vwCl[9]? = some (RX9, TX9, 17)) win9 rfl (by decide) (by decide) rfl wm1021) ?_
  refine xAll_c (xs_bipush C dX9_put_59 (by decide)) ?_
  refine xAll_c (xs_iload_n C dX9_put_61 rfl) ?_
  refine xAll_c (xs_iadd C dX9_put_62) ?_
  refine xAll_c (xs_iload_n C dX9_put_63 rfl) ?_
  refine xAll_c (xs_iast C dX9_put_64) ?_
  refine xAll_c (xs_iload_n C dX9_put_65 rfl) ?_
  refine xAll_c (xs_iret C dX9_put_66 rfl) ?_
  exact trivial
noncomputable def k_X9_cutPage : xCode := [(0, oAload 0 1), (1, oConst (nI 0) 2), (2, oDup2 3), (3, oIald 4), (4, oConst (nI 1) 5), (5, oBin (fun x y => x - y) 6), (6, oIast 7), (7, oIload 1 8), (8, oIstore 2 3 9), (9, oIload 2 10), (10, oAload 0 11), (11, oConst (nI 0) 12), (12, oIald 13), (13, oIf2 (fun x y => decide (y ≤ x)) 48 16), (16, oAload 0 17), (17, oConst (nI 2) 18), (18, oIload 2 19), (19, oBin (fun x y => x + y) 20), (20, oAload 0 21), (21, oConst (nI 2) 22), (22, oIload 2 23), (23, oBin (fun x y => x + y) 24), (24, oConst (nI 1) 25), (25, oBin (fun x y => x + y) 26), (26, oIald 27), (27, oIast 28), (28, oAload 0 29), (29, oConst (nI 12) 31), (31, oIload 2 32), (32, oBin (fun x y => x + y) 33), (33, oAload 0 34), (34, oConst (nI 12) 36), (36, oIload 2 37), (37, oBin (fun x y => x + y) 38), (38, oConst (nI 1) 39), (39, oBin (fun x y => x + y) 40), (40, oIald 41), (41, oIast 42), (42, oIinc 2 (nI 1) 3 45), (45, oGoto 9), (48, oVret)]
noncomputable def f_X9_cutPage : xRun := xrun k_X9_cutPage 3
set_option maxHeartbeats 4000000 in
set_option maxRecDepth 100000 in
theorem m_X9_cutPage (l : Launch) (g : xG) : xMet l g yX9_cutPage cX9_cutPage 3 none 0 0 f_X9_cutPage := by
  refine xmet_of (own := RX9) (by decide +kernel) rfl (fun p e s m args below meth c r0 C => ?_)
  refine xAll_c (xs_aload_n C dX9_cutPage_0 rfl) ?_
  refine xAll_c (xs_iconst C dX9_cutPage_1 (by decide)) ?_
  refine xAll_c (xs_dup2 C dX9_cutPage_2) ?_
  refine xAll_c (xs_iald C dX9_cutPage_3) ?_
  refine xAll_c (xs_iconst C dX9_cutPage_4 (by decide)) ?_
  refine xAll_c (xs_isub C dX9_cutPage_5) ?_
  refine xAll_c (xs_iast C dX9_cutPage_6) ?_
  refine xAll_c (xs_iload_n C dX9_cutPage_7 rfl) ?_
  refine xAll_c (xs_istore_n C dX9_cutPage_8 rfl) ?_
  refine xAll_c (xs_iload_n C dX9_cutPage_9 rfl) ?_
  refine xAll_c (xs_aload_n C dX9_cutPage_10 rfl) ?_
  refine xAll_c (xs_iconst C dX9_cutPage_11 (by decide)) ?_
  refine xAll_c (xs_iald C dX9_cutPage_12) ?_
  refine xAll_c (xs_icmp_ge C dX9_cutPage_13 (by decide)) ?_
  refine xAll_c (xs_aload_n C dX9_cutPage_16 rfl) ?_
  refine xAll_c (xs_iconst C dX9_cutPage_17 (by decide)) ?_
  refine xAll_c (xs_iload_n C dX9_cutPage_18 rfl) ?_
  refine xAll_c (xs_iadd C dX9_cutPage_19) ?_
  refine xAll_c (xs_aload_n C dX9_cutPage_20 rfl) ?_
  refine xAll_c (xs_iconst C dX9_cutPage_21 (by decide)) ?_
  refine xAll_c (xs_iload_n C dX9_cutPage_22 rfl) ?_
  refine xAll_c (xs_iadd C dX9_cutPage_23) ?_
  refine xAll_c (xs_iconst C dX9_cutPage_24 (by decide)) ?_
  refine xAll_c (xs_iadd C dX9_cutPage_25) ?_
  refine xAll_c (xs_iald C dX9_cutPage_26) ?_
  refine xAll_c (xs_iast C dX9_cutPage_27) ?_
  refine xAll_c (xs_aload_n C dX9_cutPage_28 rfl) ?_
  refine xAll_c (xs_bipush C dX9_cutPage_29 (by decide)) ?_
  refine xAll_c (xs_iload_n C dX9_cutPage_31 rfl) ?_
  refine xAll_c (xs_iadd C dX9_cutPage_32) ?_
  refine xAll_c (xs_aload_n C dX9_cutPage_33 rfl) ?_
  refine xAll_c (xs_bipush C dX9_cutPage_34 (by decide)) ?_
  refine xAll_c (xs_iload_n C dX9_cutPage_36 rfl) ?_
  refine xAll_c (xs_iadd C dX9_cutPage_37) ?_
  refine xAll_c (xs_iconst C dX9_cutPage_38 (by decide)) ?_
  refine xAll_c (xs_iadd C dX9_cutPage_39) ?_
  refine xAll_c (xs_iald C dX9_cutPage_40) ?_
  refine xAll_c (xs_iast C dX9_cutPage_41) ?_
  refine xAll_c (xs_iinc C dX9_cutPage_42 rfl) ?_
  refine xAll_c (xs_goto C dX9_cutPage_45 (by decide)) ?_
  refine xAll_c (xs_vret C dX9_cutPage_48 rfl) ?_
  exact trivial
noncomputable def k_X9_removeOn : xCode := [(0, oAload 0 1), (1, oIload 1 2), (2, oCallSV 2 f_X9_pageOf 5), (5, oIstore 2 6 6), (6, oAload 0 7), (7, oConst (nI 22) 9), (9, oIload 1 10), (10, oBin (fun x y => x + y) 11), (11, oIald 12), (12, oIstore 3 6 13), (13, oAload 0 14), (14, oCallSV 1 f_X9_valuesOf 17), (17, oIstore 4 6 19), (19, oIload 1 20), (20, oIstore 5 6 22), (22, oIload 5 24), (24, oIload 4 26), (26, oConst (nI 1) 27), (27, oBin (fun x y => x - y) 28), (28, oIf2 (fun x y => decide (y ≤ x)) 53 31), (31, oAload 0 32), (32, oConst (nI 22) 34), (34, oIload 5 36), (36, oBin (fun x y => x + y) 37), (37, oAload 0 38), (38, oConst (nI 22) 40), (40, oIload 5 42), (42, oBin (fun x y => x + y) 43), (43, oConst (nI 1) 44), (44, oBin (fun x y => x + y) 45), (45, oIald 46), (46, oIast 47), (47, oIinc 5 (nI 1) 6 50), (50, oGoto 22), (53, oAload 0 54), (54, oConst (nI 2) 55), (55, oIload 2 56), (56, oBin (fun x y => x + y) 57), (57, oDup2 58), (58, oIald 59), (59, oConst (nI 1) 60), (60, oBin (fun x y => x - y) 61), (61, oIast 62), (62, oAload 0 63), (63, oConst (nI 2) 64), (64, oIload 2 65), (65, oBin (fun x y => x + y) 66), (66, oIald 67), (67, oIf1 (fun x => !(decide (x = 0))) 75 70), (70, oAload 0 71), (71, oIload 2 72), (72, oCallSU 2 f_X9_cutPage 75), (75, oIload 3 76), (76, oIret)]
noncomputable def f_X9_removeOn : xRun := xrun k_X9_removeOn 6
set_option maxHeartbeats 4000000 in
set_option maxRecDepth 100000 in
theorem m_X9_removeOn (l : Launch) (g : xG) : xMet l g yX9_removeOn cX9_removeOn 6 (some .int) 2 43 f_X9_removeOn := by
  refine xmet_of (own := RX9) (by decide +kernel) rfl (fun p e s m args below meth c r0 C => ?_)
  refine xAll_c (xs_aload_n C dX9_removeOn_0 rfl) ?_
  refine xAll_c (xs_iload_n C dX9_removeOn_1 rfl) ?_
  refine xAll_c (xs_callSV C (m_X9_pageOf l g) dX9_removeOn_2 rfl ⟨(by decide), (by decide), by decide +kernel⟩ wm1267 wm1268 wm10 wm1269 ⟨Nat.le_of_ble_eq_true rfl, Nat.le_of_ble_eq_true rfl⟩) ?_
  refine xAll_c (xs_istore_n C dX9_removeOn_5 rfl) ?_
  refine xAll_c (xs_aload_n C dX9_removeOn_6 rfl) ?_
  refine xAll_c (xs_bipush C dX9_removeOn_7 (by decide)) ?_
  refine xAll_c (xs_iload_n C dX9_removeOn_9 rfl) ?_
  refine xAll_c (xs_iadd C dX9_removeOn_10) ?_
  refine xAll_c (xs_iald C dX9_removeOn_11) ?_
  refine xAll_c (xs_istore_n C dX9_removeOn_12 rfl) ?_
  refine xAll_c (xs_aload_n C dX9_removeOn_13 rfl) ?_
  refine xAll_c (xs_callSV C (m_X9_valuesOf l g) dX9_removeOn_14 rfl ⟨(by decide), (by decide), by decide +kernel⟩ wm1140 wm1141 wm10 wm1142 ⟨Nat.le_of_ble_eq_true rfl, Nat.le_of_ble_eq_true rfl⟩) ?_
  refine xAll_c (xs_istore C dX9_removeOn_17) ?_
  refine xAll_c (xs_iload_n C dX9_removeOn_19 rfl) ?_
  refine xAll_c (xs_istore C dX9_removeOn_20) ?_
  refine xAll_c (xs_iload C dX9_removeOn_22) ?_
  refine xAll_c (xs_iload C dX9_removeOn_24) ?_
  refine xAll_c (xs_iconst C dX9_removeOn_26 (by decide)) ?_
  refine xAll_c (xs_isub C dX9_removeOn_27) ?_
  refine xAll_c (xs_icmp_ge C dX9_removeOn_28 (by decide)) ?_
  refine xAll_c (xs_aload_n C dX9_removeOn_31 rfl) ?_
  refine xAll_c (xs_bipush C dX9_removeOn_32 (by decide)) ?_
  refine xAll_c (xs_iload C dX9_removeOn_34) ?_
  refine xAll_c (xs_iadd C dX9_removeOn_36) ?_
  refine xAll_c (xs_aload_n C dX9_removeOn_37 rfl) ?_
  refine xAll_c (xs_bipush C dX9_removeOn_38 (by decide)) ?_
  refine xAll_c (xs_iload C dX9_removeOn_40) ?_
  refine xAll_c (xs_iadd C dX9_removeOn_42) ?_
  refine xAll_c (xs_iconst C dX9_removeOn_43 (by decide)) ?_
  refine xAll_c (xs_iadd C dX9_removeOn_44) ?_
  refine xAll_c (xs_iald C dX9_removeOn_45) ?_
  refine xAll_c (xs_iast C dX9_removeOn_46) ?_
  refine xAll_c (xs_iinc C dX9_removeOn_47 rfl) ?_
  refine xAll_c (xs_goto C dX9_removeOn_50 (by decide)) ?_
  refine xAll_c (xs_aload_n C dX9_removeOn_53 rfl) ?_
  refine xAll_c (xs_iconst C dX9_removeOn_54 (by decide)) ?_
  refine xAll_c (xs_iload_n C dX9_removeOn_55 rfl) ?_
  refine xAll_c (xs_iadd C dX9_removeOn_56) ?_
  refine xAll_c (xs_dup2 C dX9_removeOn_57) ?_
  refine xAll_c (xs_iald C dX9_removeOn_58) ?_
  refine xAll_c (xs_iconst C dX9_removeOn_59 (by decide)) ?_
  refine xAll_c (xs_isub C dX9_removeOn_60) ?_
  refine xAll_c (xs_iast C dX9_removeOn_61) ?_
  refine xAll_c (xs_aload_n C dX9_removeOn_62 rfl) ?_
  refine xAll_c (xs_iconst C dX9_removeOn_63 (by decide)) ?_
  refine xAll_c (xs_iload_n C dX9_removeOn_64 rfl) ?_
  refine xAll_c (xs_iadd C dX9_removeOn_65) ?_
  refine xAll_c (xs_iald C dX9_removeOn_66) ?_
  refine xAll_c (xs_if_ne C dX9_removeOn_67 (by decide)) ?_
  refine xAll_c (xs_aload_n C dX9_removeOn_70 rfl) ?_
  refine xAll_c (xs_iload_n C dX9_removeOn_71 rfl) ?_
  refine xAll_c (xs_callSU C (m_X9_cutPage l g) dX9_removeOn_72 rfl ⟨(by decide), (by decide), by decide +kernel⟩ wm1270 wm1271 wm10 wm1272 ⟨Nat.le_of_ble_eq_true rfl, Nat.le_of_ble_eq_true rfl⟩) ?_
  refine xAll_c (xs_iload_n C dX9_removeOn_75 rfl) ?_
  refine xAll_c (xs_iret C dX9_removeOn_76 rfl) ?_
  exact trivial
noncomputable def k_X9_remove : xCode := [(0, oAload 0 1), (1, oAload 0 2), (2, oGetR 9 4 5), (5, oIload 1 6), (6, oCallSV 2 f_X9_isValue 9), (9, oIf1 (fun x => decide (x = 0)) 16 12), (12, oConst (nI 0) 13), (13, oGoto 17), (16, oConst (nI 1) 17), (17, oCallV 9 1 f_X9_refused 20), (20, oIf1 (fun x => decide (x = 0)) 25 23), (23, oConst (nI 0) 24), (24, oIret), (25, oAload 0 26), (26, oCallU 9 0 f_X9_remember 29), (29, oAload 0 30), (30, oGetR 9 4 33), (33, oIload 1 34), (34, oCallSV 2 f_X9_removeOn 37), (37, oIret)]
noncomputable def f_X9_remove : xRun := xrun k_X9_remove 2
set_option maxHeartbeats 4000000 in
set_option maxRecDepth 100000 in
theorem m_X9_remove (l : Launch) (g : xG) : xMet l g yX9_remove cX9_remove 2 (some .int) 3 68 f_X9_remove := by
  refine xmet_of (own := RX9) (by decide +kernel) rfl (fun p e s m args below meth c r0 C => ?_)
  refine xAll_c (xs_aload_n C dX9_remove_0 rfl) ?_
  refine xAll_c (xs_aload_n C dX9_remove_1 rfl) ?_
  refine xAll_c (xs_getR C dX9_remove_2 (rfl : vwCl[9]? = some (RX9, TX9, 17)) win9 rfl (by decide) (by decide) rfl wm1021) ?_
  refine xAll_c (xs_iload_n C dX9_remove_5 rfl) ?_
  refine xAll_c (xs_callSV C (m_X9_isValue l g) dX9_remove_6 rfl ⟨(by decide), (by decide), by decide +kernel⟩ wm1183 wm1184 wm10 wm1185 ⟨Nat.le_of_ble_eq_true rfl, Nat.le_of_ble_eq_true rfl⟩) ?_
  refine xAll_c (xs_if_eq C dX9_remove_9 (by decide)) ?_
  refine xAll_c (xs_iconst C dX9_remove_12 (by decide)) ?_
  refine xAll_c (xs_goto C dX9_remove_13 (by decide)) ?_
  refine xAll_c (xs_iconst C dX9_remove_16 (by decide)) ?_
  refine xAll_c (xs_callV C (m_X9_refused l g) dX9_remove_17 (rfl : vwCl[9]? = some (RX9, TX9, 17)) (by decide) rfl ⟨(by decide), (by decide), by decide +kernel⟩ wm1082 wm1084 wp31 wm10 wm1085 ⟨Nat.le_of_ble_eq_true rfl, Nat.le_of_ble_eq_true rfl⟩) ?_
  refine xAll_c (xs_if_eq C dX9_remove_20 (by decide)) ?_
  refine xAll_c (xs_iconst C dX9_remove_23 (by decide)) ?_
  refine xAll_c (xs_iret C dX9_remove_24 rfl) ?_
  refine xAll_c (xs_aload_n C dX9_remove_25 rfl) ?_
  refine xAll_c (xs_callU C (m_X9_remember l g) dX9_remove_26 (rfl : vwCl[9]? = some (RX9, TX9, 17)) (by decide) rfl ⟨(by decide), (by decide), by decide +kernel⟩ wm1246 wm1248 wp44 wm10 wm1249 ⟨Nat.le_of_ble_eq_true rfl, Nat.le_of_ble_eq_true rfl⟩) ?_
  refine xAll_c (xs_aload_n C dX9_remove_29 rfl) ?_
  refine xAll_c (xs_getR C dX9_remove_30 (rfl : vwCl[9]? = some (RX9, TX9, 17)) win9 rfl (by decide) (by decide) rfl wm1021) ?_
  refine xAll_c (xs_iload_n C dX9_remove_33 rfl) ?_
  refine xAll_c (xs_callSV C (m_X9_removeOn l g) dX9_remove_34 rfl ⟨(by decide), (by decide), by decide +kernel⟩ wm1264 wm1265 wm10 wm1266 ⟨Nat.le_of_ble_eq_true rfl, Nat.le_of_ble_eq_true rfl⟩) ?_
  refine xAll_c (xs_iret C dX9_remove_37 rfl) ?_
  exact trivial
noncomputable def k_X9_whyNotCut : xCode := [(0, oAload 0 1), (1, oIload 1 2), (2, oCallSV 2 f_X9_isPage 5), (5, oIf1 (fun x => !(decide (x = 0))) 12 8), (8, oConst (nI 1) 9), (9, oGoto 46), (12, oIload 2 13), (13, oI2l 14), (14, oLconst (1) 15), (15, oAload 0 16), (16, oConst (nI 2) 17), (17, oIload 1 18), (18, oBin (fun x y => x + y) 19), (19, oIald 20), (20, oConst (nI 1) 21), (21, oBin (fun x y => x - y) 22), (22, oI2l 23), (23, oCallSV 3 f_X9_in 26), (26, oIf1 (fun x => !(decide (x = 0))) 33 29), (29, oConst (nI 2) 30), (30, oGoto 46), (33, oAload 0 34), (34, oConst (nI 0) 35), (35, oIald 36), (36, oConst (nI 10) 38), (38, oIf2 (fun x y => !(decide (x = y))) 45 41), (41, oConst (nI 3) 42), (42, oGoto 46), (45, oConst (nI 0) 46), (46, oIret)]
noncomputable def f_X9_whyNotCut : xRun := xrun k_X9_whyNotCut 3
set_option maxHeartbeats 4000000 in
set_option maxRecDepth 100000 in
theorem m_X9_whyNotCut (l : Launch) (g : xG) : xMet l g yX9_whyNotCut cX9_whyNotCut 3 (some .int) 2 46 f_X9_whyNotCut := by
  refine xmet_of (own := RX9) (by decide +kernel) rfl (fun p e s m args below meth c r0 C => ?_)
  refine xAll_c (xs_aload_n C dX9_whyNotCut_0 rfl) ?_
  refine xAll_c (xs_iload_n C dX9_whyNotCut_1 rfl) ?_
  refine xAll_c (xs_callSV C (m_X9_isPage l g) dX9_whyNotCut_2 rfl ⟨(by decide), (by decide), by decide +kernel⟩ wm1190 wm1191 wm10 wm1192 ⟨Nat.le_of_ble_eq_true rfl, Nat.le_of_ble_eq_true rfl⟩) ?_
  refine xAll_c (xs_if_ne C dX9_whyNotCut_5 (by decide)) ?_
  refine xAll_c (xs_iconst C dX9_whyNotCut_8 (by decide)) ?_
  refine xAll_c (xs_goto C dX9_whyNotCut_9 (by decide)) ?_
  refine xAll_c (xs_iload_n C dX9_whyNotCut_12 rfl) ?_
  refine xAll_c (xs_i2l C dX9_whyNotCut_13) ?_
  refine xAll_c (xs_lconst C dX9_whyNotCut_14 (by decide)) ?_
  refine xAll_c (xs_aload_n C dX9_whyNotCut_15 rfl) ?_
  refine xAll_c (xs_iconst C dX9_whyNotCut_16 (by decide)) ?_
  refine xAll_c (xs_iload_n C dX9_whyNotCut_17 rfl) ?_
  refine xAll_c (xs_iadd C dX9_whyNotCut_18) ?_
  refine xAll_c (xs_iald C dX9_whyNotCut_19) ?_
  refine xAll_c (xs_iconst C dX9_whyNotCut_20 (by decide)) ?_
  refine xAll_c (xs_isub C dX9_whyNotCut_21) ?_
  refine xAll_c (xs_i2l C dX9_whyNotCut_22) ?_
  refine xAll_c (xs_callSV C (m_X9_in l g) dX9_whyNotCut_23 rfl ⟨(by decide), (by decide), by decide +kernel⟩ wm1079 wm1080 wm10 wm1081 ⟨Nat.le_of_ble_eq_true rfl, Nat.le_of_ble_eq_true rfl⟩) ?_
  refine xAll_c (xs_if_ne C dX9_whyNotCut_26 (by decide)) ?_
  refine xAll_c (xs_iconst C dX9_whyNotCut_29 (by decide)) ?_
  refine xAll_c (xs_goto C dX9_whyNotCut_30 (by decide)) ?_
  refine xAll_c (xs_aload_n C dX9_whyNotCut_33 rfl) ?_
  refine xAll_c (xs_iconst C dX9_whyNotCut_34 (by decide)) ?_
  refine xAll_c (xs_iald C dX9_whyNotCut_35) ?_
  refine xAll_c (xs_bipush C dX9_whyNotCut_36 (by decide)) ?_
  refine xAll_c (xs_icmp_ne C dX9_whyNotCut_38 (by decide)) ?_
  refine xAll_c (xs_iconst C dX9_whyNotCut_41 (by decide)) ?_
  refine xAll_c (xs_goto C dX9_whyNotCut_42 (by decide)) ?_
  refine xAll_c (xs_iconst C dX9_whyNotCut_45 (by decide)) ?_
  refine xAll_c (xs_iret C dX9_whyNotCut_46 rfl) ?_
  exact trivial
noncomputable def k_X9_cutOn : xCode := [(0, oAload 0 1), (1, oConst (nI 0) 2), (2, oIald 3), (3, oIstore 3 4 4), (4, oIload 3 5), (5, oIload 1 6), (6, oConst (nI 1) 7), (7, oBin (fun x y => x + y) 8), (8, oIf2 (fun x y => decide (x ≤ y)) 43 11), (11, oAload 0 12), (12, oConst (nI 2) 13), (13, oIload 3 14), (14, oBin (fun x y => x + y) 15), (15, oAload 0 16), (16, oConst (nI 2) 17), (17, oIload 3 18), (18, oBin (fun x y => x + y) 19), (19, oConst (nI 1) 20), (20, oBin (fun x y => x - y) 21), (21, oIald 22), (22, oIast 23), (23, oAload 0 24), (24, oConst (nI 12) 26), (26, oIload 3 27), (27, oBin (fun x y => x + y) 28), (28, oAload 0 29), (29, oConst (nI 12) 31), (31, oIload 3 32), (32, oBin (fun x y => x + y) 33), (33, oConst (nI 1) 34), (34, oBin (fun x y => x - y) 35), (35, oIald 36), (36, oIast 37), (37, oIinc 3 (-1) 4 40), (40, oGoto 4), (43, oAload 0 44), (44, oConst (nI 0) 45), (45, oDup2 46), (46, oIald 47), (47, oConst (nI 1) 48), (48, oBin (fun x y => x + y) 49), (49, oIast 50), (50, oAload 0 51), (51, oConst (nI 2) 52), (52, oIload 1 53), (53, oBin (fun x y => x + y) 54), (54, oConst (nI 1) 55), (55, oBin (fun x y => x + y) 56), (56, oAload 0 57), (57, oConst (nI 2) 58), (58, oIload 1 59), (59, oBin (fun x y => x + y) 60), (60, oIald 61), (61, oIload 2 62), (62, oBin (fun x y => x - y) 63), (63, oIast 64), (64, oAload 0 65), (65, oConst (nI 2) 66), (66, oIload 1 67), (67, oBin (fun x y => x + y) 68), (68, oIload 2 69), (69, oIast 70), (70, oAload 0 71), (71, oConst (nI 12) 73), (73, oIload 1 74), (74, oBin (fun x y => x + y) 75), (75, oConst (nI 1) 76), (76, oBin (fun x y => x + y) 77), (77, oAload 0 78), (78, oConst (nI 12) 80), (80, oIload 1 81), (81, oBin (fun x y => x + y) 82), (82, oIald 83), (83, oIast 84), (84, oVret)]
noncomputable def f_X9_cutOn : xRun := xrun k_X9_cutOn 4
set_option maxHeartbeats 4000000 in
set_option maxRecDepth 100000 in
theorem m_X9_cutOn (l : Launch) (g : xG) : xMet l g yX9_cutOn cX9_cutOn 4 none 0 0 f_X9_cutOn := by
  refine xmet_of (own := RX9) (by decide +kernel) rfl (fun p e s m args below meth c r0 C => ?_)
  refine xAll_c (xs_aload_n C dX9_cutOn_0 rfl) ?_
  refine xAll_c (xs_iconst C dX9_cutOn_1 (by decide)) ?_
  refine xAll_c (xs_iald C dX9_cutOn_2) ?_
  refine xAll_c (xs_istore_n C dX9_cutOn_3 rfl) ?_
  refine xAll_c (xs_iload_n C dX9_cutOn_4 rfl) ?_
  refine xAll_c (xs_iload_n C dX9_cutOn_5 rfl) ?_
  refine xAll_c (xs_iconst C dX9_cutOn_6 (by decide)) ?_
  refine xAll_c (xs_iadd C dX9_cutOn_7) ?_
  refine xAll_c (xs_icmp_le C dX9_cutOn_8 (by decide)) ?_
  refine xAll_c (xs_aload_n C dX9_cutOn_11 rfl) ?_
  refine xAll_c (xs_iconst C dX9_cutOn_12 (by decide)) ?_
  refine xAll_c (xs_iload_n C dX9_cutOn_13 rfl) ?_
  refine xAll_c (xs_iadd C dX9_cutOn_14) ?_
  refine xAll_c (xs_aload_n C dX9_cutOn_15 rfl) ?_
  refine xAll_c (xs_iconst C dX9_cutOn_16 (by decide)) ?_
  refine xAll_c (xs_iload_n C dX9_cutOn_17 rfl) ?_
  refine xAll_c (xs_iadd C dX9_cutOn_18) ?_
  refine xAll_c (xs_iconst C dX9_cutOn_19 (by decide)) ?_
  refine xAll_c (xs_isub C dX9_cutOn_20) ?_
  refine xAll_c (xs_iald C dX9_cutOn_21) ?_
  refine xAll_c (xs_iast C dX9_cutOn_22) ?_
  refine xAll_c (xs_aload_n C dX9_cutOn_23 rfl) ?_
  refine xAll_c (xs_bipush C dX9_cutOn_24 (by decide)) ?_
  refine xAll_c (xs_iload_n C dX9_cutOn_26 rfl) ?_
  refine xAll_c (xs_iadd C dX9_cutOn_27) ?_
  refine xAll_c (xs_aload_n C dX9_cutOn_28 rfl) ?_
  refine xAll_c (xs_bipush C dX9_cutOn_29 (by decide)) ?_
  refine xAll_c (xs_iload_n C dX9_cutOn_31 rfl) ?_
  refine xAll_c (xs_iadd C dX9_cutOn_32) ?_
  refine xAll_c (xs_iconst C dX9_cutOn_33 (by decide)) ?_
  refine xAll_c (xs_isub C dX9_cutOn_34) ?_
  refine xAll_c (xs_iald C dX9_cutOn_35) ?_
  refine xAll_c (xs_iast C dX9_cutOn_36) ?_
  refine xAll_c (xs_iinc C dX9_cutOn_37 rfl) ?_
  refine xAll_c (xs_goto C dX9_cutOn_40 (by decide)) ?_
  refine xAll_c (xs_aload_n C dX9_cutOn_43 rfl) ?_
  refine xAll_c (xs_iconst C dX9_cutOn_44 (by decide)) ?_
  refine xAll_c (xs_dup2 C dX9_cutOn_45) ?_
  refine xAll_c (xs_iald C dX9_cutOn_46) ?_
  refine xAll_c (xs_iconst C dX9_cutOn_47 (by decide)) ?_
  refine xAll_c (xs_iadd C dX9_cutOn_48) ?_
  refine xAll_c (xs_iast C dX9_cutOn_49) ?_
  refine xAll_c (xs_aload_n C dX9_cutOn_50 rfl) ?_
  refine xAll_c (xs_iconst C dX9_cutOn_51 (by decide)) ?_
  refine xAll_c (xs_iload_n C dX9_cutOn_52 rfl) ?_
  refine xAll_c (xs_iadd C dX9_cutOn_53) ?_
  refine xAll_c (xs_iconst C dX9_cutOn_54 (by decide)) ?_
  refine xAll_c (xs_iadd C dX9_cutOn_55) ?_
  refine xAll_c (xs_aload_n C dX9_cutOn_56 rfl) ?_
  refine xAll_c (xs_iconst C dX9_cutOn_57 (by decide)) ?_
  refine xAll_c (xs_iload_n C dX9_cutOn_58 rfl) ?_
  refine xAll_c (xs_iadd C dX9_cutOn_59) ?_
  refine xAll_c (xs_iald C dX9_cutOn_60) ?_
  refine xAll_c (xs_iload_n C dX9_cutOn_61 rfl) ?_
  refine xAll_c (xs_isub C dX9_cutOn_62) ?_
  refine xAll_c (xs_iast C dX9_cutOn_63) ?_
  refine xAll_c (xs_aload_n C dX9_cutOn_64 rfl) ?_
  refine xAll_c (xs_iconst C dX9_cutOn_65 (by decide)) ?_
  refine xAll_c (xs_iload_n C dX9_cutOn_66 rfl) ?_
  refine xAll_c (xs_iadd C dX9_cutOn_67) ?_
  refine xAll_c (xs_iload_n C dX9_cutOn_68 rfl) ?_
  refine xAll_c (xs_iast C dX9_cutOn_69) ?_
  refine xAll_c (xs_aload_n C dX9_cutOn_70 rfl) ?_
  refine xAll_c (xs_bipush C dX9_cutOn_71 (by decide)) ?_
  refine xAll_c (xs_iload_n C dX9_cutOn_73 rfl) ?_
  refine xAll_c (xs_iadd C dX9_cutOn_74) ?_
  refine xAll_c (xs_iconst C dX9_cutOn_75 (by decide)) ?_
  refine xAll_c (xs_iadd C dX9_cutOn_76) ?_
  refine xAll_c (xs_aload_n C dX9_cutOn_77 rfl) ?_
  refine xAll_c (xs_bipush C dX9_cutOn_78 (by decide)) ?_
  refine xAll_c (xs_iload_n C dX9_cutOn_80 rfl) ?_
  refine xAll_c (xs_iadd C dX9_cutOn_81) ?_
  refine xAll_c (xs_iald C dX9_cutOn_82) ?_
  refine xAll_c (xs_iast C dX9_cutOn_83) ?_
  refine xAll_c (xs_vret C dX9_cutOn_84 rfl) ?_
  exact trivial
noncomputable def k_X9_cut : xCode := [(0, oAload 0 1), (1, oAload 0 2), (2, oGetR 9 4 5), (5, oIload 1 6), (6, oIload 2 7), (7, oCallSV 3 f_X9_whyNotCut 10), (10, oCallV 9 1 f_X9_refused 13), (13, oIf1 (fun x => decide (x = 0)) 18 16), (16, oConst (nI 0) 17), (17, oIret), (18, oAload 0 19), (19, oCallU 9 0 f_X9_remember 22), (22, oAload 0 23), (23, oGetR 9 4 26), (26, oIload 1 27), (27, oIload 2 28), (28, oCallSU 3 f_X9_cutOn 31), (31, oAload 0 32), (32, oGetR 9 4 35), (35, oCallSV 1 f_X9_sizeOfAll 38), (38, oIret)]
noncomputable def f_X9_cut : xRun := xrun k_X9_cut 3
set_option maxHeartbeats 4000000 in
set_option maxRecDepth 100000 in
theorem m_X9_cut (l : Launch) (g : xG) : xMet l g yX9_cut cX9_cut 3 (some .int) 7 161 f_X9_cut := by
  refine xmet_of (own := RX9) (by decide +kernel) rfl (fun p e s m args below meth c r0 C => ?_)
  refine xAll_c (xs_aload_n C dX9_cut_0 rfl) ?_
  refine xAll_c (xs_aload_n C dX9_cut_1 rfl) ?_
  refine xAll_c (xs_getR C dX9_cut_2 (rfl : vwCl[9]? = some (RX9, TX9, 17)) win9 rfl (by decide) (by decide) rfl wm1021) ?_
  refine xAll_c (xs_iload_n C dX9_cut_5 rfl) ?_
  refine xAll_c (xs_iload_n C dX9_cut_6 rfl) ?_
  refine xAll_c (xs_callSV C (m_X9_whyNotCut l g) dX9_cut_7 rfl ⟨(by decide), (by decide), by decide +kernel⟩ wm1277 wm1278 wm10 wm1279 ⟨Nat.le_of_ble_eq_true rfl, Nat.le_of_ble_eq_true rfl⟩) ?_
  refine xAll_c (xs_callV C (m_X9_refused l g) dX9_cut_10 (rfl : vwCl[9]? = some (RX9, TX9, 17)) (by decide) rfl ⟨(by decide), (by decide), by decide +kernel⟩ wm1082 wm1084 wp31 wm10 wm1085 ⟨Nat.le_of_ble_eq_true rfl, Nat.le_of_ble_eq_true rfl⟩) ?_
  refine xAll_c (xs_if_eq C dX9_cut_13 (by decide)) ?_
  refine xAll_c (xs_iconst C dX9_cut_16 (by decide)) ?_
  refine xAll_c (xs_iret C dX9_cut_17 rfl) ?_
  refine xAll_c (xs_aload_n C dX9_cut_18 rfl) ?_
  refine xAll_c (xs_callU C (m_X9_remember l g) dX9_cut_19 (rfl : vwCl[9]? = some (RX9, TX9, 17)) (by decide) rfl ⟨(by decide), (by decide), by decide +kernel⟩ wm1246 wm1248 wp44 wm10 wm1249 ⟨Nat.le_of_ble_eq_true rfl, Nat.le_of_ble_eq_true rfl⟩) ?_
  refine xAll_c (xs_aload_n C dX9_cut_22 rfl) ?_
  refine xAll_c (xs_getR C dX9_cut_23 (rfl : vwCl[9]? = some (RX9, TX9, 17)) win9 rfl (by decide) (by decide) rfl wm1021) ?_
  refine xAll_c (xs_iload_n C dX9_cut_26 rfl) ?_
  refine xAll_c (xs_iload_n C dX9_cut_27 rfl) ?_
  refine xAll_c (xs_callSU C (m_X9_cutOn l g) dX9_cut_28 rfl ⟨(by decide), (by decide), by decide +kernel⟩ wm1280 wm1281 wm10 wm1282 ⟨Nat.le_of_ble_eq_true rfl, Nat.le_of_ble_eq_true rfl⟩) ?_
  refine xAll_c (xs_aload_n C dX9_cut_31 rfl) ?_
  refine xAll_c (xs_getR C dX9_cut_32 (rfl : vwCl[9]? = some (RX9, TX9, 17)) win9 rfl (by decide) (by decide) rfl wm1021) ?_
  refine xAll_c (xs_callSV C (m_X9_sizeOfAll l g) dX9_cut_35 rfl ⟨(by decide), (by decide), by decide +kernel⟩ wm1146 wm1147 wm10 wm1148 ⟨Nat.le_of_ble_eq_true rfl, Nat.le_of_ble_eq_true rfl⟩) ?_
  refine xAll_c (xs_iret C dX9_cut_38 rfl) ?_
  exact trivial
noncomputable def k_X9_whyNotMerge : xCode := [(0, oAload 0 1), (1, oIload 1 2), (2, oCallSV 2 f_X9_isPage 5), (5, oIf1 (fun x => decide (x = 0)) 18 8), (8, oAload 0 9), (9, oIload 1 10), (10, oConst (nI 1) 11), (11, oBin (fun x y => x + y) 12), (12, oCallSV 2 f_X9_isPage 15), (15, oIf1 (fun x => !(decide (x = 0))) 22 18), (18, oConst (nI 1) 19), (19, oGoto 45), (22, oAload 0 23), (23, oConst (nI 2) 24), (24, oIload 1 25), (25, oBin (fun x y => x + y) 26), (26, oIald 27), (27, oAload 0 28), (28, oConst (nI 2) 29), (29, oIload 1 30), (30, oBin (fun x y => x + y) 31), (31, oConst (nI 1) 32), (32, oBin (fun x y => x + y) 33), (33, oIald 34), (34, oBin (fun x y => x + y) 35), (35, oConst (nI 12) 37), (37, oIf2 (fun x y => decide (x ≤ y)) 44 40), (40, oConst (nI 2) 41), (41, oGoto 45), (44, oConst (nI 0) 45), (45, oIret)]
noncomputable def f_X9_whyNotMerge : xRun := xrun k_X9_whyNotMerge 2
set_option maxHeartbeats 4000000 in
set_option maxRecDepth 100000 in
theorem m_X9_whyNotMerge (l : Launch) (g : xG) : xMet l g yX9_whyNotMerge cX9_whyNotMerge 2 (some .int) 2 46 f_X9_whyNotMerge := by
  refine xmet_of (own := RX9) (by decide +kernel) rfl (fun p e s m args below meth c r0 C => ?_)
  refine xAll_c (xs_aload_n C dX9_whyNotMerge_0 rfl) ?_
  refine xAll_c (xs_iload_n C dX9_whyNotMerge_1 rfl) ?_
  refine xAll_c (xs_callSV C (m_X9_isPage l g) dX9_whyNotMerge_2 rfl ⟨(by decide), (by decide), by decide +kernel⟩ wm1190 wm1191 wm10 wm1192 ⟨Nat.le_of_ble_eq_true rfl, Nat.le_of_ble_eq_true rfl⟩) ?_
  refine xAll_c (xs_if_eq C dX9_whyNotMerge_5 (by decide)) ?_
  refine xAll_c (xs_aload_n C dX9_whyNotMerge_8 rfl) ?_
  refine xAll_c (xs_iload_n C dX9_whyNotMerge_9 rfl) ?_
  refine xAll_c (xs_iconst C dX9_whyNotMerge_10 (by decide)) ?_
  refine xAll_c (xs_iadd C dX9_whyNotMerge_11) ?_
  refine xAll_c (xs_callSV C (m_X9_isPage l g) dX9_whyNotMerge_12 rfl ⟨(by decide), (by decide), by decide +kernel⟩ wm1190 wm1191 wm10 wm1192 ⟨Nat.le_of_ble_eq_true rfl, Nat.le_of_ble_eq_true rfl⟩) ?_
  refine xAll_c (xs_if_ne C dX9_whyNotMerge_15 (by decide)) ?_
  refine xAll_c (xs_iconst C dX9_whyNotMerge_18 (by decide)) ?_
  refine xAll_c (xs_goto C dX9_whyNotMerge_19 (by decide)) ?_
  refine xAll_c (xs_aload_n C dX9_whyNotMerge_22 rfl) ?_
  refine xAll_c (xs_iconst C dX9_whyNotMerge_23 (by decide)) ?_
  refine xAll_c (xs_iload_n C dX9_whyNotMerge_24 rfl) ?_
  refine xAll_c (xs_iadd C dX9_whyNotMerge_25) ?_
  refine xAll_c (xs_iald C dX9_whyNotMerge_26) ?_
  refine xAll_c (xs_aload_n C dX9_whyNotMerge_27 rfl) ?_
  refine xAll_c (xs_iconst C dX9_whyNotMerge_28 (by decide)) ?_
  refine xAll_c (xs_iload_n C dX9_whyNotMerge_29 rfl) ?_
  refine xAll_c (xs_iadd C dX9_whyNotMerge_30) ?_
  refine xAll_c (xs_iconst C dX9_whyNotMerge_31 (by decide)) ?_
  refine xAll_c (xs_iadd C dX9_whyNotMerge_32) ?_
  refine xAll_c (xs_iald C dX9_whyNotMerge_33) ?_
  refine xAll_c (xs_iadd C dX9_whyNotMerge_34) ?_
  refine xAll_c (xs_bipush C dX9_whyNotMerge_35 (by decide)) ?_
  refine xAll_c (xs_icmp_le C dX9_whyNotMerge_37 (by decide)) ?_
  refine xAll_c (xs_iconst C dX9_whyNotMerge_40 (by decide)) ?_
  refine xAll_c (xs_goto C dX9_whyNotMerge_41 (by decide)) ?_
  refine xAll_c (xs_iconst C dX9_whyNotMerge_44 (by decide)) ?_
  refine xAll_c (xs_iret C dX9_whyNotMerge_45 rfl) ?_
  exact trivial
noncomputable def k_X9_mergedPin : xCode := [(0, oAload 0 1), (1, oConst (nI 12) 3), (3, oIload 1 4), (4, oBin (fun x y => x + y) 5), (5, oIald 6), (6, oAload 0 7), (7, oConst (nI 12) 9), (9, oIload 1 10), (10, oBin (fun x y => x + y) 11), (11, oConst (nI 1) 12), (12, oBin (fun x y => x + y) 13), (13, oIald 14), (14, oIf2 (fun x y => !(decide (x = y))) 26 17), (17, oAload 0 18), (18, oConst (nI 12) 20), (20, oIload 1 21), (21, oBin (fun x y => x + y) 22), (22, oIald 23), (23, oGoto 27), (26, oConst (nI 0) 27), (27, oIret)]
noncomputable def f_X9_mergedPin : xRun := xrun k_X9_mergedPin 2
set_option maxHeartbeats 4000000 in
set_option maxRecDepth 100000 in
theorem m_X9_mergedPin (l : Launch) (g : xG) : xMet l g yX9_mergedPin cX9_mergedPin 2 (some .int) 0 0 f_X9_mergedPin := by
  refine xmet_of (own := RX9) (by decide +kernel) rfl (fun p e s m args below meth c r0 C => ?_)
  refine xAll_c (xs_aload_n C dX9_mergedPin_0 rfl) ?_
  refine xAll_c (xs_bipush C dX9_mergedPin_1 (by decide)) ?_
  refine xAll_c (xs_iload_n C dX9_mergedPin_3 rfl) ?_
  refine xAll_c (xs_iadd C dX9_mergedPin_4) ?_
  refine xAll_c (xs_iald C dX9_mergedPin_5) ?_
  refine xAll_c (xs_aload_n C dX9_mergedPin_6 rfl) ?_
  refine xAll_c (xs_bipush C dX9_mergedPin_7 (by decide)) ?_
  refine xAll_c (xs_iload_n C dX9_mergedPin_9 rfl) ?_
  refine xAll_c (xs_iadd C dX9_mergedPin_10) ?_
  refine xAll_c (xs_iconst C dX9_mergedPin_11 (by decide)) ?_
  refine xAll_c (xs_iadd C dX9_mergedPin_12) ?_
  refine xAll_c (xs_iald C dX9_mergedPin_13) ?_
  refine xAll_c (xs_icmp_ne C dX9_mergedPin_14 (by decide)) ?_
  refine xAll_c (xs_aload_n C dX9_mergedPin_17 rfl) ?_
  refine xAll_c (xs_bipush C dX9_mergedPin_18 (by decide)) ?_
  refine xAll_c (xs_iload_n C dX9_mergedPin_20 rfl) ?_
  refine xAll_c (xs_iadd C dX9_mergedPin_21) ?_
  refine xAll_c (xs_iald C dX9_mergedPin_22) ?_
  refine xAll_c (xs_goto C dX9_mergedPin_23 (by decide)) ?_
  refine xAll_c (xs_iconst C dX9_mergedPin_26 (by decide)) ?_
  refine xAll_c (xs_iret C dX9_mergedPin_27 rfl) ?_
  exact trivial
noncomputable def k_X9_mergeOn : xCode := [(0, oAload 0 1), (1, oConst (nI 12) 3), (3, oIload 1 4), (4, oBin (fun x y => x + y) 5), (5, oAload 0 6), (6, oIload 1 7), (7, oCallSV 2 f_X9_mergedPin 10), (10, oIast 11), (11, oAload 0 12), (12, oConst (nI 2) 13), (13, oIload 1 14), (14, oBin (fun x y => x + y) 15), (15, oDup2 16), (16, oIald 17), (17, oAload 0 18), (18, oConst (nI 2) 19), (19, oIload 1 20), (20, oBin (fun x y => x + y) 21), (21, oConst (nI 1) 22), (22, oBin (fun x y => x + y) 23), (23, oIald 24), (24, oBin (fun x y => x + y) 25), (25, oIast 26), (26, oAload 0 27), (27, oIload 1 28), (28, oConst (nI 1) 29), (29, oBin (fun x y => x + y) 30), (30, oCallSU 2 f_X9_cutPage 33), (33, oVret)]
noncomputable def f_X9_mergeOn : xRun := xrun k_X9_mergeOn 2
set_option maxHeartbeats 4000000 in
set_option maxRecDepth 100000 in
theorem m_X9_mergeOn (l : Launch) (g : xG) : xMet l g yX9_mergeOn cX9_mergeOn 2 none 1 22 f_X9_mergeOn := by
  refine xmet_of (own := RX9) (by decide +kernel) rfl (fun p e s m args below meth c r0 C => ?_)
  refine xAll_c (xs_aload_n C dX9_mergeOn_0 rfl) ?_
  refine xAll_c (xs_bipush C dX9_mergeOn_1 (by decide)) ?_
  refine xAll_c (xs_iload_n C dX9_mergeOn_3 rfl) ?_
  refine xAll_c (xs_iadd C dX9_mergeOn_4) ?_
  refine xAll_c (xs_aload_n C dX9_mergeOn_5 rfl) ?_
  refine xAll_c (xs_iload_n C dX9_mergeOn_6 rfl) ?_
  refine xAll_c (xs_callSV C (m_X9_mergedPin l g) dX9_mergeOn_7 rfl ⟨(by decide), (by decide), by decide +kernel⟩ wm1293 wm1294 wm10 wm1295 ⟨Nat.le_of_ble_eq_true rfl, Nat.le_of_ble_eq_true rfl⟩) ?_
  refine xAll_c (xs_iast C dX9_mergeOn_10) ?_
  refine xAll_c (xs_aload_n C dX9_mergeOn_11 rfl) ?_
  refine xAll_c (xs_iconst C dX9_mergeOn_12 (by decide)) ?_
  refine xAll_c (xs_iload_n C dX9_mergeOn_13 rfl) ?_
  refine xAll_c (xs_iadd C dX9_mergeOn_14) ?_
  refine xAll_c (xs_dup2 C dX9_mergeOn_15) ?_
  refine xAll_c (xs_iald C dX9_mergeOn_16) ?_
  refine xAll_c (xs_aload_n C dX9_mergeOn_17 rfl) ?_
  refine xAll_c (xs_iconst C dX9_mergeOn_18 (by decide)) ?_
  refine xAll_c (xs_iload_n C dX9_mergeOn_19 rfl) ?_
  refine xAll_c (xs_iadd C dX9_mergeOn_20) ?_
  refine xAll_c (xs_iconst C dX9_mergeOn_21 (by decide)) ?_
  refine xAll_c (xs_iadd C dX9_mergeOn_22) ?_
  refine xAll_c (xs_iald C dX9_mergeOn_23) ?_
  refine xAll_c (xs_iadd C dX9_mergeOn_24) ?_
  refine xAll_c (xs_iast C dX9_mergeOn_25) ?_
  refine xAll_c (xs_aload_n C dX9_mergeOn_26 rfl) ?_
  refine xAll_c (xs_iload_n C dX9_mergeOn_27 rfl) ?_
  refine xAll_c (xs_iconst C dX9_mergeOn_28 (by decide)) ?_
  refine xAll_c (xs_iadd C dX9_mergeOn_29) ?_
  refine xAll_c (xs_callSU C (m_X9_cutPage l g) dX9_mergeOn_30 rfl ⟨(by decide), (by decide), by decide +kernel⟩ wm1270 wm1271 wm10 wm1272 ⟨Nat.le_of_ble_eq_true rfl, Nat.le_of_ble_eq_true rfl⟩) ?_
  refine xAll_c (xs_vret C dX9_mergeOn_33 rfl) ?_
  exact trivial
noncomputable def k_X9_merge : xCode := [(0, oAload 0 1), (1, oAload 0 2), (2, oGetR 9 4 5), (5, oIload 1 6), (6, oCallSV 2 f_X9_whyNotMerge 9), (9, oCallV 9 1 f_X9_refused 12), (12, oIf1 (fun x => decide (x = 0)) 17 15), (15, oConst (nI 0) 16), (16, oIret), (17, oAload 0 18), (18, oCallU 9 0 f_X9_remember 21), (21, oAload 0 22), (22, oGetR 9 4 25), (25, oIload 1 26), (26, oCallSU 2 f_X9_mergeOn 29), (29, oAload 0 30), (30, oGetR 9 4 33), (33, oCallSV 1 f_X9_sizeOfAll 36), (36, oIret)]
noncomputable def f_X9_merge : xRun := xrun k_X9_merge 2
set_option maxHeartbeats 4000000 in
set_option maxRecDepth 100000 in
theorem m_X9_merge (l : Launch) (g : xG) : xMet l g yX9_merge cX9_merge 2 (some .int) 7 161 f_X9_merge := by
  refine xmet_of (own := RX9) (by decide +kernel) rfl (fun p e s m args below meth c r0 C => ?_)
  refine xAll_c (xs_aload_n C dX9_merge_0 rfl) ?_
  refine xAll_c (xs_aload_n C dX9_merge_1 rfl) ?_
  refine xAll_c (xs_getR C dX9_merge_2 (rfl : vwCl[9]? = some (RX9, TX9, 17)) win9 rfl (by decide) (by decide) rfl wm1021) ?_
  refine xAll_c (xs_iload_n C dX9_merge_5 rfl) ?_
  refine xAll_c (xs_callSV C (m_X9_whyNotMerge l g) dX9_merge_6 rfl ⟨(by decide), (by decide), by decide +kernel⟩ wm1287 wm1288 wm10 wm1289 ⟨Nat.le_of_ble_eq_true rfl, Nat.le_of_ble_eq_true rfl⟩) ?_
  refine xAll_c (xs_callV C (m_X9_refused l g) dX9_merge_9 (rfl : vwCl[9]? = some (RX9, TX9, 17)) (by decide) rfl ⟨(by decide), (by decide), by decide +kernel⟩ wm1082 wm1084 wp31 wm10 wm1085 ⟨Nat.le_of_ble_eq_true rfl, Nat.le_of_ble_eq_true rfl⟩) ?_
  refine xAll_c (xs_if_eq C dX9_merge_12 (by decide)) ?_
  refine xAll_c (xs_iconst C dX9_merge_15 (by decide)) ?_
  refine xAll_c (xs_iret C dX9_merge_16 rfl) ?_
  refine xAll_c (xs_aload_n C dX9_merge_17 rfl) ?_
  refine xAll_c (xs_callU C (m_X9_remember l g) dX9_merge_18 (rfl : vwCl[9]? = some (RX9, TX9, 17)) (by decide) rfl ⟨(by decide), (by decide), by decide +kernel⟩ wm1246 wm1248 wp44 wm10 wm1249 ⟨Nat.le_of_ble_eq_true rfl, Nat.le_of_ble_eq_true rfl⟩) ?_
  refine xAll_c (xs_aload_n C dX9_merge_21 rfl) ?_
  refine xAll_c (xs_getR C dX9_merge_22 (rfl : vwCl[9]? = some (RX9, TX9, 17)) win9 rfl (by decide) (by decide) rfl wm1021) ?_
  refine xAll_c (xs_iload_n C dX9_merge_25 rfl) ?_
  refine xAll_c (xs_callSU C (m_X9_mergeOn l g) dX9_merge_26 rfl ⟨(by decide), (by decide), by decide +kernel⟩ wm1290 wm1291 wm10 wm1292 ⟨Nat.le_of_ble_eq_true rfl, Nat.le_of_ble_eq_true rfl⟩) ?_
  refine xAll_c (xs_aload_n C dX9_merge_29 rfl) ?_
  refine xAll_c (xs_getR C dX9_merge_30 (rfl : vwCl[9]? = some (RX9, TX9, 17)) win9 rfl (by decide) (by decide) rfl wm1021) ?_
  refine xAll_c (xs_callSV C (m_X9_sizeOfAll l g) dX9_merge_33 rfl ⟨(by decide), (by decide), by decide +kernel⟩ wm1146 wm1147 wm10 wm1148 ⟨Nat.le_of_ble_eq_true rfl, Nat.le_of_ble_eq_true rfl⟩) ?_
  refine xAll_c (xs_iret C dX9_merge_36 rfl) ?_
  exact trivial
noncomputable def k_X9_gainOn : xCode := [(0, oAload 0 1), (1, oConst (nI 22) 3), (3, oAload 0 4), (4, oIload 1 5), (5, oCallSV 2 f_X9_firstOf 8), (8, oBin (fun x y => x + y) 9), (9, oAload 0 10), (10, oConst (nI 2) 11), (11, oIload 1 12), (12, oBin (fun x y => x + y) 13), (13, oIald 14), (14, oAload 0 15), (15, oConst (nI 2) 16), (16, oIload 1 17), (17, oBin (fun x y => x + y) 18), (18, oConst (nI 1) 19), (19, oBin (fun x y => x + y) 20), (20, oIald 21), (21, oBin (fun x y => x + y) 22), (22, oAload 0 23), (23, oIload 1 24), (24, oCallSV 2 f_X9_mergedPin 27), (27, oCallSV 4 f_X9_pinnedSize 30), (30, oIstore 2 3 31), (31, oAload 0 32), (32, oIload 1 33), (33, oCallSV 2 f_X9_sizeOfPage 36), (36, oAload 0 37), (37, oIload 1 38), (38, oConst (nI 1) 39), (39, oBin (fun x y => x + y) 40), (40, oCallSV 2 f_X9_sizeOfPage 43), (43, oBin (fun x y => x + y) 44), (44, oIload 2 45), (45, oBin (fun x y => x - y) 46), (46, oIret)]
noncomputable def f_X9_gainOn : xRun := xrun k_X9_gainOn 3
set_option maxHeartbeats 4000000 in
set_option maxRecDepth 100000 in
theorem m_X9_gainOn (l : Launch) (g : xG) : xMet l g yX9_gainOn cX9_gainOn 3 (some .int) 6 139 f_X9_gainOn := by
  refine xmet_of (own := RX9) (by decide +kernel) rfl (fun p e s m args below meth c r0 C => ?_)
  refine xAll_c (xs_aload_n C dX9_gainOn_0 rfl) ?_
  refine xAll_c (xs_bipush C dX9_gainOn_1 (by decide)) ?_
  refine xAll_c (xs_aload_n C dX9_gainOn_3 rfl) ?_
  refine xAll_c (xs_iload_n C dX9_gainOn_4 rfl) ?_
  refine xAll_c (xs_callSV C (m_X9_firstOf l g) dX9_gainOn_5 rfl ⟨(by decide), (by decide), by decide +kernel⟩ wm1143 wm1144 wm10 wm1145 ⟨Nat.le_of_ble_eq_true rfl, Nat.le_of_ble_eq_true rfl⟩) ?_
  refine xAll_c (xs_iadd C dX9_gainOn_8) ?_
  refine xAll_c (xs_aload_n C dX9_gainOn_9 rfl) ?_
  refine xAll_c (xs_iconst C dX9_gainOn_10 (by decide)) ?_
  refine xAll_c (xs_iload_n C dX9_gainOn_11 rfl) ?_
  refine xAll_c (xs_iadd C dX9_gainOn_12) ?_
  refine xAll_c (xs_iald C dX9_gainOn_13) ?_
  refine xAll_c (xs_aload_n C dX9_gainOn_14 rfl) ?_
  refine xAll_c (xs_iconst C dX9_gainOn_15 (by decide)) ?_
  refine xAll_c (xs_iload_n C dX9_gainOn_16 rfl) ?_
  refine xAll_c (xs_iadd C dX9_gainOn_17) ?_
  refine xAll_c (xs_iconst C dX9_gainOn_18 (by decide)) ?_
  refine xAll_c (xs_iadd C dX9_gainOn_19) ?_
  refine xAll_c (xs_iald C dX9_gainOn_20) ?_
  refine xAll_c (xs_iadd C dX9_gainOn_21) ?_
  refine xAll_c (xs_aload_n C dX9_gainOn_22 rfl) ?_
  refine xAll_c (xs_iload_n C dX9_gainOn_23 rfl) ?_
  refine xAll_c (xs_callSV C (m_X9_mergedPin l g) dX9_gainOn_24 rfl ⟨(by decide), (by decide), by decide +kernel⟩ wm1293 wm1294 wm10 wm1295 ⟨Nat.le_of_ble_eq_true rfl, Nat.le_of_ble_eq_true rfl⟩) ?_
  refine xAll_c (xs_callSV C (m_X9_pinnedSize l g) dX9_gainOn_27 rfl ⟨(by decide), (by decide), by decide +kernel⟩ wm1152 wm1153 wm10 wm1154 ⟨Nat.le_of_ble_eq_true rfl, Nat.le_of_ble_eq_true rfl⟩) ?_
  refine xAll_c (xs_istore_n C dX9_gainOn_30 rfl) ?_
  refine xAll_c (xs_aload_n C dX9_gainOn_31 rfl) ?_
  refine xAll_c (xs_iload_n C dX9_gainOn_32 rfl) ?_
  refine xAll_c (xs_callSV C (m_X9_sizeOfPage l g) dX9_gainOn_33 rfl ⟨(by decide), (by decide), by decide +kernel⟩ wm1149 wm1150 wm10 wm1151 ⟨Nat.le_of_ble_eq_true rfl, Nat.le_of_ble_eq_true rfl⟩) ?_
  refine xAll_c (xs_aload_n C dX9_gainOn_36 rfl) ?_
  refine xAll_c (xs_iload_n C dX9_gainOn_37 rfl) ?_
  refine xAll_c (xs_iconst C dX9_gainOn_38 (by decide)) ?_
  refine xAll_c (xs_iadd C dX9_gainOn_39) ?_
  refine xAll_c (xs_callSV C (m_X9_sizeOfPage l g) dX9_gainOn_40 rfl ⟨(by decide), (by decide), by decide +kernel⟩ wm1149 wm1150 wm10 wm1151 ⟨Nat.le_of_ble_eq_true rfl, Nat.le_of_ble_eq_true rfl⟩) ?_
  refine xAll_c (xs_iadd C dX9_gainOn_43) ?_
  refine xAll_c (xs_iload_n C dX9_gainOn_44 rfl) ?_
  refine xAll_c (xs_isub C dX9_gainOn_45) ?_
  refine xAll_c (xs_iret C dX9_gainOn_46 rfl) ?_
  exact trivial
noncomputable def k_X9_compactOn : xCode := [(0, oConst (nI 0) 1), (1, oIstore 1 3 2), (2, oConst (nI 0) 3), (3, oIstore 2 3 4), (4, oIload 2 5), (5, oAload 0 6), (6, oConst (nI 0) 7), (7, oIald 8), (8, oConst (nI 1) 9), (9, oBin (fun x y => x - y) 10), (10, oIf2 (fun x y => decide (y ≤ x)) 48 13), (13, oAload 0 14), (14, oIload 2 15), (15, oCallSV 2 f_X9_whyNotMerge 18), (18, oIf1 (fun x => !(decide (x = 0))) 42 21), (21, oAload 0 22), (22, oIload 2 23), (23, oCallSV 2 f_X9_gainOn 26), (26, oIf1 (fun x => decide (x ≤ 0)) 42 29), (29, oAload 0 30), (30, oIload 2 31), (31, oCallSU 2 f_X9_mergeOn 34), (34, oIinc 1 (nI 1) 3 37), (37, oConst (nI 0) 38), (38, oIstore 2 3 39), (39, oGoto 4), (42, oIinc 2 (nI 1) 3 45), (45, oGoto 4), (48, oIload 1 49), (49, oIret)]
noncomputable def f_X9_compactOn : xRun := xrun k_X9_compactOn 3
set_option maxHeartbeats 4000000 in
set_option maxRecDepth 100000 in
theorem m_X9_compactOn (l : Launch) (g : xG) : xMet l g yX9_compactOn cX9_compactOn 3 (some .int) 7 161 f_X9_compactOn := by
  refine xmet_of (own := RX9) (by decide +kernel) rfl (fun p e s m args below meth c r0 C => ?_)
  refine xAll_c (xs_iconst C dX9_compactOn_0 (by decide)) ?_
  refine xAll_c (xs_istore_n C dX9_compactOn_1 rfl) ?_
  refine xAll_c (xs_iconst C dX9_compactOn_2 (by decide)) ?_
  refine xAll_c (xs_istore_n C dX9_compactOn_3 rfl) ?_
  refine xAll_c (xs_iload_n C dX9_compactOn_4 rfl) ?_
  refine xAll_c (xs_aload_n C dX9_compactOn_5 rfl) ?_
  refine xAll_c (xs_iconst C dX9_compactOn_6 (by decide)) ?_
  refine xAll_c (xs_iald C dX9_compactOn_7) ?_
  refine xAll_c (xs_iconst C dX9_compactOn_8 (by decide)) ?_
  refine xAll_c (xs_isub C dX9_compactOn_9) ?_
  refine xAll_c (xs_icmp_ge C dX9_compactOn_10 (by decide)) ?_
  refine xAll_c (xs_aload_n C dX9_compactOn_13 rfl) ?_
  refine xAll_c (xs_iload_n C dX9_compactOn_14 rfl) ?_
  refine xAll_c (xs_callSV C (m_X9_whyNotMerge l g) dX9_compactOn_15 rfl ⟨(by decide), (by decide), by decide +kernel⟩ wm1287 wm1288 wm10 wm1289 ⟨Nat.le_of_ble_eq_true rfl, Nat.le_of_ble_eq_true rfl⟩) ?_
  refine xAll_c (xs_if_ne C dX9_compactOn_18 (by decide)) ?_
  refine xAll_c (xs_aload_n C dX9_compactOn_21 rfl) ?_
  refine xAll_c (xs_iload_n C dX9_compactOn_22 rfl) ?_
  refine xAll_c (xs_callSV C (m_X9_gainOn l g) dX9_compactOn_23 rfl ⟨(by decide), (by decide), by decide +kernel⟩ wm1303 wm1304 wm10 wm1305 ⟨Nat.le_of_ble_eq_true rfl, Nat.le_of_ble_eq_true rfl⟩) ?_
  refine xAll_c (xs_if_le C dX9_compactOn_26 (by decide)) ?_
  refine xAll_c (xs_aload_n C dX9_compactOn_29 rfl) ?_
  refine xAll_c (xs_iload_n C dX9_compactOn_30 rfl) ?_
  refine xAll_c (xs_callSU C (m_X9_mergeOn l g) dX9_compactOn_31 rfl ⟨(by decide), (by decide), by decide +kernel⟩ wm1290 wm1291 wm10 wm1292 ⟨Nat.le_of_ble_eq_true rfl, Nat.le_of_ble_eq_true rfl⟩) ?_
  refine xAll_c (xs_iinc C dX9_compactOn_34 rfl) ?_
  refine xAll_c (xs_iconst C dX9_compactOn_37 (by decide)) ?_
  refine xAll_c (xs_istore_n C dX9_compactOn_38 rfl) ?_
  refine xAll_c (xs_goto C dX9_compactOn_39 (by decide)) ?_
  refine xAll_c (xs_iinc C dX9_compactOn_42 rfl) ?_
  refine xAll_c (xs_goto C dX9_compactOn_45 (by decide)) ?_
  refine xAll_c (xs_iload_n C dX9_compactOn_48 rfl) ?_
  refine xAll_c (xs_iret C dX9_compactOn_49 rfl) ?_
  exact trivial
noncomputable def k_X9_compact : xCode := [(0, oAload 0 1), (1, oCallU 9 0 f_X9_remember 4), (4, oAload 0 5), (5, oGetR 9 4 8), (8, oCallSV 1 f_X9_compactOn 11), (11, oIret)]
noncomputable def f_X9_compact : xRun := xrun k_X9_compact 1
set_option maxHeartbeats 4000000 in
set_option maxRecDepth 100000 in
theorem m_X9_compact (l : Launch) (g : xG) : xMet l g yX9_compact cX9_compact 1 (some .int) 8 183 f_X9_compact := by
  refine xmet_of (own := RX9) (by decide +kernel) rfl (fun p e s m args below meth c r0 C => ?_)
  refine xAll_c (xs_aload_n C dX9_compact_0 rfl) ?_
  refine xAll_c (xs_callU C (m_X9_remember l g) dX9_compact_1 (rfl : vwCl[9]? = some (RX9, TX9, 17)) (by decide) rfl ⟨(by decide), (by decide), by decide +kernel⟩ wm1246 wm1248 wp44 wm10 wm1249 ⟨Nat.le_of_ble_eq_true rfl, Nat.le_of_ble_eq_true rfl⟩) ?_
  refine xAll_c (xs_aload_n C dX9_compact_4 rfl) ?_
  refine xAll_c (xs_getR C dX9_compact_5 (rfl : vwCl[9]? = some (RX9, TX9, 17)) win9 rfl (by decide) (by decide) rfl wm1021) ?_
  refine xAll_c (xs_callSV C (m_X9_compactOn l g) dX9_compact_8 rfl ⟨(by decide), (by decide), by decide +kernel⟩ wm1300 wm1301 wm10 wm1302 ⟨Nat.le_of_ble_eq_true rfl, Nat.le_of_ble_eq_true rfl⟩) ?_
  refine xAll_c (xs_iret C dX9_compact_11 rfl) ?_
  exact trivial
noncomputable def k_X9_pin : xCode := [(0, oAload 0 1), (1, oAload 0 2), (2, oGetR 9 4 5), (5, oIload 1 6), (6, oCallSV 2 f_X9_isPage 9), (9, oIf1 (fun x => !(decide (x = 0))) 16 12), (12, oConst (nI 1) 13), (13, oGoto 40), (16, oIload 2 17), (17, oI2l 18), (18, oLconst (0) 19), (19, oLconst (4) 22), (22, oCallSV 3 f_X9_in 25), (25, oIf1 (fun x => !(decide (x = 0))) 35 28), (28, oIload 2 29), (29, oConst (-9999) 32), (32, oIf2 (fun x y => !(decide (x = y))) 39 35), (35, oConst (nI 0) 36), (36, oGoto 40), (39, oConst (nI 2) 40), (40, oCallV 9 1 f_X9_refused 43), (43, oIf1 (fun x => decide (x = 0)) 48 46), (46, oConst (nI 0) 47), (47, oIret), (48, oAload 0 49), (49, oCallU 9 0 f_X9_remember 52), (52, oAload 0 53), (53, oGetR 9 4 56), (56, oConst (nI 12) 58), (58, oIload 1 59), (59, oBin (fun x y => x + y) 60), (60, oIload 2 61), (61, oConst (-9999) 64), (64, oIf2 (fun x y => !(decide (x = y))) 71 67), (67, oConst (nI 0) 68), (68, oGoto 74), (71, oIload 2 72), (72, oConst (nI 1) 73), (73, oBin (fun x y => x + y) 74), (74, oIast 75), (75, oAload 0 76), (76, oGetR 9 4 79), (79, oIload 1 80), (80, oCallSV 2 f_X9_sizeOfPage 83), (83, oIret)]
noncomputable def f_X9_pin : xRun := xrun k_X9_pin 3
set_option maxHeartbeats 4000000 in
set_option maxRecDepth 100000 in
theorem m_X9_pin (l : Launch) (g : xG) : xMet l g yX9_pin cX9_pin 3 (some .int) 6 139 f_X9_pin := by
  refine xmet_of (own := RX9) (by decide +kernel) rfl (fun p e s m args below meth c r0 C => ?_)
  refine xAll_c (xs_aload_n C dX9_pin_0 rfl) ?_
  refine xAll_c (xs_aload_n C dX9_pin_1 rfl) ?_
  refine xAll_c (xs_getR C dX9_pin_2 (rfl : vwCl[9]? = some (RX9, TX9, 17)) win9 rfl (by decide) (by decide) rfl wm1021) ?_
  refine xAll_c (xs_iload_n C dX9_pin_5 rfl) ?_
  refine xAll_c (xs_callSV C (m_X9_isPage l g) dX9_pin_6 rfl ⟨(by decide), (by decide), by decide +kernel⟩ wm1190 wm1191 wm10 wm1192 ⟨Nat.le_of_ble_eq_true rfl, Nat.le_of_ble_eq_true rfl⟩) ?_
  refine xAll_c (xs_if_ne C dX9_pin_9 (by decide)) ?_
  refine xAll_c (xs_iconst C dX9_pin_12 (by decide)) ?_
  refine xAll_c (xs_goto C dX9_pin_13 (by decide)) ?_
  refine xAll_c (xs_iload_n C dX9_pin_16 rfl) ?_
  refine xAll_c (xs_i2l C dX9_pin_17) ?_
  refine xAll_c (xs_lconst C dX9_pin_18 (by decide)) ?_
  refine xAll_c (xs_ldc2 C dX9_pin_19 wm1223) ?_
  refine xAll_c (xs_callSV C (m_X9_in l g) dX9_pin_22 rfl ⟨(by decide), (by decide), by decide +kernel⟩ wm1079 wm1080 wm10 wm1081 ⟨Nat.le_of_ble_eq_true rfl, Nat.le_of_ble_eq_true rfl⟩) ?_
  refine xAll_c (xs_if_ne C dX9_pin_25 (by decide)) ?_
  refine xAll_c (xs_iload_n C dX9_pin_28 rfl) ?_
  refine xAll_c (xs_sipush C dX9_pin_29 (by decide)) ?_
  refine xAll_c (xs_icmp_ne C dX9_pin_32 (by decide)) ?_
  refine xAll_c (xs_iconst C dX9_pin_35 (by decide)) ?_
  refine xAll_c (xs_goto C dX9_pin_36 (by decide)) ?_
  refine xAll_c (xs_iconst C dX9_pin_39 (by decide)) ?_
  refine xAll_c (xs_callV C (m_X9_refused l g) dX9_pin_40 (rfl : vwCl[9]? = some (RX9, TX9, 17)) (by decide) rfl ⟨(by decide), (by decide), by decide +kernel⟩ wm1082 wm1084 wp31 wm10 wm1085 ⟨Nat.le_of_ble_eq_true rfl, Nat.le_of_ble_eq_true rfl⟩) ?_
  refine xAll_c (xs_if_eq C dX9_pin_43 (by decide)) ?_
  refine xAll_c (xs_iconst C dX9_pin_46 (by decide)) ?_
  refine xAll_c (xs_iret C dX9_pin_47 rfl) ?_
  refine xAll_c (xs_aload_n C dX9_pin_48 rfl) ?_
  refine xAll_c (xs_callU C (m_X9_remember l g) dX9_pin_49 (rfl : vwCl[9]? = some (RX9, TX9, 17)) (by decide) rfl ⟨(by decide), (by decide), by decide +kernel⟩ wm1246 wm1248 wp44 wm10 wm1249 ⟨Nat.le_of_ble_eq_true rfl, Nat.le_of_ble_eq_true rfl⟩) ?_
  refine xAll_c (xs_aload_n C dX9_pin_52 rfl) ?_
  refine xAll_c (xs_getR C dX9_pin_53 (rfl : vwCl[9]? = some (RX9, TX9, 17)) win9 rfl (by decide) (by decide) rfl wm1021) ?_
  refine xAll_c (xs_bipush C dX9_pin_56 (by decide)) ?_
  refine xAll_c (xs_iload_n C dX9_pin_58 rfl) ?_
  refine xAll_c (xs_iadd C dX9_pin_59) ?_
  refine xAll_c (xs_iload_n C dX9_pin_60 rfl) ?_
  refine xAll_c (xs_sipush C dX9_pin_61 (by decide)) ?_
  refine xAll_c (xs_icmp_ne C dX9_pin_64 (by decide)) ?_
  refine xAll_c (xs_iconst C dX9_pin_67 (by decide)) ?_
  refine xAll_c (xs_goto C dX9_pin_68 (by decide)) ?_
  refine xAll_c (xs_iload_n C dX9_pin_71 rfl) ?_
  refine xAll_c (xs_iconst C dX9_pin_72 (by decide)) ?_
  refine xAll_c (xs_iadd C dX9_pin_73) ?_
  refine xAll_c (xs_iast C dX9_pin_74) ?_
  refine xAll_c (xs_aload_n C dX9_pin_75 rfl) ?_
  refine xAll_c (xs_getR C dX9_pin_76 (rfl : vwCl[9]? = some (RX9, TX9, 17)) win9 rfl (by decide) (by decide) rfl wm1021) ?_
  refine xAll_c (xs_iload_n C dX9_pin_79 rfl) ?_
  refine xAll_c (xs_callSV C (m_X9_sizeOfPage l g) dX9_pin_80 rfl ⟨(by decide), (by decide), by decide +kernel⟩ wm1149 wm1150 wm10 wm1151 ⟨Nat.le_of_ble_eq_true rfl, Nat.le_of_ble_eq_true rfl⟩) ?_
  refine xAll_c (xs_iret C dX9_pin_83 rfl) ?_
  exact trivial
noncomputable def k_X9_setLimit : xCode := [(0, oAload 0 1), (1, oIload 1 2), (2, oI2l 3), (3, oLconst (1) 4), (4, oLconst (12) 7), (7, oCallSV 3 f_X9_in 10), (10, oIf1 (fun x => decide (x = 0)) 17 13), (13, oConst (nI 0) 14), (14, oGoto 18), (17, oConst (nI 1) 18), (18, oCallV 9 1 f_X9_refused 21), (21, oIf1 (fun x => decide (x = 0)) 26 24), (24, oConst (nI 0) 25), (25, oIret), (26, oAload 0 27), (27, oCallU 9 0 f_X9_remember 30), (30, oAload 0 31), (31, oGetR 9 4 34), (34, oConst (nI 1) 35), (35, oIald 36), (36, oIstore 2 3 37), (37, oAload 0 38), (38, oGetR 9 4 41), (41, oConst (nI 1) 42), (42, oIload 1 43), (43, oIast 44), (44, oIload 2 45), (45, oIret)]
noncomputable def f_X9_setLimit : xRun := xrun k_X9_setLimit 3
set_option maxHeartbeats 4000000 in
set_option maxRecDepth 100000 in
theorem m_X9_setLimit (l : Launch) (g : xG) : xMet l g yX9_setLimit cX9_setLimit 3 (some .int) 2 45 f_X9_setLimit := by
  refine xmet_of (own := RX9) (by decide +kernel) rfl (fun p e s m args below meth c r0 C => ?_)
  refine xAll_c (xs_aload_n C dX9_setLimit_0 rfl) ?_
  refine xAll_c (xs_iload_n C dX9_setLimit_1 rfl) ?_
  refine xAll_c (xs_i2l C dX9_setLimit_2) ?_
  refine xAll_c (xs_lconst C dX9_setLimit_3 (by decide)) ?_
  refine xAll_c (xs_ldc2 C dX9_setLimit_4 wm1314) ?_
  refine xAll_c (xs_callSV C (m_X9_in l g) dX9_setLimit_7 rfl ⟨(by decide), (by decide), by decide +kernel⟩ wm1079 wm1080 wm10 wm1081 ⟨Nat.le_of_ble_eq_true rfl, Nat.le_of_ble_eq_true rfl⟩) ?_
  refine xAll_c (xs_if_eq C dX9_setLimit_10 (by decide)) ?_
  refine xAll_c (xs_iconst C dX9_setLimit_13 (by decide)) ?_
  refine xAll_c (xs_goto C dX9_setLimit_14 (by decide)) ?_
  refine xAll_c (xs_iconst C dX9_setLimit_17 (by decide)) ?_
  refine xAll_c (xs_callV C (m_X9_refused l g) dX9_setLimit_18 (rfl : vwCl[9]? = some (RX9, TX9, 17)) (by decide) rfl ⟨(by decide), (by decide), by decide +kernel⟩ wm1082 wm1084 wp31 wm10 wm1085 ⟨Nat.le_of_ble_eq_true rfl, Nat.le_of_ble_eq_true rfl⟩) ?_
  refine xAll_c (xs_if_eq C dX9_setLimit_21 (by decide)) ?_
  refine xAll_c (xs_iconst C dX9_setLimit_24 (by decide)) ?_
  refine xAll_c (xs_iret C dX9_setLimit_25 rfl) ?_
  refine xAll_c (xs_aload_n C dX9_setLimit_26 rfl) ?_
  refine xAll_c (xs_callU C (m_X9_remember l g) dX9_setLimit_27 (rfl : vwCl[9]? = some (RX9, TX9, 17)) (by decide) rfl ⟨(by decide), (by decide), by decide +kernel⟩ wm1246 wm1248 wp44 wm10 wm1249 ⟨Nat.le_of_ble_eq_true rfl, Nat.le_of_ble_eq_true rfl⟩) ?_
  refine xAll_c (xs_aload_n C dX9_setLimit_30 rfl) ?_
  refine xAll_c (xs_getR C dX9_setLimit_31 (rfl : vwCl[9]? = some (RX9, TX9, 17)) win9 rfl (by decide) (by decide) rfl wm1021) ?_
  refine xAll_c (xs_iconst C dX9_setLimit_34 (by decide)) ?_
  refine xAll_c (xs_iald C dX9_setLimit_35) ?_
  refine xAll_c (xs_istore_n C dX9_setLimit_36 rfl) ?_
  refine xAll_c (xs_aload_n C dX9_setLimit_37 rfl) ?_
  refine xAll_c (xs_getR C dX9_setLimit_38 (rfl : vwCl[9]? = some (RX9, TX9, 17)) win9 rfl (by decide) (by decide) rfl wm1021) ?_
  refine xAll_c (xs_iconst C dX9_setLimit_41 (by decide)) ?_
  refine xAll_c (xs_iload_n C dX9_setLimit_42 rfl) ?_
  refine xAll_c (xs_iast C dX9_setLimit_43) ?_
  refine xAll_c (xs_iload_n C dX9_setLimit_44 rfl) ?_
  refine xAll_c (xs_iret C dX9_setLimit_45 rfl) ?_
  exact trivial
noncomputable def k_X9_take : xCode := [(0, oAload 0 1), (1, oAload 0 2), (2, oCallV 9 0 f_X9_readPage 5), (5, oIf1 (fun x => decide (x = 0)) 23 8), (8, oAload 0 9), (9, oGetR 9 4 12), (12, oConst (nI 0) 13), (13, oIald 14), (14, oConst (nI 10) 16), (16, oIf2 (fun x y => decide (y ≤ x)) 23 19), (19, oConst (nI 0) 20), (20, oGoto 24), (23, oConst (nI 1) 24), (24, oCallV 9 1 f_X9_refused 27), (27, oIf1 (fun x => decide (x = 0)) 32 30), (30, oConst (nI 0) 31), (31, oIret), (32, oAload 0 33), (33, oCallU 9 0 f_X9_remember 36), (36, oAload 0 37), (37, oGetR 9 4 40), (40, oCallSV 1 f_X9_valuesOf 43), (43, oIstore 1 3 44), (44, oConst (nI 0) 45), (45, oIstore 2 3 46), (46, oIload 2 47), (47, oAload 0 48), (48, oGetI 9 15 51), (51, oIf2 (fun x y => decide (y ≤ x)) 77 54), (54, oAload 0 55), (55, oGetR 9 4 58), (58, oConst (nI 22) 60), (60, oIload 1 61), (61, oBin (fun x y => x + y) 62), (62, oIload 2 63), (63, oBin (fun x y => x + y) 64), (64, oAload 0 65), (65, oGetR 9 13 68), (68, oIload 2 69), (69, oIald 70), (70, oIast 71), (71, oIinc 2 (nI 1) 3 74), (74, oGoto 46), (77, oAload 0 78), (78, oGetR 9 4 81), (81, oConst (nI 2) 82), (82, oAload 0 83), (83, oGetR 9 4 86), (86, oConst (nI 0) 87), (87, oIald 88), (88, oBin (fun x y => x + y) 89), (89, oAload 0 90), (90, oGetI 9 15 93), (93, oIast 94), (94, oAload 0 95), (95, oGetR 9 4 98), (98, oConst (nI 12) 100), (100, oAload 0 101), (101, oGetR 9 4 104), (104, oConst (nI 0) 105), (105, oIald 106), (106, oBin (fun x y => x + y) 107), (107, oConst (nI 0) 108), (108, oIast 109), (109, oAload 0 110), (110, oGetR 9 4 113), (113, oConst (nI 0) 114), (114, oDup2 115), (115, oIald 116), (116, oConst (nI 1) 117), (117, oBin (fun x y => x + y) 118), (118, oIast 119), (119, oAload 0 120), (120, oGetR 9 4 123), (123, oAload 0 124), (124, oGetR 9 4 127), (127, oConst (nI 0) 128), (128, oIald 129), (129, oConst (nI 1) 130), (130, oBin (fun x y => x - y) 131), (131, oCallSV 2 f_X9_codingOf 134), (134, oIret)]
noncomputable def f_X9_take : xRun := xrun k_X9_take 3
set_option maxHeartbeats 4000000 in
set_option maxRecDepth 100000 in
theorem m_X9_take (l : Launch) (g : xG) : xMet l g yX9_take cX9_take 3 (some .int) 5 128 f_X9_take := by
  refine xmet_of (own := RX9) (by decide +kernel) rfl (fun p e s m args below meth c r0 C => ?_)
  refine xAll_c (xs_aload_n C dX9_take_0 rfl) ?_
  refine xAll_c (xs_aload_n C dX9_take_1 rfl) ?_
  refine xAll_c (xs_callV C (m_X9_readPage l g) dX9_take_2 (rfl : vwCl[9]? = some (RX9, TX9, 17)) (by decide) rfl ⟨(by decide), (by decide), by decide +kernel⟩ wm1094 wm1096 wp32 wm10 wm1097 ⟨Nat.le_of_ble_eq_true rfl, Nat.le_of_ble_eq_true rfl⟩) ?_
  refine xAll_c (xs_if_eq C dX9_take_5 (by decide)) ?_
  refine xAll_c (xs_aload_n C dX9_take_8 rfl) ?_
  refine xAll_c (xs_getR C dX9_take_9 (rfl : vwCl[9]? = some (RX9, TX9, 17)) win9 rfl (by decide) (by decide) rfl wm1021) ?_
  refine xAll_c (xs_iconst C dX9_take_12 (by decide)) ?_
  refine xAll_c (xs_iald C dX9_take_13) ?_
  refine xAll_c (xs_bipush C dX9_take_14 (by decide)) ?_
  refine xAll_c (xs_icmp_ge C dX9_take_16 (by decide)) ?_
  refine xAll_c (xs_iconst C dX9_take_19 (by decide)) ?_
  refine xAll_c (xs_goto C dX9_take_20 (by decide)) ?_
  refine xAll_c (xs_iconst C dX9_take_23 (by decide)) ?_
  refine xAll_c (xs_callV C (m_X9_refused l g) dX9_take_24 (rfl : vwCl[9]? = some (RX9, TX9, 17)) (by decide) rfl ⟨(by decide), (by decide), by decide +kernel⟩ wm1082 wm1084 wp31 wm10 wm1085 ⟨Nat.le_of_ble_eq_true rfl, Nat.le_of_ble_eq_true rfl⟩) ?_
  refine xAll_c (xs_if_eq C dX9_take_27 (by decide)) ?_
  refine xAll_c (xs_iconst C dX9_take_30 (by decide)) ?_
  refine xAll_c (xs_iret C dX9_take_31 rfl) ?_
  refine xAll_c (xs_aload_n C dX9_take_32 rfl) ?_
  refine xAll_c (xs_callU C (m_X9_remember l g) dX9_take_33 (rfl : vwCl[9]? = some (RX9, TX9, 17)) (by decide) rfl ⟨(by decide), (by decide), by decide +kernel⟩ wm1246 wm1248 wp44 wm10 wm1249 ⟨Nat.le_of_ble_eq_true rfl, Nat.le_of_ble_eq_true rfl⟩) ?_
  refine xAll_c (xs_aload_n C dX9_take_36 rfl) ?_
  refine xAll_c (xs_getR C dX9_take_37 (rfl : vwCl[9]? = some (RX9, TX9, 17)) win9 rfl (by decide) (by decide) rfl wm1021) ?_
  refine xAll_c (xs_callSV C (m_X9_valuesOf l g) dX9_take_40 rfl ⟨(by decide), (by decide), by decide +kernel⟩ wm1140 wm1141 wm10 wm1142 ⟨Nat.le_of_ble_eq_true rfl, Nat.le_of_ble_eq_true rfl⟩) ?_
  refine xAll_c (xs_istore_n C dX9_take_43 rfl) ?_
  refine xAll_c (xs_iconst C dX9_take_44 (by decide)) ?_
  refine xAll_c (xs_istore_n C dX9_take_45 rfl) ?_
  refine xAll_c (xs_iload_n C dX9_take_46 rfl) ?_
  refine xAll_c (xs_aload_n C dX9_take_47 rfl) ?_
  refine xAll_c (xs_getI C dX9_take_48 (rfl : vwCl[9]? = some (RX9, TX9, 17)) win9 rfl (by decide) (by decide) rfl wm1032) ?_
  refine xAll_c (xs_icmp_ge C dX9_take_51 (by decide)) ?_
  refine xAll_c (xs_aload_n C dX9_take_54 rfl) ?_
  refine xAll_c (xs_getR C dX9_take_55 (rfl : vwCl[9]? = some (RX9, TX9, 17)) win9 rfl (by decide) (by decide) rfl wm1021) ?_
  refine xAll_c (xs_bipush C dX9_take_58 (by decide)) ?_
  refine xAll_c (xs_iload_n C dX9_take_60 rfl) ?_
  refine xAll_c (xs_iadd C dX9_take_61) ?_
  refine xAll_c (xs_iload_n C dX9_take_62 rfl) ?_
  refine xAll_c (xs_iadd C dX9_take_63) ?_
  refine xAll_c (xs_aload_n C dX9_take_64 rfl) ?_
  refine xAll_c (xs_getR C dX9_take_65 (rfl : vwCl[9]? = some (RX9, TX9, 17)) win9 rfl (by decide) (by decide) rfl wm1030) ?_
  refine xAll_c (xs_iload_n C dX9_take_68 rfl) ?_
  refine xAll_c (xs_iald C dX9_take_69) ?_
  refine xAll_c (xs_iast C dX9_take_70) ?_
  refine xAll_c (xs_iinc C dX9_take_71 rfl) ?_
  refine xAll_c (xs_goto C dX9_take_74 (by decide)) ?_
  refine xAll_c (xs_aload_n C dX9_take_77 rfl) ?_
  refine xAll_c (xs_getR C dX9_take_78 (rfl : vwCl[9]? = some (RX9, TX9, 17)) win9 rfl (by decide) (by decide) rfl wm1021) ?_
  refine xAll_c (xs_iconst C dX9_take_81 (by decide)) ?_
  refine xAll_c (xs_aload_n C dX9_take_82 rfl) ?_
  refine xAll_c (xs_getR C dX9_take_83 (rfl : vwCl[9]? = some (RX9, TX9, 17)) win9 rfl (by decide) (by decide) rfl wm1021) ?_
  refine xAll_c (xs_iconst C dX9_take_86 (by decide)) ?_
  refine xAll_c (xs_iald C dX9_take_87) ?_
  refine xAll_c (xs_iadd C dX9_take_88) ?_
  refine xAll_c (xs_aload_n C dX9_take_89 rfl) ?_
  refine xAll_c (xs_getI C dX9_take_90 (rfl : vwCl[9]? = some (RX9, TX9, 17)) win9 rfl (by decide) (by decide) rfl wm1032) ?_
  refine xAll_c (xs_iast C dX9_take_93) ?_
  refine xAll_c (xs_aload_n C dX9_take_94 rfl) ?_
  refine xAll_c (xs_getR C dX9_take_95 (rfl : vwCl[9]? = some (RX9, TX9, 17)) win9 rfl (by decide) (by decide) rfl wm1021) ?_
  refine xAll_c (xs_bipush C dX9_take_98 (by decide)) ?_
  refine xAll_c (xs_aload_n C dX9_take_100 rfl) ?_
  refine xAll_c (xs_getR C dX9_take_101 (rfl : vwCl[9]? = some (RX9, TX9, 17)) win9 rfl (by decide) (by decide) rfl wm1021) ?_
  refine xAll_c (xs_iconst C dX9_take_104 (by decide)) ?_
  refine xAll_c (xs_iald C dX9_take_105) ?_
  refine xAll_c (xs_iadd C dX9_take_106) ?_
  refine xAll_c (xs_iconst C dX9_take_107 (by decide)) ?_
  refine xAll_c (xs_iast C dX9_take_108) ?_
  refine xAll_c (xs_aload_n C dX9_take_109 rfl) ?_
  refine xAll_c (xs_getR C dX9_take_110 (rfl : vwCl[9]? = some (RX9, TX9, 17)) win9 rfl (by decide) (by decide) rfl wm1021) ?_
  refine xAll_c (xs_iconst C dX9_take_113 (by decide)) ?_
  refine xAll_c (xs_dup2 C dX9_take_114) ?_
  refine xAll_c (xs_iald C dX9_take_115) ?_
  refine xAll_c (xs_iconst C dX9_take_116 (by decide)) ?_
  refine xAll_c (xs_iadd C dX9_take_117) ?_
  refine xAll_c (xs_iast C dX9_take_118) ?_
  refine xAll_c (xs_aload_n C dX9_take_119 rfl) ?_
  refine xAll_c (xs_getR C dX9_take_120 (rfl : vwCl[9]? = some (RX9, TX9, 17)) win9 rfl (by decide) (by decide) rfl wm1021) ?_
  refine xAll_c (xs_aload_n C dX9_take_123 rfl) ?_
  refine xAll_c (xs_getR C dX9_take_124 (rfl : vwCl[9]? = some (RX9, TX9, 17)) win9 rfl (by decide) (by decide) rfl wm1021) ?_
  refine xAll_c (xs_iconst C dX9_take_127 (by decide)) ?_
  refine xAll_c (xs_iald C dX9_take_128) ?_
  refine xAll_c (xs_iconst C dX9_take_129 (by decide)) ?_
  refine xAll_c (xs_isub C dX9_take_130) ?_
  refine xAll_c (xs_callSV C (m_X9_codingOf l g) dX9_take_131 rfl ⟨(by decide), (by decide), by decide +kernel⟩ wm1193 wm1194 wm10 wm1195 ⟨Nat.le_of_ble_eq_true rfl, Nat.le_of_ble_eq_true rfl⟩) ?_
  refine xAll_c (xs_iret C dX9_take_134 rfl) ?_
  exact trivial
