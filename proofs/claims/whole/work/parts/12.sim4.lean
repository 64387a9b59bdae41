noncomputable def k_X9_writePage : xCode := [(0, oAload 0 1), (1, oConst (nI 0) 2), (2, oPutI 9 12 5), (5, oConst (nI 22) 7), (7, oAload 0 8), (8, oGetR 9 4 11), (11, oIload 1 12), (12, oCallSV 2 f_X9_firstOf 15), (15, oBin (fun x y => x + y) 16), (16, oIstore 2 8 17), (17, oAload 0 18), (18, oGetR 9 4 21), (21, oConst (nI 2) 22), (22, oIload 1 23), (23, oBin (fun x y => x + y) 24), (24, oIald 25), (25, oIstore 3 8 26), (26, oAload 0 27), (27, oGetR 9 4 30), (30, oIload 1 31), (31, oCallSV 2 f_X9_codingOf 34), (34, oIstore 4 8 36), (36, oAload 0 37), (37, oIload 4 39), (39, oConst (nI 3) 40), (40, oCallU 9 2 f_X9_write 43), (43, oAload 0 44), (44, oIload 3 45), (45, oConst (nI 4) 46), (46, oCallU 9 2 f_X9_write 49), (49, oIload 4 51), (51, oConst (nI 1) 52), (52, oIf2 (fun x y => !(decide (x = y))) 64 55), (55, oAload 0 56), (56, oIload 2 57), (57, oIload 3 58), (58, oCallU 9 2 f_X9_writeWords 61), (61, oGoto 274), (64, oIload 4 66), (66, oConst (nI 2) 67), (67, oIf2 (fun x y => !(decide (x = y))) 79 70), (70, oAload 0 71), (71, oIload 2 72), (72, oIload 3 73), (73, oCallU 9 2 f_X9_writeRuns 76), (76, oGoto 274), (79, oIload 4 81), (81, oIf1 (fun x => !(decide (x = 0))) 117 84), (84, oIload 2 85), (85, oIstore 5 8 87), (87, oIload 5 89), (89, oIload 2 90), (90, oIload 3 91), (91, oBin (fun x y => x + y) 92), (92, oIf2 (fun x y => decide (y ≤ x)) 114 95), (95, oAload 0 96), (96, oAload 0 97), (97, oGetR 9 4 100), (100, oIload 5 102), (102, oIald 103), (103, oConst (nI 10) 105), (105, oCallU 9 2 f_X9_write 108), (108, oIinc 5 (nI 1) 8 111), (111, oGoto 87), (114, oGoto 274), (117, oIload 4 119), (119, oConst (nI 3) 120), (120, oIf2 (fun x y => !(decide (x = y))) 202 123), (123, oAload 0 124), (124, oGetR 9 4 127), (127, oIload 2 128), (128, oIload 3 129), (129, oCallSV 3 f_X9_smallestIn 132), (132, oIstore 5 8 134), (134, oAload 0 135), (135, oGetR 9 4 138), (138, oIload 2 139), (139, oIload 3 140), (140, oCallSV 3 f_X9_greatestIn 143), (143, oIload 5 145), (145, oBin (fun x y => x - y) 146), (146, oCallSV 1 f_X9_width 149), (149, oIstore 6 8 151), (151, oAload 0 152), (152, oIload 5 154), (154, oConst (nI 10) 156), (156, oCallU 9 2 f_X9_write 159), (159, oAload 0 160), (160, oIload 6 162), (162, oConst (nI 4) 163), (163, oCallU 9 2 f_X9_write 166), (166, oIload 2 167), (167, oIstore 7 8 169), (169, oIload 7 171), (171, oIload 2 172), (172, oIload 3 173), (173, oBin (fun x y => x + y) 174), (174, oIf2 (fun x y => decide (y ≤ x)) 199 177), (177, oAload 0 178), (178, oAload 0 179), (179, oGetR 9 4 182), (182, oIload 7 184), (184, oIald 185), (185, oIload 5 187), (187, oBin (fun x y => x - y) 188), (188, oIload 6 190), (190, oCallU 9 2 f_X9_write 193), (193, oIinc 7 (nI 1) 8 196), (196, oGoto 169), (199, oGoto 274), (202, oAload 0 203), (203, oGetR 9 4 206), (206, oIload 2 207), (207, oIload 3 208), (208, oCallSV 3 f_X9_stepWidth 211), (211, oIstore 5 8 213), (213, oAload 0 214), (214, oAload 0 215), (215, oGetR 9 4 218), (218, oIload 2 219), (219, oIald 220), (220, oConst (nI 10) 222), (222, oCallU 9 2 f_X9_write 225), (225, oAload 0 226), (226, oIload 5 228), (228, oConst (nI 4) 229), (229, oCallU 9 2 f_X9_write 232), (232, oIload 2 233), (233, oConst (nI 1) 234), (234, oBin (fun x y => x + y) 235), (235, oIstore 6 8 237), (237, oIload 6 239), (239, oIload 2 240), (240, oIload 3 241), (241, oBin (fun x y => x + y) 242), (242, oIf2 (fun x y => decide (y ≤ x)) 274 245), (245, oAload 0 246), (246, oAload 0 247), (247, oGetR 9 4 250), (250, oIload 6 252), (252, oIald 253), (253, oAload 0 254), (254, oGetR 9 4 257), (257, oIload 6 259), (259, oConst (nI 1) 260), (260, oBin (fun x y => x - y) 261), (261, oIald 262), (262, oBin (fun x y => x - y) 263), (263, oIload 5 265), (265, oCallU 9 2 f_X9_write 268), (268, oIinc 6 (nI 1) 8 271), (271, oGoto 237), (274, oVret)]
noncomputable def f_X9_writePage : xRun := xrun k_X9_writePage 8
set_option maxHeartbeats 4000000 in
set_option maxRecDepth 100000 in
theorem m_X9_writePage (l : Launch) (g : xG) : xMet l g yX9_writePage cX9_writePage 8 none 5 116 f_X9_writePage := by
  refine xmet_of (own := RX9) (by decide +kernel) rfl (fun p e s m args below meth c r0 C => ?_)
  refine xAll_c (xs_aload_n C dX9_writePage_0 rfl) ?_
  refine xAll_c (xs_iconst C dX9_writePage_1 (by decide)) ?_
  refine xAll_c (xs_putI C dX9_writePage_2 (rfl : vwCl[9]? = some (RX9, TX9, 17)) win9 tyX9_ok nmX9 rfl (by decide) (by decide) rfl rfl (by decide) wm1029) ?_
  refine xAll_c (xs_bipush C dX9_writePage_5 (by decide)) ?_
  refine xAll_c (xs_aload_n C dX9_writePage_7 rfl) ?_
  refine xAll_c (xs_getR C dX9_writePage_8 (rfl : vwCl[9]? = some (RX9, TX9, 17)) win9 rfl (by decide) (by decide) rfl wm1021) ?_
  refine xAll_c (xs_iload_n C dX9_writePage_11 rfl) ?_
  refine xAll_c (xs_callSV C (m_X9_firstOf l g) dX9_writePage_12 rfl ⟨(by decide), (by decide), by decide +kernel⟩ wm1143 wm1144 wm10 wm1145 ⟨Nat.le_of_ble_eq_true rfl, Nat.le_of_ble_eq_true rfl⟩) ?_
  refine xAll_c (xs_iadd C dX9_writePage_15) ?_
  refine xAll_c (xs_istore_n C dX9_writePage_16 rfl) ?_
  refine xAll_c (xs_aload_n C dX9_writePage_17 rfl) ?_
  refine xAll_c (xs_getR C dX9_writePage_18 (rfl : vwCl[9]? = some (RX9, TX9, 17)) win9 rfl (by decide) (by decide) rfl wm1021) ?_
  refine xAll_c (xs_iconst C dX9_writePage_21 (by decide)) ?_
  refine xAll_c (xs_iload_n C dX9_writePage_22 rfl) ?_
  refine xAll_c (xs_iadd C dX9_writePage_23) ?_
  refine xAll_c (xs_iald C dX9_writePage_24) ?_
  refine xAll_c (xs_istore_n C dX9_writePage_25 rfl) ?_
  refine xAll_c (xs_aload_n C dX9_writePage_26 rfl) ?_
  refine xAll_c (xs_getR C dX9_writePage_27 (rfl : vwCl[9]? = some (RX9, TX9, 17)) win9 rfl (by decide) (by decide) rfl wm1021) ?_
  refine xAll_c (xs_iload_n C dX9_writePage_30 rfl) ?_
  refine xAll_c (xs_callSV C (m_X9_codingOf l g) dX9_writePage_31 rfl ⟨(by decide), (by decide), by decide +kernel⟩ wm1193 wm1194 wm10 wm1195 ⟨Nat.le_of_ble_eq_true rfl, Nat.le_of_ble_eq_true rfl⟩) ?_
  refine xAll_c (xs_istore C dX9_writePage_34) ?_
  refine xAll_c (xs_aload_n C dX9_writePage_36 rfl) ?_
  refine xAll_c (xs_iload C dX9_writePage_37) ?_
  refine xAll_c (xs_iconst C dX9_writePage_39 (by decide)) ?_
  refine xAll_c (xs_callU C (m_X9_write l g) dX9_writePage_40 (rfl : vwCl[9]? = some (RX9, TX9, 17)) (by decide) rfl ⟨(by decide), (by decide), by decide +kernel⟩ wm1204 wm1206 wp41 wm10 wm1207 ⟨Nat.le_of_ble_eq_true rfl, Nat.le_of_ble_eq_true rfl⟩) ?_
  refine xAll_c (xs_aload_n C dX9_writePage_43 rfl) ?_
  refine xAll_c (xs_iload_n C dX9_writePage_44 rfl) ?_
  refine xAll_c (xs_iconst C dX9_writePage_45 (by decide)) ?_
  refine xAll_c (xs_callU C (m_X9_write l g) dX9_writePage_46 (rfl : vwCl[9]? = some (RX9, TX9, 17)) (by decide) rfl ⟨(by decide), (by decide), by decide +kernel⟩ wm1204 wm1206 wp41 wm10 wm1207 ⟨Nat.le_of_ble_eq_true rfl, Nat.le_of_ble_eq_true rfl⟩) ?_
  refine xAll_c (xs_iload C dX9_writePage_49) ?_
  refine xAll_c (xs_iconst C dX9_writePage_51 (by decide)) ?_
  refine xAll_c (xs_icmp_ne C dX9_writePage_52 (by decide)) ?_
  refine xAll_c (xs_aload_n C dX9_writePage_55 rfl) ?_
  refine xAll_c (xs_iload_n C dX9_writePage_56 rfl) ?_
  refine xAll_c (xs_iload_n C dX9_writePage_57 rfl) ?_
  refine xAll_c (xs_callU C (m_X9_writeWords l g) dX9_writePage_58 (rfl : vwCl[9]? = some (RX9, TX9, 17)) (by decide) rfl ⟨(by decide), (by decide), by decide +kernel⟩ wm1208 wm1210 wp42 wm10 wm1211 ⟨Nat.le_of_ble_eq_true rfl, Nat.le_of_ble_eq_true rfl⟩) ?_
  refine xAll_c (xs_goto C dX9_writePage_61 (by decide)) ?_
  refine xAll_c (xs_iload C dX9_writePage_64) ?_
  refine xAll_c (xs_iconst C dX9_writePage_66 (by decide)) ?_
  refine xAll_c (xs_icmp_ne C dX9_writePage_67 (by decide)) ?_
  refine xAll_c (xs_aload_n C dX9_writePage_70 rfl) ?_
  refine xAll_c (xs_iload_n C dX9_writePage_71 rfl) ?_
  refine xAll_c (xs_iload_n C dX9_writePage_72 rfl) ?_
  refine xAll_c (xs_callU C (m_X9_writeRuns l g) dX9_writePage_73 (rfl : vwCl[9]? = some (RX9, TX9, 17)) (by decide) rfl ⟨(by decide), (by decide), by decide +kernel⟩ wm1215 wm1217 wp43 wm10 wm1218 ⟨Nat.le_of_ble_eq_true rfl, Nat.le_of_ble_eq_true rfl⟩) ?_
  refine xAll_c (xs_goto C dX9_writePage_76 (by decide)) ?_
  refine xAll_c (xs_iload C dX9_writePage_79) ?_
  refine xAll_c (xs_if_ne C dX9_writePage_81 (by decide)) ?_
  refine xAll_c (xs_iload_n C dX9_writePage_84 rfl) ?_
  refine xAll_c (xs_istore C dX9_writePage_85) ?_
  refine xAll_c (xs_iload C dX9_writePage_87) ?_
  refine xAll_c (xs_iload_n C dX9_writePage_89 rfl) ?_
  refine xAll_c (xs_iload_n C dX9_writePage_90 rfl) ?_
  refine xAll_c (xs_iadd C dX9_writePage_91) ?_
  refine xAll_c (xs_icmp_ge C dX9_writePage_92 (by decide)) ?_
  refine xAll_c (xs_aload_n C dX9_writePage_95 rfl) ?_
  refine xAll_c (xs_aload_n C dX9_writePage_96 rfl) ?_
  refine xAll_c (xs_getR C dX9_writePage_97 (rfl : vwCl[9]? = some (RX9, TX9, 17)) win9 rfl (by decide) (by decide) rfl wm1021) ?_
  refine xAll_c (xs_iload C dX9_writePage_100) ?_
  refine xAll_c (xs_iald C dX9_writePage_102) ?_
  refine xAll_c (xs_bipush C dX9_writePage_103 (by decide)) ?_
  refine xAll_c (xs_callU C (m_X9_write l g) dX9_writePage_105 (rfl : vwCl[9]? = some (RX9, TX9, 17)) (by decide) rfl ⟨(by decide), (by decide), by decide +kernel⟩ wm1204 wm1206 wp41 wm10 wm1207 ⟨Nat.le_of_ble_eq_true rfl, Nat.le_of_ble_eq_true rfl⟩) ?_
  refine xAll_c (xs_iinc C dX9_writePage_108 rfl) ?_
  refine xAll_c (xs_goto C dX9_writePage_111 (by decide)) ?_
  refine xAll_c (xs_goto C dX9_writePage_114 (by decide)) ?_
  refine xAll_c (xs_iload C dX9_writePage_117) ?_
  refine xAll_c (xs_iconst C dX9_writePage_119 (by decide)) ?_
  refine xAll_c (xs_icmp_ne C dX9_writePage_120 (by decide)) ?_
  refine xAll_c (xs_aload_n C dX9_writePage_123 rfl) ?_
  refine xAll_c (xs_getR C dX9_writePage_124 (rfl : vwCl[9]? = some (RX9, TX9, 17)) win9 rfl (by decide) (by decide) rfl wm1021) ?_
  refine xAll_c (xs_iload_n C dX9_writePage_127 rfl) ?_
  refine xAll_c (xs_iload_n C dX9_writePage_128 rfl) ?_
  refine xAll_c (xs_callSV C (m_X9_smallestIn l g) dX9_writePage_129 rfl ⟨(by decide), (by decide), by decide +kernel⟩ wm1173 wm1174 wm10 wm1175 ⟨Nat.le_of_ble_eq_true rfl, Nat.le_of_ble_eq_true rfl⟩) ?_
  refine xAll_c (xs_istore C dX9_writePage_132) ?_
  refine xAll_c (xs_aload_n C dX9_writePage_134 rfl) ?_
  refine xAll_c (xs_getR C dX9_writePage_135 (rfl : vwCl[9]? = some (RX9, TX9, 17)) win9 rfl (by decide) (by decide) rfl wm1021) ?_
  refine xAll_c (xs_iload_n C dX9_writePage_138 rfl) ?_
  refine xAll_c (xs_iload_n C dX9_writePage_139 rfl) ?_
  refine xAll_c (xs_callSV C (m_X9_greatestIn l g) dX9_writePage_140 rfl ⟨(by decide), (by decide), by decide +kernel⟩ wm1170 wm1171 wm10 wm1172 ⟨Nat.le_of_ble_eq_true rfl, Nat.le_of_ble_eq_true rfl⟩) ?_
  refine xAll_c (xs_iload C dX9_writePage_143) ?_
  refine xAll_c (xs_isub C dX9_writePage_145) ?_
  refine xAll_c (xs_callSV C (m_X9_width l g) dX9_writePage_146 rfl ⟨(by decide), (by decide), by decide +kernel⟩ wm1120 wm1121 wm10 wm1122 ⟨Nat.le_of_ble_eq_true rfl, Nat.le_of_ble_eq_true rfl⟩) ?_
  refine xAll_c (xs_istore C dX9_writePage_149) ?_
  refine xAll_c (xs_aload_n C dX9_writePage_151 rfl) ?_
  refine xAll_c (xs_iload C dX9_writePage_152) ?_
  refine xAll_c (xs_bipush C dX9_writePage_154 (by decide)) ?_
  refine xAll_c (xs_callU C (m_X9_write l g) dX9_writePage_156 (rfl : vwCl[9]? = some (RX9, TX9, 17)) (by decide) rfl ⟨(by decide), (by decide), by decide +kernel⟩ wm1204 wm1206 wp41 wm10 wm1207 ⟨Nat.le_of_ble_eq_true rfl, Nat.le_of_ble_eq_true rfl⟩) ?_
  refine xAll_c (xs_aload_n C dX9_writePage_159 rfl) ?_
  refine xAll_c (xs_iload C dX9_writePage_160) ?_
  refine xAll_c (xs_iconst C dX9_writePage_162 (by decide)) ?_
  refine xAll_c (xs_callU C (m_X9_write l g) dX9_writePage_163 (rfl : vwCl[9]? = some (RX9, TX9, 17)) (by decide) rfl ⟨(by decide), (by decide), by decide +kernel⟩ wm1204 wm1206 wp41 wm10 wm1207 ⟨Nat.le_of_ble_eq_true rfl, Nat.le_of_ble_eq_true rfl⟩) ?_
  refine xAll_c (xs_iload_n C dX9_writePage_166 rfl) ?_
  refine xAll_c (xs_istore C dX9_writePage_167) ?_
  refine xAll_c (xs_iload C dX9_writePage_169) ?_
  refine xAll_c (xs_iload_n C dX9_writePage_171 rfl) ?_
  refine xAll_c (xs_iload_n C dX9_writePage_172 rfl) ?_
  refine xAll_c (xs_iadd C dX9_writePage_173) ?_
  refine xAll_c (xs_icmp_ge C dX9_writePage_174 (by decide)) ?_
  refine xAll_c (xs_aload_n C dX9_writePage_177 rfl) ?_
  refine xAll_c (xs_aload_n C dX9_writePage_178 rfl) ?_
  refine xAll_c (xs_getR C dX9_writePage_179 (rfl : vwCl[9]? = some (RX9, TX9, 17)) win9 rfl (by decide) (by decide) rfl wm1021) ?_
  refine xAll_c (xs_iload C dX9_writePage_182) ?_
  refine xAll_c (xs_iald C dX9_writePage_184) ?_
  refine xAll_c (xs_iload C dX9_writePage_185) ?_
  refine xAll_c (xs_isub C dX9_writePage_187) ?_
  refine xAll_c (xs_iload C dX9_writePage_188) ?_
  refine xAll_c (xs_callU C (m_X9_write l g) dX9_writePage_190 (rfl : vwCl[9]? = some (RX9, TX9, 17)) (by decide) rfl ⟨(by decide), (by decide), by decide +kernel⟩ wm1204 wm1206 wp41 wm10 wm1207 ⟨Nat.le_of_ble_eq_true rfl, Nat.le_of_ble_eq_true rfl⟩) ?_
  refine xAll_c (xs_iinc C dX9_writePage_193 rfl) ?_
  refine xAll_c (xs_goto C dX9_writePage_196 (by decide)) ?_
  refine xAll_c (xs_goto C dX9_writePage_199 (by decide)) ?_
  refine xAll_c (xs_aload_n C dX9_writePage_202 rfl) ?_
  refine xAll_c (xs_getR C dX9_writePage_203 (rfl : vwCl[9]? = some (RX9, TX9, 17)) win9 rfl (by decide) (by decide) rfl wm1021) ?_
  refine xAll_c (xs_iload_n C dX9_writePage_206 rfl) ?_
  refine xAll_c (xs_iload_n C dX9_writePage_207 rfl) ?_
  refine xAll_c (xs_callSV C (m_X9_stepWidth l g) dX9_writePage_208 rfl ⟨(by decide), (by decide), by decide +kernel⟩ wm1176 wm1177 wm10 wm1178 ⟨Nat.le_of_ble_eq_true rfl, Nat.le_of_ble_eq_true rfl⟩) ?_
  refine xAll_c (xs_istore C dX9_writePage_211) ?_
  refine xAll_c (xs_aload_n C dX9_writePage_213 rfl) ?_
  refine xAll_c (xs_aload_n C dX9_writePage_214 rfl) ?_
  refine xAll_c (xs_getR C dX9_writePage_215 (rfl : vwCl[9]? = some (RX9, TX9, 17)) win9 rfl (by decide) (by decide) rfl wm1021) ?_
  refine xAll_c (xs_iload_n C dX9_writePage_218 rfl) ?_
  refine xAll_c (xs_iald C dX9_writePage_219) ?_
  refine xAll_c (xs_bipush C dX9_writePage_220 (by decide)) ?_
  refine xAll_c (xs_callU C (m_X9_write l g) dX9_writePage_222 (rfl : vwCl[9]? = some (RX9, TX9, 17)) (by decide) rfl ⟨(by decide), (by decide), by decide +kernel⟩ wm1204 wm1206 wp41 wm10 wm1207 ⟨Nat.le_of_ble_eq_true rfl, Nat.le_of_ble_eq_true rfl⟩) ?_
  refine xAll_c (xs_aload_n C dX9_writePage_225 rfl) ?_
  refine xAll_c (xs_iload C dX9_writePage_226) ?_
  refine xAll_c (xs_iconst C dX9_writePage_228 (by decide)) ?_
  refine xAll_c (xs_callU C (m_X9_write l g) dX9_writePage_229 (rfl : vwCl[9]? = some (RX9, TX9, 17)) (by decide) rfl ⟨(by decide), (by decide), by decide +kernel⟩ wm1204 wm1206 wp41 wm10 wm1207 ⟨Nat.le_of_ble_eq_true rfl, Nat.le_of_ble_eq_true rfl⟩) ?_
  refine xAll_c (xs_iload_n C dX9_writePage_232 rfl) ?_
  refine xAll_c (xs_iconst C dX9_writePage_233 (by decide)) ?_
  refine xAll_c (xs_iadd C dX9_writePage_234) ?_
  refine xAll_c (xs_istore C dX9_writePage_235) ?_
  refine xAll_c (xs_iload C dX9_writePage_237) ?_
  refine xAll_c (xs_iload_n C dX9_writePage_239 rfl) ?_
  refine xAll_c (xs_iload_n C dX9_writePage_240 rfl) ?_
  refine xAll_c (xs_iadd C dX9_writePage_241) ?_
  refine xAll_c (xs_icmp_ge C dX9_writePage_242 (by decide)) ?_
  refine xAll_c (xs_aload_n C dX9_writePage_245 rfl) ?_
  refine xAll_c (xs_aload_n C dX9_writePage_246 rfl) ?_
  refine xAll_c (xs_getR C dX9_writePage_247 (rfl : vwCl[9]? = some (RX9, TX9, 17)) win9 rfl (by decide) (by decide) rfl wm1021) ?_
  refine xAll_c (xs_iload C dX9_writePage_250) ?_
  refine xAll_c (xs_iald C dX9_writePage_252) ?_
  refine xAll_c (xs_aload_n C dX9_writePage_253 rfl) ?_
  refine xAll_c (xs_getR C dX9_writePage_254 (rfl : vwCl[9]? = some (RX9, TX9, 17)) win9 rfl (by decide) (by decide) rfl wm1021) ?_
  refine xAll_c (xs_iload C dX9_writePage_257) ?_
  refine xAll_c (xs_iconst C dX9_writePage_259 (by decide)) ?_
  refine xAll_c (xs_isub C dX9_writePage_260) ?_
  refine xAll_c (xs_iald C dX9_writePage_261) ?_
  refine xAll_c (xs_isub C dX9_writePage_262) ?_
  refine xAll_c (xs_iload C dX9_writePage_263) ?_
  refine xAll_c (xs_callU C (m_X9_write l g) dX9_writePage_265 (rfl : vwCl[9]? = some (RX9, TX9, 17)) (by decide) rfl ⟨(by decide), (by decide), by decide +kernel⟩ wm1204 wm1206 wp41 wm10 wm1207 ⟨Nat.le_of_ble_eq_true rfl, Nat.le_of_ble_eq_true rfl⟩) ?_
  refine xAll_c (xs_iinc C dX9_writePage_268 rfl) ?_
  refine xAll_c (xs_goto C dX9_writePage_271 (by decide)) ?_
  refine xAll_c (xs_vret C dX9_writePage_274 rfl) ?_
  exact trivial
noncomputable def k_X9_append : xCode := [(0, oAload 0 1), (1, oIload 1 2), (2, oI2l 3), (3, oLconst (0) 4), (4, oLconst (255) 7), (7, oCallSV 3 f_X9_in 10), (10, oIf1 (fun x => !(decide (x = 0))) 17 13), (13, oConst (nI 1) 14), (14, oGoto 32), (17, oAload 0 18), (18, oGetI 9 2 21), (21, oConst (nI 160) 24), (24, oIf2 (fun x y => !(decide (x = y))) 31 27), (27, oConst (nI 2) 28), (28, oGoto 32), (31, oConst (nI 0) 32), (32, oCallV 9 1 f_X9_refused 35), (35, oIf1 (fun x => decide (x = 0)) 40 38), (38, oConst (nI 0) 39), (39, oIret), (40, oAload 0 41), (41, oGetR 9 1 44), (44, oAload 0 45), (45, oGetI 9 2 48), (48, oIload 1 49), (49, oIast 50), (50, oAload 0 51), (51, oDup 52), (52, oGetI 9 2 55), (55, oConst (nI 1) 56), (56, oBin (fun x y => x + y) 57), (57, oPutI 9 2 60), (60, oAload 0 61), (61, oGetI 9 2 64), (64, oIret)]
noncomputable def f_X9_append : xRun := xrun k_X9_append 2
set_option maxHeartbeats 4000000 in
set_option maxRecDepth 100000 in
theorem m_X9_append (l : Launch) (g : xG) : xMet l g yX9_append cX9_append 2 (some .int) 1 25 f_X9_append := by
  refine xmet_of (own := RX9) (by decide +kernel) rfl (fun p e s m args below meth c r0 C => ?_)
  refine xAll_c (xs_aload_n C dX9_append_0 rfl) ?_
  refine xAll_c (xs_iload_n C dX9_append_1 rfl) ?_
  refine xAll_c (xs_i2l C dX9_append_2) ?_
  refine xAll_c (xs_lconst C dX9_append_3 (by decide)) ?_
  refine xAll_c (xs_ldc2 C dX9_append_4 wm1078) ?_
  refine xAll_c (xs_callSV C (m_X9_in l g) dX9_append_7 rfl ⟨(by decide), (by decide), by decide +kernel⟩ wm1079 wm1080 wm10 wm1081 ⟨Nat.le_of_ble_eq_true rfl, Nat.le_of_ble_eq_true rfl⟩) ?_
  refine xAll_c (xs_if_ne C dX9_append_10 (by decide)) ?_
  refine xAll_c (xs_iconst C dX9_append_13 (by decide)) ?_
  refine xAll_c (xs_goto C dX9_append_14 (by decide)) ?_
  refine xAll_c (xs_aload_n C dX9_append_17 rfl) ?_
  refine xAll_c (xs_getI C dX9_append_18 (rfl : vwCl[9]? = some (RX9, TX9, 17)) win9 rfl (by decide) (by decide) rfl wm1019) ?_
  refine xAll_c (xs_sipush C dX9_append_21 (by decide)) ?_
  refine xAll_c (xs_icmp_ne C dX9_append_24 (by decide)) ?_
  refine xAll_c (xs_iconst C dX9_append_27 (by decide)) ?_
  refine xAll_c (xs_goto C dX9_append_28 (by decide)) ?_
  refine xAll_c (xs_iconst C dX9_append_31 (by decide)) ?_
  refine xAll_c (xs_callV C (m_X9_refused l g) dX9_append_32 (rfl : vwCl[9]? = some (RX9, TX9, 17)) (by decide) rfl ⟨(by decide), (by decide), by decide +kernel⟩ wm1082 wm1084 wp31 wm10 wm1085 ⟨Nat.le_of_ble_eq_true rfl, Nat.le_of_ble_eq_true rfl⟩) ?_
  refine xAll_c (xs_if_eq C dX9_append_35 (by decide)) ?_
  refine xAll_c (xs_iconst C dX9_append_38 (by decide)) ?_
  refine xAll_c (xs_iret C dX9_append_39 rfl) ?_
  refine xAll_c (xs_aload_n C dX9_append_40 rfl) ?_
  refine xAll_c (xs_getR C dX9_append_41 (rfl : vwCl[9]? = some (RX9, TX9, 17)) win9 rfl (by decide) (by decide) rfl wm1018) ?_
  refine xAll_c (xs_aload_n C dX9_append_44 rfl) ?_
  refine xAll_c (xs_getI C dX9_append_45 (rfl : vwCl[9]? = some (RX9, TX9, 17)) win9 rfl (by decide) (by decide) rfl wm1019) ?_
  refine xAll_c (xs_iload_n C dX9_append_48 rfl) ?_
  refine xAll_c (xs_iast C dX9_append_49) ?_
  refine xAll_c (xs_aload_n C dX9_append_50 rfl) ?_
  refine xAll_c (xs_dup C dX9_append_51) ?_
  refine xAll_c (xs_getI C dX9_append_52 (rfl : vwCl[9]? = some (RX9, TX9, 17)) win9 rfl (by decide) (by decide) rfl wm1019) ?_
  refine xAll_c (xs_iconst C dX9_append_55 (by decide)) ?_
  refine xAll_c (xs_iadd C dX9_append_56) ?_
  refine xAll_c (xs_putI C dX9_append_57 (rfl : vwCl[9]? = some (RX9, TX9, 17)) win9 tyX9_ok nmX9 rfl (by decide) (by decide) rfl rfl (by decide) wm1019) ?_
  refine xAll_c (xs_aload_n C dX9_append_60 rfl) ?_
  refine xAll_c (xs_getI C dX9_append_61 (rfl : vwCl[9]? = some (RX9, TX9, 17)) win9 rfl (by decide) (by decide) rfl wm1019) ?_
  refine xAll_c (xs_iret C dX9_append_64 rfl) ?_
  exact trivial
noncomputable def k_X9_clearText : xCode := [(0, oAload 0 1), (1, oGetI 9 2 4), (4, oIstore 1 2 5), (5, oAload 0 6), (6, oConst (nI 0) 7), (7, oPutI 9 2 10), (10, oIload 1 11), (11, oIret)]
noncomputable def f_X9_clearText : xRun := xrun k_X9_clearText 2
set_option maxHeartbeats 4000000 in
set_option maxRecDepth 100000 in
theorem m_X9_clearText (l : Launch) (g : xG) : xMet l g yX9_clearText cX9_clearText 2 (some .int) 0 0 f_X9_clearText := by
  refine xmet_of (own := RX9) (by decide +kernel) rfl (fun p e s m args below meth c r0 C => ?_)
  refine xAll_c (xs_aload_n C dX9_clearText_0 rfl) ?_
  refine xAll_c (xs_getI C dX9_clearText_1 (rfl : vwCl[9]? = some (RX9, TX9, 17)) win9 rfl (by decide) (by decide) rfl wm1019) ?_
  refine xAll_c (xs_istore_n C dX9_clearText_4 rfl) ?_
  refine xAll_c (xs_aload_n C dX9_clearText_5 rfl) ?_
  refine xAll_c (xs_iconst C dX9_clearText_6 (by decide)) ?_
  refine xAll_c (xs_putI C dX9_clearText_7 (rfl : vwCl[9]? = some (RX9, TX9, 17)) win9 tyX9_ok nmX9 rfl (by decide) (by decide) rfl rfl (by decide) wm1019) ?_
  refine xAll_c (xs_iload_n C dX9_clearText_10 rfl) ?_
  refine xAll_c (xs_iret C dX9_clearText_11 rfl) ?_
  exact trivial
noncomputable def k_X9_number : xCode := [(0, oConst (nI 0) 1), (1, oIstore 6 11 3), (3, oIload 1 4), (4, oConst (nI 1) 5), (5, oBin (fun x y => x - y) 6), (6, oIstore 7 11 8), (8, oIload 7 10), (10, oIf1 (fun x => decide (x < 0)) 139 13), (13, oAload 0 14), (14, oGetI 9 3 17), (17, oAload 0 18), (18, oGetI 9 2 21), (21, oIf2 (fun x y => decide (y ≤ x)) 39 24), (24, oAload 0 25), (25, oGetR 9 1 28), (28, oAload 0 29), (29, oGetI 9 3 32), (32, oIald 33), (33, oConst (nI 48) 35), (35, oBin (fun x y => x - y) 36), (36, oGoto 42), (39, oConst (-9999) 42), (42, oIstore 8 11 44), (44, oConst (nI 2) 45), (45, oIload 6 47), (47, oBin (fun x y => x * y) 48), (48, oIload 8 50), (50, oBin (fun x y => x + y) 51), (51, oIload 7 53), (53, oBin (fun x y => x <<< (y &&& 31)) 54), (54, oIstore 9 11 56), (56, oIload 9 58), (58, oConst (nI 1) 59), (59, oIload 7 61), (61, oBin (fun x y => x <<< (y &&& 31)) 62), (62, oBin (fun x y => x + y) 63), (63, oConst (nI 1) 64), (64, oBin (fun x y => x - y) 65), (65, oIstore 10 11 67), (67, oIload 8 69), (69, oI2l 70), (70, oLconst (0) 71), (71, oLconst (1) 72), (72, oCallSV 3 f_X9_in 75), (75, oIf1 (fun x => decide (x = 0)) 110 78), (78, oIload 3 79), (79, oIload 10 81), (81, oCallSV 2 f_X9_less 84), (84, oIload 2 85), (85, oIload 9 87), (87, oCallSV 2 f_X9_more 90), (90, oIf2 (fun x y => decide (y ≤ x)) 114 93), (93, oIload 5 95), (95, oIload 10 97), (97, oCallSV 2 f_X9_less 100), (100, oIload 4 102), (102, oIload 9 104), (104, oCallSV 2 f_X9_more 107), (107, oIf2 (fun x y => decide (y ≤ x)) 114 110), (110, oConst (-9999) 113), (113, oIret), (114, oConst (nI 2) 115), (115, oIload 6 117), (117, oBin (fun x y => x * y) 118), (118, oIload 8 120), (120, oBin (fun x y => x + y) 121), (121, oIstore 6 11 123), (123, oAload 0 124), (124, oDup 125), (125, oGetI 9 3 128), (128, oConst (nI 1) 129), (129, oBin (fun x y => x + y) 130), (130, oPutI 9 3 133), (133, oIinc 7 (-1) 11 136), (136, oGoto 8), (139, oIload 6 141), (141, oIret)]
noncomputable def f_X9_number : xRun := xrun k_X9_number 11
set_option maxHeartbeats 4000000 in
set_option maxRecDepth 100000 in
theorem m_X9_number (l : Launch) (g : xG) : xMet l g yX9_number cX9_number 11 (some .int) 1 25 f_X9_number := by
  refine xmet_of (own := RX9) (by decide +kernel) rfl (fun p e s m args below meth c r0 C => ?_)
  refine xAll_c (xs_iconst C dX9_number_0 (by decide)) ?_
  refine xAll_c (xs_istore C dX9_number_1) ?_
  refine xAll_c (xs_iload_n C dX9_number_3 rfl) ?_
  refine xAll_c (xs_iconst C dX9_number_4 (by decide)) ?_
  refine xAll_c (xs_isub C dX9_number_5) ?_
  refine xAll_c (xs_istore C dX9_number_6) ?_
  refine xAll_c (xs_iload C dX9_number_8) ?_
  refine xAll_c (xs_if_lt C dX9_number_10 (by decide)) ?_
  refine xAll_c (xs_aload_n C dX9_number_13 rfl) ?_
  refine xAll_c (xs_getI C dX9_number_14 (rfl : vwCl[9]? = some (RX9, TX9, 17)) win9 rfl (by decide) (by decide) rfl wm1020) ?_
  refine xAll_c (xs_aload_n C dX9_number_17 rfl) ?_
  refine xAll_c (xs_getI C dX9_number_18 (rfl : vwCl[9]? = some (RX9, TX9, 17)) win9 rfl (by decide) (by decide) rfl wm1019) ?_
  refine xAll_c (xs_icmp_ge C dX9_number_21 (by decide)) ?_
  refine xAll_c (xs_aload_n C dX9_number_24 rfl) ?_
  refine xAll_c (xs_getR C dX9_number_25 (rfl : vwCl[9]? = some (RX9, TX9, 17)) win9 rfl (by decide) (by decide) rfl wm1018) ?_
  refine xAll_c (xs_aload_n C dX9_number_28 rfl) ?_
  refine xAll_c (xs_getI C dX9_number_29 (rfl : vwCl[9]? = some (RX9, TX9, 17)) win9 rfl (by decide) (by decide) rfl wm1020) ?_
  refine xAll_c (xs_iald C dX9_number_32) ?_
  refine xAll_c (xs_bipush C dX9_number_33 (by decide)) ?_
  refine xAll_c (xs_isub C dX9_number_35) ?_
  refine xAll_c (xs_goto C dX9_number_36 (by decide)) ?_
  refine xAll_c (xs_sipush C dX9_number_39 (by decide)) ?_
  refine xAll_c (xs_istore C dX9_number_42) ?_
  refine xAll_c (xs_iconst C dX9_number_44 (by decide)) ?_
  refine xAll_c (xs_iload C dX9_number_45) ?_
  refine xAll_c (xs_imul C dX9_number_47) ?_
  refine xAll_c (xs_iload C dX9_number_48) ?_
  refine xAll_c (xs_iadd C dX9_number_50) ?_
  refine xAll_c (xs_iload C dX9_number_51) ?_
  refine xAll_c (xs_ishl C dX9_number_53) ?_
  refine xAll_c (xs_istore C dX9_number_54) ?_
  refine xAll_c (xs_iload C dX9_number_56) ?_
  refine xAll_c (xs_iconst C dX9_number_58 (by decide)) ?_
  refine xAll_c (xs_iload C dX9_number_59) ?_
  refine xAll_c (xs_ishl C dX9_number_61) ?_
  refine xAll_c (xs_iadd C dX9_number_62) ?_
  refine xAll_c (xs_iconst C dX9_number_63 (by decide)) ?_
  refine xAll_c (xs_isub C dX9_number_64) ?_
  refine xAll_c (xs_istore C dX9_number_65) ?_
  refine xAll_c (xs_iload C dX9_number_67) ?_
  refine xAll_c (xs_i2l C dX9_number_69) ?_
  refine xAll_c (xs_lconst C dX9_number_70 (by decide)) ?_
  refine xAll_c (xs_lconst C dX9_number_71 (by decide)) ?_
  refine xAll_c (xs_callSV C (m_X9_in l g) dX9_number_72 rfl ⟨(by decide), (by decide), by decide +kernel⟩ wm1079 wm1080 wm10 wm1081 ⟨Nat.le_of_ble_eq_true rfl, Nat.le_of_ble_eq_true rfl⟩) ?_
  refine xAll_c (xs_if_eq C dX9_number_75 (by decide)) ?_
  refine xAll_c (xs_iload_n C dX9_number_78 rfl) ?_
  refine xAll_c (xs_iload C dX9_number_79) ?_
  refine xAll_c (xs_callSV C (m_X9_less l g) dX9_number_81 rfl ⟨(by decide), (by decide), by decide +kernel⟩ wm1106 wm1107 wm10 wm1108 ⟨Nat.le_of_ble_eq_true rfl, Nat.le_of_ble_eq_true rfl⟩) ?_
  refine xAll_c (xs_iload_n C dX9_number_84 rfl) ?_
  refine xAll_c (xs_iload C dX9_number_85) ?_
  refine xAll_c (xs_callSV C (m_X9_more l g) dX9_number_87 rfl ⟨(by decide), (by decide), by decide +kernel⟩ wm1109 wm1110 wm10 wm1111 ⟨Nat.le_of_ble_eq_true rfl, Nat.le_of_ble_eq_true rfl⟩) ?_
  refine xAll_c (xs_icmp_ge C dX9_number_90 (by decide)) ?_
  refine xAll_c (xs_iload C dX9_number_93) ?_
  refine xAll_c (xs_iload C dX9_number_95) ?_
  refine xAll_c (xs_callSV C (m_X9_less l g) dX9_number_97 rfl ⟨(by decide), (by decide), by decide +kernel⟩ wm1106 wm1107 wm10 wm1108 ⟨Nat.le_of_ble_eq_true rfl, Nat.le_of_ble_eq_true rfl⟩) ?_
  refine xAll_c (xs_iload C dX9_number_100) ?_
  refine xAll_c (xs_iload C dX9_number_102) ?_
  refine xAll_c (xs_callSV C (m_X9_more l g) dX9_number_104 rfl ⟨(by decide), (by decide), by decide +kernel⟩ wm1109 wm1110 wm10 wm1111 ⟨Nat.le_of_ble_eq_true rfl, Nat.le_of_ble_eq_true rfl⟩) ?_
  refine xAll_c (xs_icmp_ge C dX9_number_107 (by decide)) ?_
  refine xAll_c (xs_sipush C dX9_number_110 (by decide)) ?_
  refine xAll_c (xs_iret C dX9_number_113 rfl) ?_
  refine xAll_c (xs_iconst C dX9_number_114 (by decide)) ?_
  refine xAll_c (xs_iload C dX9_number_115) ?_
  refine xAll_c (xs_imul C dX9_number_117) ?_
  refine xAll_c (xs_iload C dX9_number_118) ?_
  refine xAll_c (xs_iadd C dX9_number_120) ?_
  refine xAll_c (xs_istore C dX9_number_121) ?_
  refine xAll_c (xs_aload_n C dX9_number_123 rfl) ?_
  refine xAll_c (xs_dup C dX9_number_124) ?_
  refine xAll_c (xs_getI C dX9_number_125 (rfl : vwCl[9]? = some (RX9, TX9, 17)) win9 rfl (by decide) (by decide) rfl wm1020) ?_
  refine xAll_c (xs_iconst C dX9_number_128 (by decide)) ?_
  refine xAll_c (xs_iadd C dX9_number_129) ?_
  refine xAll_c (xs_putI C dX9_number_130 (rfl : vwCl[9]? = some (RX9, TX9, 17)) win9 tyX9_ok nmX9 rfl (by decide) (by decide) rfl rfl (by decide) wm1020) ?_
  refine xAll_c (xs_iinc C dX9_number_133 rfl) ?_
  refine xAll_c (xs_goto C dX9_number_136 (by decide)) ?_
  refine xAll_c (xs_iload C dX9_number_139) ?_
  refine xAll_c (xs_iret C dX9_number_141 rfl) ?_
  exact trivial
noncomputable def k_X9_numberIn : xCode := [(0, oAload 0 1), (1, oIload 1 2), (2, oIload 2 3), (3, oIload 3 4), (4, oConst (nI 1) 5), (5, oConst (nI 0) 6), (6, oCallV 9 5 f_X9_number 9), (9, oIret)]
noncomputable def f_X9_numberIn : xRun := xrun k_X9_numberIn 4
set_option maxHeartbeats 4000000 in
set_option maxRecDepth 100000 in
theorem m_X9_numberIn (l : Launch) (g : xG) : xMet l g yX9_numberIn cX9_numberIn 4 (some .int) 2 55 f_X9_numberIn := by
  refine xmet_of (own := RX9) (by decide +kernel) rfl (fun p e s m args below meth c r0 C => ?_)
  refine xAll_c (xs_aload_n C dX9_numberIn_0 rfl) ?_
  refine xAll_c (xs_iload_n C dX9_numberIn_1 rfl) ?_
  refine xAll_c (xs_iload_n C dX9_numberIn_2 rfl) ?_
  refine xAll_c (xs_iload_n C dX9_numberIn_3 rfl) ?_
  refine xAll_c (xs_iconst C dX9_numberIn_4 (by decide)) ?_
  refine xAll_c (xs_iconst C dX9_numberIn_5 (by decide)) ?_
  refine xAll_c (xs_callV C (m_X9_number l g) dX9_numberIn_6 (rfl : vwCl[9]? = some (RX9, TX9, 17)) (by decide) rfl ⟨(by decide), (by decide), by decide +kernel⟩ wm1102 wm1104 wp34 wm10 wm1105 ⟨Nat.le_of_ble_eq_true rfl, Nat.le_of_ble_eq_true rfl⟩) ?_
  refine xAll_c (xs_iret C dX9_numberIn_9 rfl) ?_
  exact trivial
noncomputable def k_X9_readPlain : xCode := [(0, oConst (nI 0) 1), (1, oIstore 2 3 2), (2, oIload 2 3), (3, oIload 1 4), (4, oIf2 (fun x y => decide (y ≤ x)) 43 7), (7, oAload 0 8), (8, oGetR 9 13 11), (11, oIload 2 12), (12, oAload 0 13), (13, oConst (nI 10) 15), (15, oConst (nI 0) 16), (16, oConst (nI 1023) 19), (19, oCallV 9 3 f_X9_numberIn 22), (22, oIast 23), (23, oAload 0 24), (24, oGetR 9 13 27), (27, oIload 2 28), (28, oIald 29), (29, oConst (-9999) 32), (32, oIf2 (fun x y => !(decide (x = y))) 37 35), (35, oConst (nI 0) 36), (36, oZret), (37, oIinc 2 (nI 1) 3 40), (40, oGoto 2), (43, oConst (nI 1) 44), (44, oZret)]
noncomputable def f_X9_readPlain : xRun := xrun k_X9_readPlain 3
set_option maxHeartbeats 4000000 in
set_option maxRecDepth 100000 in
theorem m_X9_readPlain (l : Launch) (g : xG) : xMet l g yX9_readPlain cX9_readPlain 3 (some .boolean) 3 78 f_X9_readPlain := by
  refine xmet_of (own := RX9) (by decide +kernel) rfl (fun p e s m args below meth c r0 C => ?_)
  refine xAll_c (xs_iconst C dX9_readPlain_0 (by decide)) ?_
  refine xAll_c (xs_istore_n C dX9_readPlain_1 rfl) ?_
  refine xAll_c (xs_iload_n C dX9_readPlain_2 rfl) ?_
  refine xAll_c (xs_iload_n C dX9_readPlain_3 rfl) ?_
  refine xAll_c (xs_icmp_ge C dX9_readPlain_4 (by decide)) ?_
  refine xAll_c (xs_aload_n C dX9_readPlain_7 rfl) ?_
  refine xAll_c (xs_getR C dX9_readPlain_8 (rfl : vwCl[9]? = some (RX9, TX9, 17)) win9 rfl (by decide) (by decide) rfl wm1030) ?_
  refine xAll_c (xs_iload_n C dX9_readPlain_11 rfl) ?_
  refine xAll_c (xs_aload_n C dX9_readPlain_12 rfl) ?_
  refine xAll_c (xs_bipush C dX9_readPlain_13 (by decide)) ?_
  refine xAll_c (xs_iconst C dX9_readPlain_15 (by decide)) ?_
  refine xAll_c (xs_sipush C dX9_readPlain_16 (by decide)) ?_
  refine xAll_c (xs_callV C (m_X9_numberIn l g) dX9_readPlain_19 (rfl : vwCl[9]? = some (RX9, TX9, 17)) (by decide) rfl ⟨(by decide), (by decide), by decide +kernel⟩ wm1098 wm1100 wp33 wm10 wm1101 ⟨Nat.le_of_ble_eq_true rfl, Nat.le_of_ble_eq_true rfl⟩) ?_
  refine xAll_c (xs_iast C dX9_readPlain_22) ?_
  refine xAll_c (xs_aload_n C dX9_readPlain_23 rfl) ?_
  refine xAll_c (xs_getR C dX9_readPlain_24 (rfl : vwCl[9]? = some (RX9, TX9, 17)) win9 rfl (by decide) (by decide) rfl wm1030) ?_
  refine xAll_c (xs_iload_n C dX9_readPlain_27 rfl) ?_
  refine xAll_c (xs_iald C dX9_readPlain_28) ?_
  refine xAll_c (xs_sipush C dX9_readPlain_29 (by decide)) ?_
  refine xAll_c (xs_icmp_ne C dX9_readPlain_32 (by decide)) ?_
  refine xAll_c (xs_iconst C dX9_readPlain_35 (by decide)) ?_
  refine xAll_c (xs_zret C dX9_readPlain_36 rfl) ?_
  refine xAll_c (xs_iinc C dX9_readPlain_37 rfl) ?_
  refine xAll_c (xs_goto C dX9_readPlain_40 (by decide)) ?_
  refine xAll_c (xs_iconst C dX9_readPlain_43 (by decide)) ?_
  refine xAll_c (xs_zret C dX9_readPlain_44 rfl) ?_
  exact trivial
noncomputable def k_X9_readWords : xCode := [(0, oAload 0 1), (1, oConst (nI 4) 2), (2, oConst (nI 1) 3), (3, oIload 1 4), (4, oCallV 9 3 f_X9_numberIn 7), (7, oIstore 2 5 8), (8, oConst (nI 0) 9), (9, oIstore 3 5 10), (10, oIload 3 11), (11, oIload 2 12), (12, oIf2 (fun x y => decide (y ≤ x)) 51 15), (15, oAload 0 16), (16, oGetR 9 14 19), (19, oIload 3 20), (20, oAload 0 21), (21, oConst (nI 10) 23), (23, oConst (nI 0) 24), (24, oConst (nI 1023) 27), (27, oCallV 9 3 f_X9_numberIn 30), (30, oIast 31), (31, oAload 0 32), (32, oGetR 9 14 35), (35, oIload 3 36), (36, oIald 37), (37, oConst (-9999) 40), (40, oIf2 (fun x y => !(decide (x = y))) 45 43), (43, oConst (nI 0) 44), (44, oZret), (45, oIinc 3 (nI 1) 5 48), (48, oGoto 10), (51, oConst (nI 0) 52), (52, oIstore 3 5 53), (53, oIload 3 54), (54, oIload 1 55), (55, oIf2 (fun x y => decide (y ≤ x)) 110 58), (58, oIload 2 59), (59, oConst (-9999) 62), (62, oIf2 (fun x y => decide (x = y)) 110 65), (65, oAload 0 66), (66, oIload 2 67), (67, oConst (nI 1) 68), (68, oBin (fun x y => x - y) 69), (69, oCallSV 1 f_X9_width 72), (72, oConst (nI 0) 73), (73, oIload 2 74), (74, oConst (nI 1) 75), (75, oBin (fun x y => x - y) 76), (76, oCallV 9 3 f_X9_numberIn 79), (79, oIstore 4 5 81), (81, oIload 4 83), (83, oConst (-9999) 86), (86, oIf2 (fun x y => !(decide (x = y))) 91 89), (89, oConst (nI 0) 90), (90, oZret), (91, oAload 0 92), (92, oGetR 9 13 95), (95, oIload 3 96), (96, oAload 0 97), (97, oGetR 9 14 100), (100, oIload 4 102), (102, oIald 103), (103, oIast 104), (104, oIinc 3 (nI 1) 5 107), (107, oGoto 53), (110, oIload 2 111), (111, oConst (-9999) 114), (114, oIf2 (fun x y => decide (x = y)) 121 117), (117, oConst (nI 1) 118), (118, oGoto 122), (121, oConst (nI 0) 122), (122, oZret)]
noncomputable def f_X9_readWords : xRun := xrun k_X9_readWords 5
set_option maxHeartbeats 4000000 in
set_option maxRecDepth 100000 in
theorem m_X9_readWords (l : Launch) (g : xG) : xMet l g yX9_readWords cX9_readWords 5 (some .boolean) 3 78 f_X9_readWords := by
  refine xmet_of (own := RX9) (by decide +kernel) rfl (fun p e s m args below meth c r0 C => ?_)
  refine xAll_c (xs_aload_n C dX9_readWords_0 rfl) ?_
  refine xAll_c (xs_iconst C dX9_readWords_1 (by decide)) ?_
  refine xAll_c (xs_iconst C dX9_readWords_2 (by decide)) ?_
  refine xAll_c (xs_iload_n C dX9_readWords_3 rfl) ?_
  refine xAll_c (xs_callV C (m_X9_numberIn l g) dX9_readWords_4 (rfl : vwCl[9]? = some (RX9, TX9, 17)) (by decide) rfl ⟨(by decide), (by decide), by decide +kernel⟩ wm1098 wm1100 wp33 wm10 wm1101 ⟨Nat.le_of_ble_eq_true rfl, Nat.le_of_ble_eq_true rfl⟩) ?_
  refine xAll_c (xs_istore_n C dX9_readWords_7 rfl) ?_
  refine xAll_c (xs_iconst C dX9_readWords_8 (by decide)) ?_
  refine xAll_c (xs_istore_n C dX9_readWords_9 rfl) ?_
  refine xAll_c (xs_iload_n C dX9_readWords_10 rfl) ?_
  refine xAll_c (xs_iload_n C dX9_readWords_11 rfl) ?_
  refine xAll_c (xs_icmp_ge C dX9_readWords_12 (by decide)) ?_
  refine xAll_c (xs_aload_n C dX9_readWords_15 rfl) ?_
  refine xAll_c (xs_getR C dX9_readWords_16 (rfl : vwCl[9]? = some (RX9, TX9, 17)) win9 rfl (by decide) (by decide) rfl wm1031) ?_
  refine xAll_c (xs_iload_n C dX9_readWords_19 rfl) ?_
  refine xAll_c (xs_aload_n C dX9_readWords_20 rfl) ?_
  refine xAll_c (xs_bipush C dX9_readWords_21 (by decide)) ?_
  refine xAll_c (xs_iconst C dX9_readWords_23 (by decide)) ?_
  refine xAll_c (xs_sipush C dX9_readWords_24 (by decide)) ?_
  refine xAll_c (xs_callV C (m_X9_numberIn l g) dX9_readWords_27 (rfl : vwCl[9]? = some (RX9, TX9, 17)) (by decide) rfl ⟨(by decide), (by decide), by decide +kernel⟩ wm1098 wm1100 wp33 wm10 wm1101 ⟨Nat.le_of_ble_eq_true rfl, Nat.le_of_ble_eq_true rfl⟩) ?_
  refine xAll_c (xs_iast C dX9_readWords_30) ?_
  refine xAll_c (xs_aload_n C dX9_readWords_31 rfl) ?_
  refine xAll_c (xs_getR C dX9_readWords_32 (rfl : vwCl[9]? = some (RX9, TX9, 17)) win9 rfl (by decide) (by decide) rfl wm1031) ?_
  refine xAll_c (xs_iload_n C dX9_readWords_35 rfl) ?_
  refine xAll_c (xs_iald C dX9_readWords_36) ?_
  refine xAll_c (xs_sipush C dX9_readWords_37 (by decide)) ?_
  refine xAll_c (xs_icmp_ne C dX9_readWords_40 (by decide)) ?_
  refine xAll_c (xs_iconst C dX9_readWords_43 (by decide)) ?_
  refine xAll_c (xs_zret C dX9_readWords_44 rfl) ?_
  refine xAll_c (xs_iinc C dX9_readWords_45 rfl) ?_
  refine xAll_c (xs_goto C dX9_readWords_48 (by decide)) ?_
  refine xAll_c (xs_iconst C dX9_readWords_51 (by decide)) ?_
  refine xAll_c (xs_istore_n C dX9_readWords_52 rfl) ?_
  refine xAll_c (xs_iload_n C dX9_readWords_53 rfl) ?_
  refine xAll_c (xs_iload_n C dX9_readWords_54 rfl) ?_
  refine xAll_c (xs_icmp_ge C dX9_readWords_55 (by decide)) ?_
  refine xAll_c (xs_iload_n C dX9_readWords_58 rfl) ?_
  refine xAll_c (xs_sipush C dX9_readWords_59 (by decide)) ?_
  refine xAll_c (xs_icmp_eq C dX9_readWords_62 (by decide)) ?_
  refine xAll_c (xs_aload_n C dX9_readWords_65 rfl) ?_
  refine xAll_c (xs_iload_n C dX9_readWords_66 rfl) ?_
  refine xAll_c (xs_iconst C dX9_readWords_67 (by decide)) ?_
  refine xAll_c (xs_isub C dX9_readWords_68) ?_
  refine xAll_c (xs_callSV C (m_X9_width l g) dX9_readWords_69 rfl ⟨(by decide), (by decide), by decide +kernel⟩ wm1120 wm1121 wm10 wm1122 ⟨Nat.le_of_ble_eq_true rfl, Nat.le_of_ble_eq_true rfl⟩) ?_
  refine xAll_c (xs_iconst C dX9_readWords_72 (by decide)) ?_
  refine xAll_c (xs_iload_n C dX9_readWords_73 rfl) ?_
  refine xAll_c (xs_iconst C dX9_readWords_74 (by decide)) ?_
  refine xAll_c (xs_isub C dX9_readWords_75) ?_
  refine xAll_c (xs_callV C (m_X9_numberIn l g) dX9_readWords_76 (rfl : vwCl[9]? = some (RX9, TX9, 17)) (by decide) rfl ⟨(by decide), (by decide), by decide +kernel⟩ wm1098 wm1100 wp33 wm10 wm1101 ⟨Nat.le_of_ble_eq_true rfl, Nat.le_of_ble_eq_true rfl⟩) ?_
  refine xAll_c (xs_istore C dX9_readWords_79) ?_
  refine xAll_c (xs_iload C dX9_readWords_81) ?_
  refine xAll_c (xs_sipush C dX9_readWords_83 (by decide)) ?_
  refine xAll_c (xs_icmp_ne C dX9_readWords_86 (by decide)) ?_
  refine xAll_c (xs_iconst C dX9_readWords_89 (by decide)) ?_
  refine xAll_c (xs_zret C dX9_readWords_90 rfl) ?_
  refine xAll_c (xs_aload_n C dX9_readWords_91 rfl) ?_
  refine xAll_c (xs_getR C dX9_readWords_92 (rfl : vwCl[9]? = some (RX9, TX9, 17)) win9 rfl (by decide) (by decide) rfl wm1030) ?_
  refine xAll_c (xs_iload_n C dX9_readWords_95 rfl) ?_
  refine xAll_c (xs_aload_n C dX9_readWords_96 rfl) ?_
  refine xAll_c (xs_getR C dX9_readWords_97 (rfl : vwCl[9]? = some (RX9, TX9, 17)) win9 rfl (by decide) (by decide) rfl wm1031) ?_
  refine xAll_c (xs_iload C dX9_readWords_100) ?_
  refine xAll_c (xs_iald C dX9_readWords_102) ?_
  refine xAll_c (xs_iast C dX9_readWords_103) ?_
  refine xAll_c (xs_iinc C dX9_readWords_104 rfl) ?_
  refine xAll_c (xs_goto C dX9_readWords_107 (by decide)) ?_
  refine xAll_c (xs_iload_n C dX9_readWords_110 rfl) ?_
  refine xAll_c (xs_sipush C dX9_readWords_111 (by decide)) ?_
  refine xAll_c (xs_icmp_eq C dX9_readWords_114 (by decide)) ?_
  refine xAll_c (xs_iconst C dX9_readWords_117 (by decide)) ?_
  refine xAll_c (xs_goto C dX9_readWords_118 (by decide)) ?_
  refine xAll_c (xs_iconst C dX9_readWords_121 (by decide)) ?_
  refine xAll_c (xs_zret C dX9_readWords_122 rfl) ?_
  exact trivial
noncomputable def k_X9_readRuns : xCode := [(0, oConst (nI 0) 1), (1, oIstore 2 6 2), (2, oIload 2 3), (3, oIload 1 4), (4, oIf2 (fun x y => decide (y ≤ x)) 81 7), (7, oAload 0 8), (8, oConst (nI 10) 10), (10, oConst (nI 0) 11), (11, oConst (nI 1023) 14), (14, oCallV 9 3 f_X9_numberIn 17), (17, oIstore 3 6 18), (18, oIload 3 19), (19, oConst (-9999) 22), (22, oIf2 (fun x y => !(decide (x = y))) 31 25), (25, oConst (-9999) 28), (28, oGoto 40), (31, oAload 0 32), (32, oConst (nI 4) 33), (33, oConst (nI 1) 34), (34, oIload 1 35), (35, oIload 2 36), (36, oBin (fun x y => x - y) 37), (37, oCallV 9 3 f_X9_numberIn 40), (40, oIstore 4 6 42), (42, oIload 4 44), (44, oConst (-9999) 47), (47, oIf2 (fun x y => !(decide (x = y))) 52 50), (50, oConst (nI 0) 51), (51, oZret), (52, oConst (nI 0) 53), (53, oIstore 5 6 55), (55, oIload 5 57), (57, oIload 4 59), (59, oIf2 (fun x y => decide (y ≤ x)) 78 62), (62, oAload 0 63), (63, oGetR 9 13 66), (66, oIload 2 67), (67, oIload 3 68), (68, oIast 69), (69, oIinc 2 (nI 1) 6 72), (72, oIinc 5 (nI 1) 6 75), (75, oGoto 55), (78, oGoto 2), (81, oConst (nI 1) 82), (82, oZret)]
noncomputable def f_X9_readRuns : xRun := xrun k_X9_readRuns 6
set_option maxHeartbeats 4000000 in
set_option maxRecDepth 100000 in
theorem m_X9_readRuns (l : Launch) (g : xG) : xMet l g yX9_readRuns cX9_readRuns 6 (some .boolean) 3 78 f_X9_readRuns := by
  refine xmet_of (own := RX9) (by decide +kernel) rfl (fun p e s m args below meth c r0 C => ?_)
  refine xAll_c (xs_iconst C dX9_readRuns_0 (by decide)) ?_
  refine xAll_c (xs_istore_n C dX9_readRuns_1 rfl) ?_
  refine xAll_c (xs_iload_n C dX9_readRuns_2 rfl) ?_
  refine xAll_c (xs_iload_n C dX9_readRuns_3 rfl) ?_
  refine xAll_c (xs_icmp_ge C dX9_readRuns_4 (by decide)) ?_
  refine xAll_c (xs_aload_n C dX9_readRuns_7 rfl) ?_
  refine xAll_c (xs_bipush C dX9_readRuns_8 (by decide)) ?_
  refine xAll_c (xs_iconst C dX9_readRuns_10 (by decide)) ?_
  refine xAll_c (xs_sipush C dX9_readRuns_11 (by decide)) ?_
  refine xAll_c (xs_callV C (m_X9_numberIn l g) dX9_readRuns_14 (rfl : vwCl[9]? = some (RX9, TX9, 17)) (by decide) rfl ⟨(by decide), (by decide), by decide +kernel⟩ wm1098 wm1100 wp33 wm10 wm1101 ⟨Nat.le_of_ble_eq_true rfl, Nat.le_of_ble_eq_true rfl⟩) ?_
  refine xAll_c (xs_istore_n C dX9_readRuns_17 rfl) ?_
  refine xAll_c (xs_iload_n C dX9_readRuns_18 rfl) ?_
  refine xAll_c (xs_sipush C dX9_readRuns_19 (by decide)) ?_
  refine xAll_c (xs_icmp_ne C dX9_readRuns_22 (by decide)) ?_
  refine xAll_c (xs_sipush C dX9_readRuns_25 (by decide)) ?_
  refine xAll_c (xs_goto C dX9_readRuns_28 (by decide)) ?_
  refine xAll_c (xs_aload_n C dX9_readRuns_31 rfl) ?_
  refine xAll_c (xs_iconst C dX9_readRuns_32 (by decide)) ?_
  refine xAll_c (xs_iconst C dX9_readRuns_33 (by decide)) ?_
  refine xAll_c (xs_iload_n C dX9_readRuns_34 rfl) ?_
  refine xAll_c (xs_iload_n C dX9_readRuns_35 rfl) ?_
  refine xAll_c (xs_isub C dX9_readRuns_36) ?_
  refine xAll_c (xs_callV C (m_X9_numberIn l g) dX9_readRuns_37 (rfl : vwCl[9]? = some (RX9, TX9, 17)) (by decide) rfl ⟨(by decide), (by decide), by decide +kernel⟩ wm1098 wm1100 wp33 wm10 wm1101 ⟨Nat.le_of_ble_eq_true rfl, Nat.le_of_ble_eq_true rfl⟩) ?_
  refine xAll_c (xs_istore C dX9_readRuns_40) ?_
  refine xAll_c (xs_iload C dX9_readRuns_42) ?_
  refine xAll_c (xs_sipush C dX9_readRuns_44 (by decide)) ?_
  refine xAll_c (xs_icmp_ne C dX9_readRuns_47 (by decide)) ?_
  refine xAll_c (xs_iconst C dX9_readRuns_50 (by decide)) ?_
  refine xAll_c (xs_zret C dX9_readRuns_51 rfl) ?_
  refine xAll_c (xs_iconst C dX9_readRuns_52 (by decide)) ?_
  refine xAll_c (xs_istore C dX9_readRuns_53) ?_
  refine xAll_c (xs_iload C dX9_readRuns_55) ?_
  refine xAll_c (xs_iload C dX9_readRuns_57) ?_
  refine xAll_c (xs_icmp_ge C dX9_readRuns_59 (by decide)) ?_
  refine xAll_c (xs_aload_n C dX9_readRuns_62 rfl) ?_
  refine xAll_c (xs_getR C dX9_readRuns_63 (rfl : vwCl[9]? = some (RX9, TX9, 17)) win9 rfl (by decide) (by decide) rfl wm1030) ?_
  refine xAll_c (xs_iload_n C dX9_readRuns_66 rfl) ?_
  refine xAll_c (xs_iload_n C dX9_readRuns_67 rfl) ?_
  refine xAll_c (xs_iast C dX9_readRuns_68) ?_
  refine xAll_c (xs_iinc C dX9_readRuns_69 rfl) ?_
  refine xAll_c (xs_iinc C dX9_readRuns_72 rfl) ?_
  refine xAll_c (xs_goto C dX9_readRuns_75 (by decide)) ?_
  refine xAll_c (xs_goto C dX9_readRuns_78 (by decide)) ?_
  refine xAll_c (xs_iconst C dX9_readRuns_81 (by decide)) ?_
  refine xAll_c (xs_zret C dX9_readRuns_82 rfl) ?_
  exact trivial
noncomputable def k_X9_readSmall : xCode := [(0, oAload 0 1), (1, oConst (nI 10) 3), (3, oConst (nI 0) 4), (4, oConst (nI 1023) 7), (7, oCallV 9 3 f_X9_numberIn 10), (10, oIstore 2 6 11), (11, oIload 2 12), (12, oConst (-9999) 15), (15, oIf2 (fun x y => !(decide (x = y))) 24 18), (18, oConst (-9999) 21), (21, oGoto 32), (24, oAload 0 25), (25, oConst (nI 4) 26), (26, oConst (nI 0) 27), (27, oConst (nI 10) 29), (29, oCallV 9 3 f_X9_numberIn 32), (32, oIstore 3 6 33), (33, oConst (nI 0) 34), (34, oIstore 4 6 36), (36, oIload 4 38), (38, oIload 1 39), (39, oIf2 (fun x y => decide (y ≤ x)) 89 42), (42, oIload 3 43), (43, oConst (-9999) 46), (46, oIf2 (fun x y => decide (x = y)) 89 49), (49, oAload 0 50), (50, oIload 3 51), (51, oConst (nI 0) 52), (52, oConst (nI 1023) 55), (55, oIload 2 56), (56, oBin (fun x y => x - y) 57), (57, oCallV 9 3 f_X9_numberIn 60), (60, oIstore 5 6 62), (62, oIload 5 64), (64, oConst (-9999) 67), (67, oIf2 (fun x y => !(decide (x = y))) 72 70), (70, oConst (nI 0) 71), (71, oZret), (72, oAload 0 73), (73, oGetR 9 13 76), (76, oIload 4 78), (78, oIload 2 79), (79, oIload 5 81), (81, oBin (fun x y => x + y) 82), (82, oIast 83), (83, oIinc 4 (nI 1) 6 86), (86, oGoto 36), (89, oIload 3 90), (90, oConst (-9999) 93), (93, oIf2 (fun x y => decide (x = y)) 100 96), (96, oConst (nI 1) 97), (97, oGoto 101), (100, oConst (nI 0) 101), (101, oZret)]
noncomputable def f_X9_readSmall : xRun := xrun k_X9_readSmall 6
set_option maxHeartbeats 4000000 in
set_option maxRecDepth 100000 in
theorem m_X9_readSmall (l : Launch) (g : xG) : xMet l g yX9_readSmall cX9_readSmall 6 (some .boolean) 3 78 f_X9_readSmall := by
  refine xmet_of (own := RX9) (by decide +kernel) rfl (fun p e s m args below meth c r0 C => ?_)
  refine xAll_c (xs_aload_n C dX9_readSmall_0 rfl) ?_
  refine xAll_c (xs_bipush C dX9_readSmall_1 (by decide)) ?_
  refine xAll_c (xs_iconst C dX9_readSmall_3 (by decide)) ?_
  refine xAll_c (xs_sipush C dX9_readSmall_4 (by decide)) ?_
  refine xAll_c (xs_callV C (m_X9_numberIn l g) dX9_readSmall_7 (rfl : vwCl[9]? = some (RX9, TX9, 17)) (by decide) rfl ⟨(by decide), (by decide), by decide +kernel⟩ wm1098 wm1100 wp33 wm10 wm1101 ⟨Nat.le_of_ble_eq_true rfl, Nat.le_of_ble_eq_true rfl⟩) ?_
  refine xAll_c (xs_istore_n C dX9_readSmall_10 rfl) ?_
  refine xAll_c (xs_iload_n C dX9_readSmall_11 rfl) ?_
  refine xAll_c (xs_sipush C dX9_readSmall_12 (by decide)) ?_
  refine xAll_c (xs_icmp_ne C dX9_readSmall_15 (by decide)) ?_
  refine xAll_c (xs_sipush C dX9_readSmall_18 (by decide)) ?_
  refine xAll_c (xs_goto C dX9_readSmall_21 (by decide)) ?_
  refine xAll_c (xs_aload_n C dX9_readSmall_24 rfl) ?_
  refine xAll_c (xs_iconst C dX9_readSmall_25 (by decide)) ?_
  refine xAll_c (xs_iconst C dX9_readSmall_26 (by decide)) ?_
  refine xAll_c (xs_bipush C dX9_readSmall_27 (by decide)) ?_
  refine xAll_c (xs_callV C (m_X9_numberIn l g) dX9_readSmall_29 (rfl : vwCl[9]? = some (RX9, TX9, 17)) (by decide) rfl ⟨(by decide), (by decide), by decide +kernel⟩ wm1098 wm1100 wp33 wm10 wm1101 ⟨Nat.le_of_ble_eq_true rfl, Nat.le_of_ble_eq_true rfl⟩) ?_
  refine xAll_c (xs_istore_n C dX9_readSmall_32 rfl) ?_
  refine xAll_c (xs_iconst C dX9_readSmall_33 (by decide)) ?_
  refine xAll_c (xs_istore C dX9_readSmall_34) ?_
  refine xAll_c (xs_iload C dX9_readSmall_36) ?_
  refine xAll_c (xs_iload_n C dX9_readSmall_38 rfl) ?_
  refine xAll_c (xs_icmp_ge C dX9_readSmall_39 (by decide)) ?_
  refine xAll_c (xs_iload_n C dX9_readSmall_42 rfl) ?_
  refine xAll_c (xs_sipush C dX9_readSmall_43 (by decide)) ?_
  refine xAll_c (xs_icmp_eq C dX9_readSmall_46 (by decide)) ?_
  refine xAll_c (xs_aload_n C dX9_readSmall_49 rfl) ?_
  refine xAll_c (xs_iload_n C dX9_readSmall_50 rfl) ?_
  refine xAll_c (xs_iconst C dX9_readSmall_51 (by decide)) ?_
  refine xAll_c (xs_sipush C dX9_readSmall_52 (by decide)) ?_
  refine xAll_c (xs_iload_n C dX9_readSmall_55 rfl) ?_
  refine xAll_c (xs_isub C dX9_readSmall_56) ?_
  refine xAll_c (xs_callV C (m_X9_numberIn l g) dX9_readSmall_57 (rfl : vwCl[9]? = some (RX9, TX9, 17)) (by decide) rfl ⟨(by decide), (by decide), by decide +kernel⟩ wm1098 wm1100 wp33 wm10 wm1101 ⟨Nat.le_of_ble_eq_true rfl, Nat.le_of_ble_eq_true rfl⟩) ?_
  refine xAll_c (xs_istore C dX9_readSmall_60) ?_
  refine xAll_c (xs_iload C dX9_readSmall_62) ?_
  refine xAll_c (xs_sipush C dX9_readSmall_64 (by decide)) ?_
  refine xAll_c (xs_icmp_ne C dX9_readSmall_67 (by decide)) ?_
  refine xAll_c (xs_iconst C dX9_readSmall_70 (by decide)) ?_
  refine xAll_c (xs_zret C dX9_readSmall_71 rfl) ?_
  refine xAll_c (xs_aload_n C dX9_readSmall_72 rfl) ?_
  refine xAll_c (xs_getR C dX9_readSmall_73 (rfl : vwCl[9]? = some (RX9, TX9, 17)) win9 rfl (by decide) (by decide) rfl wm1030) ?_
  refine xAll_c (xs_iload C dX9_readSmall_76) ?_
  refine xAll_c (xs_iload_n C dX9_readSmall_78 rfl) ?_
  refine xAll_c (xs_iload C dX9_readSmall_79) ?_
  refine xAll_c (xs_iadd C dX9_readSmall_81) ?_
  refine xAll_c (xs_iast C dX9_readSmall_82) ?_
  refine xAll_c (xs_iinc C dX9_readSmall_83 rfl) ?_
  refine xAll_c (xs_goto C dX9_readSmall_86 (by decide)) ?_
  refine xAll_c (xs_iload_n C dX9_readSmall_89 rfl) ?_
  refine xAll_c (xs_sipush C dX9_readSmall_90 (by decide)) ?_
  refine xAll_c (xs_icmp_eq C dX9_readSmall_93 (by decide)) ?_
  refine xAll_c (xs_iconst C dX9_readSmall_96 (by decide)) ?_
  refine xAll_c (xs_goto C dX9_readSmall_97 (by decide)) ?_
  refine xAll_c (xs_iconst C dX9_readSmall_100 (by decide)) ?_
  refine xAll_c (xs_zret C dX9_readSmall_101 rfl) ?_
  exact trivial
noncomputable def k_X9_readSteps : xCode := [(0, oAload 0 1), (1, oConst (nI 10) 3), (3, oConst (nI 0) 4), (4, oConst (nI 1023) 7), (7, oCallV 9 3 f_X9_numberIn 10), (10, oIstore 2 8 11), (11, oIload 2 12), (12, oConst (-9999) 15), (15, oIf2 (fun x y => !(decide (x = y))) 24 18), (18, oConst (-9999) 21), (21, oGoto 32), (24, oAload 0 25), (25, oConst (nI 4) 26), (26, oConst (nI 1) 27), (27, oConst (nI 11) 29), (29, oCallV 9 3 f_X9_numberIn 32), (32, oIstore 3 8 33), (33, oIload 3 34), (34, oConst (-9999) 37), (37, oIf2 (fun x y => !(decide (x = y))) 42 40), (40, oConst (nI 0) 41), (41, oZret), (42, oAload 0 43), (43, oGetR 9 13 46), (46, oConst (nI 0) 47), (47, oIload 2 48), (48, oIast 49), (49, oConst (nI 1) 50), (50, oIstore 4 8 52), (52, oIload 4 54), (54, oIload 1 55), (55, oIf2 (fun x y => decide (y ≤ x)) 174 58), (58, oConst (nI 1) 59), (59, oIload 3 60), (60, oConst (nI 1) 61), (61, oBin (fun x y => x - y) 62), (62, oBin (fun x y => x <<< (y &&& 31)) 63), (63, oIstore 5 8 65), (65, oIload 5 67), (67, oAload 0 68), (68, oGetR 9 13 71), (71, oIload 4 73), (73, oConst (nI 1) 74), (74, oBin (fun x y => x - y) 75), (75, oIald 76), (76, oCallSV 2 f_X9_less 79), (79, oIstore 6 8 81), (81, oAload 0 82), (82, oIload 3 83), (83, oConst (nI 0) 84), (84, oIload 5 86), (86, oConst (nI 1) 87), (87, oBin (fun x y => x - y) 88), (88, oConst (nI 1023) 91), (91, oAload 0 92), (92, oGetR 9 13 95), (95, oIload 4 97), (97, oConst (nI 1) 98), (98, oBin (fun x y => x - y) 99), (99, oIald 100), (100, oBin (fun x y => x - y) 101), (101, oCallSV 2 f_X9_less 104), (104, oConst (nI 2) 105), (105, oIload 5 107), (107, oBin (fun x y => x * y) 108), (108, oIload 6 110), (110, oBin (fun x y => x - y) 111), (111, oConst (nI 2) 112), (112, oIload 5 114), (114, oBin (fun x y => x * y) 115), (115, oConst (nI 1) 116), (116, oBin (fun x y => x - y) 117), (117, oCallV 9 5 f_X9_number 120), (120, oIstore 7 8 122), (122, oIload 7 124), (124, oConst (-9999) 127), (127, oIf2 (fun x y => !(decide (x = y))) 132 130), (130, oConst (nI 0) 131), (131, oZret), (132, oAload 0 133), (133, oGetR 9 13 136), (136, oIload 4 138), (138, oAload 0 139), (139, oGetR 9 13 142), (142, oIload 4 144), (144, oConst (nI 1) 145), (145, oBin (fun x y => x - y) 146), (146, oIald 147), (147, oIload 7 149), (149, oIload 5 151), (151, oIf2 (fun x y => decide (y ≤ x)) 159 154), (154, oIload 7 156), (156, oGoto 166), (159, oIload 7 161), (161, oConst (nI 2) 162), (162, oIload 5 164), (164, oBin (fun x y => x * y) 165), (165, oBin (fun x y => x - y) 166), (166, oBin (fun x y => x + y) 167), (167, oIast 168), (168, oIinc 4 (nI 1) 8 171), (171, oGoto 52), (174, oConst (nI 1) 175), (175, oZret)]
noncomputable def f_X9_readSteps : xRun := xrun k_X9_readSteps 8
set_option maxHeartbeats 4000000 in
set_option maxRecDepth 100000 in
theorem m_X9_readSteps (l : Launch) (g : xG) : xMet l g yX9_readSteps cX9_readSteps 8 (some .boolean) 3 78 f_X9_readSteps := by
  refine xmet_of (own := RX9) (by decide +kernel) rfl (fun p e s m args below meth c r0 C => ?_)
  refine xAll_c (xs_aload_n C dX9_readSteps_0 rfl) ?_
  refine xAll_c (xs_bipush C dX9_readSteps_1 (by decide)) ?_
  refine xAll_c (xs_iconst C dX9_readSteps_3 (by decide)) ?_
  refine xAll_c (xs_sipush C dX9_readSteps_4 (by decide)) ?_
  refine xAll_c (xs_callV C (m_X9_numberIn l g) dX9_readSteps_7 (rfl : vwCl[9]? = some (RX9, TX9, 17)) (by decide) rfl ⟨(by decide), (by decide), by decide +kernel⟩ wm1098 wm1100 wp33 wm10 wm1101 ⟨Nat.le_of_ble_eq_true rfl, Nat.le_of_ble_eq_true rfl⟩) ?_
  refine xAll_c (xs_istore_n C dX9_readSteps_10 rfl) ?_
  refine xAll_c (xs_iload_n C dX9_readSteps_11 rfl) ?_
  refine xAll_c (xs_sipush C dX9_readSteps_12 (by decide)) ?_
  refine xAll_c (xs_icmp_ne C dX9_readSteps_15 (by decide)) ?_
  refine xAll_c (xs_sipush C dX9_readSteps_18 (by decide)) ?_
  refine xAll_c (xs_goto C dX9_readSteps_21 (by decide)) ?_
  refine xAll_c (xs_aload_n C dX9_readSteps_24 rfl) ?_
  refine xAll_c (xs_iconst C dX9_readSteps_25 (by decide)) ?_
  refine xAll_c (xs_iconst C dX9_readSteps_26 (by decide)) ?_
  refine xAll_c (xs_bipush C dX9_readSteps_27 (by decide)) ?_
  refine xAll_c (xs_callV C (m_X9_numberIn l g) dX9_readSteps_29 (rfl : vwCl[9]? = some (RX9, TX9, 17)) (by decide) rfl ⟨(by decide), (by decide), by decide +kernel⟩ wm1098 wm1100 wp33 wm10 wm1101 ⟨Nat.le_of_ble_eq_true rfl, Nat.le_of_ble_eq_true rfl⟩) ?_
  refine xAll_c (xs_istore_n C dX9_readSteps_32 rfl) ?_
  refine xAll_c (xs_iload_n C dX9_readSteps_33 rfl) ?_
  refine xAll_c (xs_sipush C dX9_readSteps_34 (by decide)) ?_
  refine xAll_c (xs_icmp_ne C dX9_readSteps_37 (by decide)) ?_
  refine xAll_c (xs_iconst C dX9_readSteps_40 (by decide)) ?_
  refine xAll_c (xs_zret C dX9_readSteps_41 rfl) ?_
  refine xAll_c (xs_aload_n C dX9_readSteps_42 rfl) ?_
  refine xAll_c (xs_getR C dX9_readSteps_43 (rfl : vwCl[9]? = some (RX9, TX9, 17)) win9 rfl (by decide) (by decide) rfl wm1030) ?_
  refine xAll_c (xs_iconst C dX9_readSteps_46 (by decide)) ?_
  refine xAll_c (xs_iload_n C dX9_readSteps_47 rfl) ?_
  refine xAll_c (xs_iast C dX9_readSteps_48) ?_
  refine xAll_c (xs_iconst C dX9_readSteps_49 (by decide)) ?_
  refine xAll_c (xs_istore C dX9_readSteps_50) ?_
  refine xAll_c (xs_iload C dX9_readSteps_52) ?_
  refine xAll_c (xs_iload_n C dX9_readSteps_54 rfl) ?_
  refine xAll_c (xs_icmp_ge C dX9_readSteps_55 (by decide)) ?_
  refine xAll_c (xs_iconst C dX9_readSteps_58 (by decide)) ?_
  refine xAll_c (xs_iload_n C dX9_readSteps_59 rfl) ?_
  refine xAll_c (xs_iconst C dX9_readSteps_60 (by decide)) ?_
  refine xAll_c (xs_isub C dX9_readSteps_61) ?_
  refine xAll_c (xs_ishl C dX9_readSteps_62) ?_
  refine xAll_c (xs_istore C dX9_readSteps_63) ?_
  refine xAll_c (xs_iload C dX9_readSteps_65) ?_
  refine xAll_c (xs_aload_n C dX9_readSteps_67 rfl) ?_
  refine xAll_c (xs_getR C dX9_readSteps_68 (rfl : vwCl[9]? = some (RX9, TX9, 17)) win9 rfl (by decide) (by decide) rfl wm1030) ?_
  refine xAll_c (xs_iload C dX9_readSteps_71) ?_
  refine xAll_c (xs_iconst C dX9_readSteps_73 (by decide)) ?_
  refine xAll_c (xs_isub C dX9_readSteps_74) ?_
  refine xAll_c (xs_iald C dX9_readSteps_75) ?_
  refine xAll_c (xs_callSV C (m_X9_less l g) dX9_readSteps_76 rfl ⟨(by decide), (by decide), by decide +kernel⟩ wm1106 wm1107 wm10 wm1108 ⟨Nat.le_of_ble_eq_true rfl, Nat.le_of_ble_eq_true rfl⟩) ?_
  refine xAll_c (xs_istore C dX9_readSteps_79) ?_
  refine xAll_c (xs_aload_n C dX9_readSteps_81 rfl) ?_
  refine xAll_c (xs_iload_n C dX9_readSteps_82 rfl) ?_
  refine xAll_c (xs_iconst C dX9_readSteps_83 (by decide)) ?_
  refine xAll_c (xs_iload C dX9_readSteps_84) ?_
  refine xAll_c (xs_iconst C dX9_readSteps_86 (by decide)) ?_
  refine xAll_c (xs_isub C dX9_readSteps_87) ?_
  refine xAll_c (xs_sipush C dX9_readSteps_88 (by decide)) ?_
  refine xAll_c (xs_aload_n C dX9_readSteps_91 rfl) ?_
  refine xAll_c (xs_getR C dX9_readSteps_92 (rfl : vwCl[9]? = some (RX9, TX9, 17)) win9 rfl (by decide) (by decide) rfl wm1030) ?_
  refine xAll_c (xs_iload C dX9_readSteps_95) ?_
  refine xAll_c (xs_iconst C dX9_readSteps_97 (by decide)) ?_
  refine xAll_c (xs_isub C dX9_readSteps_98) ?_
  refine xAll_c (xs_iald C dX9_readSteps_99) ?_
  refine xAll_c (xs_isub C dX9_readSteps_100) ?_
  refine xAll_c (xs_callSV C (m_X9_less l g) dX9_readSteps_101 rfl ⟨(by decide), (by decide), by decide +kernel⟩ wm1106 wm1107 wm10 wm1108 ⟨Nat.le_of_ble_eq_true rfl, Nat.le_of_ble_eq_true rfl⟩) ?_
  refine xAll_c (xs_iconst C dX9_readSteps_104 (by decide)) ?_
  refine xAll_c (xs_iload C dX9_readSteps_105) ?_
  refine xAll_c (xs_imul C dX9_readSteps_107) ?_
  refine xAll_c (xs_iload C dX9_readSteps_108) ?_
  refine xAll_c (xs_isub C dX9_readSteps_110) ?_
  refine xAll_c (xs_iconst C dX9_readSteps_111 (by decide)) ?_
  refine xAll_c (xs_iload C dX9_readSteps_112) ?_
  refine xAll_c (xs_imul C dX9_readSteps_114) ?_
  refine xAll_c (xs_iconst C dX9_readSteps_115 (by decide)) ?_
  refine xAll_c (xs_isub C dX9_readSteps_116) ?_
  refine xAll_c (xs_callV C (m_X9_number l g) dX9_readSteps_117 (rfl : vwCl[9]? = some (RX9, TX9, 17)) (by decide) rfl ⟨(by decide), (by decide), by decide +kernel⟩ wm1102 wm1104 wp34 wm10 wm1105 ⟨Nat.le_of_ble_eq_true rfl, Nat.le_of_ble_eq_true rfl⟩) ?_
  refine xAll_c (xs_istore C dX9_readSteps_120) ?_
  refine xAll_c (xs_iload C dX9_readSteps_122) ?_
  refine xAll_c (xs_sipush C dX9_readSteps_124 (by decide)) ?_
  refine xAll_c (xs_icmp_ne C dX9_readSteps_127 (by decide)) ?_
  refine xAll_c (xs_iconst C dX9_readSteps_130 (by decide)) ?_
  refine xAll_c (xs_zret C dX9_readSteps_131 rfl) ?_
  refine xAll_c (xs_aload_n C dX9_readSteps_132 rfl) ?_
  refine xAll_c (xs_getR C dX9_readSteps_133 (rfl : vwCl[9]? = some (RX9, TX9, 17)) win9 rfl (by decide) (by decide) rfl wm1030) ?_
  refine xAll_c (xs_iload C dX9_readSteps_136) ?_
  refine xAll_c (xs_aload_n C dX9_readSteps_138 rfl) ?_
  refine xAll_c (xs_getR C dX9_readSteps_139 (rfl : vwCl[9]? = some (RX9, TX9, 17)) win9 rfl (by decide) (by decide) rfl wm1030) ?_
  refine xAll_c (xs_iload C dX9_readSteps_142) ?_
  refine xAll_c (xs_iconst C dX9_readSteps_144 (by decide)) ?_
  refine xAll_c (xs_isub C dX9_readSteps_145) ?_
  refine xAll_c (xs_iald C dX9_readSteps_146) ?_
  refine xAll_c (xs_iload C dX9_readSteps_147) ?_
  refine xAll_c (xs_iload C dX9_readSteps_149) ?_
  refine xAll_c (xs_icmp_ge C dX9_readSteps_151 (by decide)) ?_
  refine xAll_c (xs_iload C dX9_readSteps_154) ?_
  refine xAll_c (xs_goto C dX9_readSteps_156 (by decide)) ?_
  refine xAll_c (xs_iload C dX9_readSteps_159) ?_
  refine xAll_c (xs_iconst C dX9_readSteps_161 (by decide)) ?_
  refine xAll_c (xs_iload C dX9_readSteps_162) ?_
  refine xAll_c (xs_imul C dX9_readSteps_164) ?_
  refine xAll_c (xs_isub C dX9_readSteps_165) ?_
  refine xAll_c (xs_iadd C dX9_readSteps_166) ?_
  refine xAll_c (xs_iast C dX9_readSteps_167) ?_
  refine xAll_c (xs_iinc C dX9_readSteps_168 rfl) ?_
  refine xAll_c (xs_goto C dX9_readSteps_171 (by decide)) ?_
  refine xAll_c (xs_iconst C dX9_readSteps_174 (by decide)) ?_
  refine xAll_c (xs_zret C dX9_readSteps_175 rfl) ?_
  exact trivial
noncomputable def k_X9_readPage : xCode := [(0, oAload 0 1), (1, oConst (nI 0) 2), (2, oPutI 9 3 5), (5, oAload 0 6), (6, oConst (nI 3) 7), (7, oConst (nI 0) 8), (8, oConst (nI 4) 9), (9, oCallV 9 3 f_X9_numberIn 12), (12, oIstore 1 4 13), (13, oIload 1 14), (14, oConst (-9999) 17), (17, oIf2 (fun x y => !(decide (x = y))) 26 20), (20, oConst (-9999) 23), (23, oGoto 34), (26, oAload 0 27), (27, oConst (nI 4) 28), (28, oConst (nI 1) 29), (29, oConst (nI 12) 31), (31, oCallV 9 3 f_X9_numberIn 34), (34, oIstore 2 4 35), (35, oIload 2 36), (36, oConst (-9999) 39), (39, oIf2 (fun x y => !(decide (x = y))) 44 42), (42, oConst (nI 0) 43), (43, oZret), (44, oAload 0 45), (45, oIload 2 46), (46, oPutI 9 15 49), (49, oIload 1 50), (50, oIf1 (fun x => !(decide (x = 0))) 61 53), (53, oAload 0 54), (54, oIload 2 55), (55, oCallV 9 1 f_X9_readPlain 58), (58, oGoto 105), (61, oIload 1 62), (62, oConst (nI 1) 63), (63, oIf2 (fun x y => !(decide (x = y))) 74 66), (66, oAload 0 67), (67, oIload 2 68), (68, oCallV 9 1 f_X9_readWords 71), (71, oGoto 105), (74, oIload 1 75), (75, oConst (nI 2) 76), (76, oIf2 (fun x y => !(decide (x = y))) 87 79), (79, oAload 0 80), (80, oIload 2 81), (81, oCallV 9 1 f_X9_readRuns 84), (84, oGoto 105), (87, oIload 1 88), (88, oConst (nI 3) 89), (89, oIf2 (fun x y => !(decide (x = y))) 100 92), (92, oAload 0 93), (93, oIload 2 94), (94, oCallV 9 1 f_X9_readSmall 97), (97, oGoto 105), (100, oAload 0 101), (101, oIload 2 102), (102, oCallV 9 1 f_X9_readSteps 105), (105, oIstore 3 4 106), (106, oIload 3 107), (107, oIf1 (fun x => decide (x = 0)) 125 110), (110, oAload 0 111), (111, oGetI 9 3 114), (114, oAload 0 115), (115, oGetI 9 2 118), (118, oIf2 (fun x y => !(decide (x = y))) 125 121), (121, oConst (nI 1) 122), (122, oGoto 126), (125, oConst (nI 0) 126), (126, oZret)]
noncomputable def f_X9_readPage : xRun := xrun k_X9_readPage 4
set_option maxHeartbeats 4000000 in
set_option maxRecDepth 100000 in
theorem m_X9_readPage (l : Launch) (g : xG) : xMet l g yX9_readPage cX9_readPage 4 (some .boolean) 4 105 f_X9_readPage := by
  refine xmet_of (own := RX9) (by decide +kernel) rfl (fun p e s m args below meth c r0 C => ?_)
  refine xAll_c (xs_aload_n C dX9_readPage_0 rfl) ?_
  refine xAll_c (xs_iconst C dX9_readPage_1 (by decide)) ?_
  refine xAll_c (xs_putI C dX9_readPage_2 (rfl : vwCl[9]? = some (RX9, TX9, 17)) win9 tyX9_ok nmX9 rfl (by decide) (by decide) rfl rfl (by decide) wm1020) ?_
  refine xAll_c (xs_aload_n C dX9_readPage_5 rfl) ?_
  refine xAll_c (xs_iconst C dX9_readPage_6 (by decide)) ?_
  refine xAll_c (xs_iconst C dX9_readPage_7 (by decide)) ?_
  refine xAll_c (xs_iconst C dX9_readPage_8 (by decide)) ?_
  refine xAll_c (xs_callV C (m_X9_numberIn l g) dX9_readPage_9 (rfl : vwCl[9]? = some (RX9, TX9, 17)) (by decide) rfl ⟨(by decide), (by decide), by decide +kernel⟩ wm1098 wm1100 wp33 wm10 wm1101 ⟨Nat.le_of_ble_eq_true rfl, Nat.le_of_ble_eq_true rfl⟩) ?_
  refine xAll_c (xs_istore_n C dX9_readPage_12 rfl) ?_
  refine xAll_c (xs_iload_n C dX9_readPage_13 rfl) ?_
  refine xAll_c (xs_sipush C dX9_readPage_14 (by decide)) ?_
  refine xAll_c (xs_icmp_ne C dX9_readPage_17 (by decide)) ?_
  refine xAll_c (xs_sipush C dX9_readPage_20 (by decide)) ?_
  refine xAll_c (xs_goto C dX9_readPage_23 (by decide)) ?_
  refine xAll_c (xs_aload_n C dX9_readPage_26 rfl) ?_
  refine xAll_c (xs_iconst C dX9_readPage_27 (by decide)) ?_
  refine xAll_c (xs_iconst C dX9_readPage_28 (by decide)) ?_
  refine xAll_c (xs_bipush C dX9_readPage_29 (by decide)) ?_
  refine xAll_c (xs_callV C (m_X9_numberIn l g) dX9_readPage_31 (rfl : vwCl[9]? = some (RX9, TX9, 17)) (by decide) rfl ⟨(by decide), (by decide), by decide +kernel⟩ wm1098 wm1100 wp33 wm10 wm1101 ⟨Nat.le_of_ble_eq_true rfl, Nat.le_of_ble_eq_true rfl⟩) ?_
  refine xAll_c (xs_istore_n C dX9_readPage_34 rfl) ?_
  refine xAll_c (xs_iload_n C dX9_readPage_35 rfl) ?_
  refine xAll_c (xs_sipush C dX9_readPage_36 (by decide)) ?_
  refine xAll_c (xs_icmp_ne C dX9_readPage_39 (by decide)) ?_
  refine xAll_c (xs_iconst C dX9_readPage_42 (by decide)) ?_
  refine xAll_c (xs_zret C dX9_readPage_43 rfl) ?_
  refine xAll_c (xs_aload_n C dX9_readPage_44 rfl) ?_
  refine xAll_c (xs_iload_n C dX9_readPage_45 rfl) ?_
  refine xAll_c (xs_putI C dX9_readPage_46 (rfl : vwCl[9]? = some (RX9, TX9, 17)) win9 tyX9_ok nmX9 rfl (by decide) (by decide) rfl rfl (by decide) wm1032) ?_
  refine xAll_c (xs_iload_n C dX9_readPage_49 rfl) ?_
  refine xAll_c (xs_if_ne C dX9_readPage_50 (by decide)) ?_
  refine xAll_c (xs_aload_n C dX9_readPage_53 rfl) ?_
  refine xAll_c (xs_iload_n C dX9_readPage_54 rfl) ?_
  refine xAll_c (xs_callV C (m_X9_readPlain l g) dX9_readPage_55 (rfl : vwCl[9]? = some (RX9, TX9, 17)) (by decide) rfl ⟨(by decide), (by decide), by decide +kernel⟩ wm1112 wm1114 wp35 wm10 wm1115 ⟨Nat.le_of_ble_eq_true rfl, Nat.le_of_ble_eq_true rfl⟩) ?_
  refine xAll_c (xs_goto C dX9_readPage_58 (by decide)) ?_
  refine xAll_c (xs_iload_n C dX9_readPage_61 rfl) ?_
  refine xAll_c (xs_iconst C dX9_readPage_62 (by decide)) ?_
  refine xAll_c (xs_icmp_ne C dX9_readPage_63 (by decide)) ?_
  refine xAll_c (xs_aload_n C dX9_readPage_66 rfl) ?_
  refine xAll_c (xs_iload_n C dX9_readPage_67 rfl) ?_
  refine xAll_c (xs_callV C (m_X9_readWords l g) dX9_readPage_68 (rfl : vwCl[9]? = some (RX9, TX9, 17)) (by decide) rfl ⟨(by decide), (by decide), by decide +kernel⟩ wm1116 wm1118 wp36 wm10 wm1119 ⟨Nat.le_of_ble_eq_true rfl, Nat.le_of_ble_eq_true rfl⟩) ?_
  refine xAll_c (xs_goto C dX9_readPage_71 (by decide)) ?_
  refine xAll_c (xs_iload_n C dX9_readPage_74 rfl) ?_
  refine xAll_c (xs_iconst C dX9_readPage_75 (by decide)) ?_
  refine xAll_c (xs_icmp_ne C dX9_readPage_76 (by decide)) ?_
  refine xAll_c (xs_aload_n C dX9_readPage_79 rfl) ?_
  refine xAll_c (xs_iload_n C dX9_readPage_80 rfl) ?_
  refine xAll_c (xs_callV C (m_X9_readRuns l g) dX9_readPage_81 (rfl : vwCl[9]? = some (RX9, TX9, 17)) (by decide) rfl ⟨(by decide), (by decide), by decide +kernel⟩ wm1123 wm1125 wp37 wm10 wm1126 ⟨Nat.le_of_ble_eq_true rfl, Nat.le_of_ble_eq_true rfl⟩) ?_
  refine xAll_c (xs_goto C dX9_readPage_84 (by decide)) ?_
  refine xAll_c (xs_iload_n C dX9_readPage_87 rfl) ?_
  refine xAll_c (xs_iconst C dX9_readPage_88 (by decide)) ?_
  refine xAll_c (xs_icmp_ne C dX9_readPage_89 (by decide)) ?_
  refine xAll_c (xs_aload_n C dX9_readPage_92 rfl) ?_
  refine xAll_c (xs_iload_n C dX9_readPage_93 rfl) ?_
  refine xAll_c (xs_callV C (m_X9_readSmall l g) dX9_readPage_94 (rfl : vwCl[9]? = some (RX9, TX9, 17)) (by decide) rfl ⟨(by decide), (by decide), by decide +kernel⟩ wm1127 wm1129 wp38 wm10 wm1130 ⟨Nat.le_of_ble_eq_true rfl, Nat.le_of_ble_eq_true rfl⟩) ?_
  refine xAll_c (xs_goto C dX9_readPage_97 (by decide)) ?_
  refine xAll_c (xs_aload_n C dX9_readPage_100 rfl) ?_
  refine xAll_c (xs_iload_n C dX9_readPage_101 rfl) ?_
  refine xAll_c (xs_callV C (m_X9_readSteps l g) dX9_readPage_102 (rfl : vwCl[9]? = some (RX9, TX9, 17)) (by decide) rfl ⟨(by decide), (by decide), by decide +kernel⟩ wm1131 wm1133 wp39 wm10 wm1134 ⟨Nat.le_of_ble_eq_true rfl, Nat.le_of_ble_eq_true rfl⟩) ?_
  refine xAll_c (xs_istore_n C dX9_readPage_105 rfl) ?_
  refine xAll_c (xs_iload_n C dX9_readPage_106 rfl) ?_
  refine xAll_c (xs_if_eq C dX9_readPage_107 (by decide)) ?_
  refine xAll_c (xs_aload_n C dX9_readPage_110 rfl) ?_
  refine xAll_c (xs_getI C dX9_readPage_111 (rfl : vwCl[9]? = some (RX9, TX9, 17)) win9 rfl (by decide) (by decide) rfl wm1020) ?_
  refine xAll_c (xs_aload_n C dX9_readPage_114 rfl) ?_
  refine xAll_c (xs_getI C dX9_readPage_115 (rfl : vwCl[9]? = some (RX9, TX9, 17)) win9 rfl (by decide) (by decide) rfl wm1019) ?_
  refine xAll_c (xs_icmp_ne C dX9_readPage_118 (by decide)) ?_
  refine xAll_c (xs_iconst C dX9_readPage_121 (by decide)) ?_
  refine xAll_c (xs_goto C dX9_readPage_122 (by decide)) ?_
  refine xAll_c (xs_iconst C dX9_readPage_125 (by decide)) ?_
  refine xAll_c (xs_zret C dX9_readPage_126 rfl) ?_
  exact trivial
noncomputable def k_X9_errorPosition : xCode := [(0, oAload 0 1), (1, oCallV 9 0 f_X9_readPage 4), (4, oIf1 (fun x => decide (x = 0)) 13 7), (7, oConst (-9999) 10), (10, oGoto 17), (13, oAload 0 14), (14, oGetI 9 3 17), (17, oIret)]
noncomputable def f_X9_errorPosition : xRun := xrun k_X9_errorPosition 1
set_option maxHeartbeats 4000000 in
set_option maxRecDepth 100000 in
theorem m_X9_errorPosition (l : Launch) (g : xG) : xMet l g yX9_errorPosition cX9_errorPosition 1 (some .int) 5 128 f_X9_errorPosition := by
  refine xmet_of (own := RX9) (by decide +kernel) rfl (fun p e s m args below meth c r0 C => ?_)
  refine xAll_c (xs_aload_n C dX9_errorPosition_0 rfl) ?_
  refine xAll_c (xs_callV C (m_X9_readPage l g) dX9_errorPosition_1 (rfl : vwCl[9]? = some (RX9, TX9, 17)) (by decide) rfl ⟨(by decide), (by decide), by decide +kernel⟩ wm1094 wm1096 wp32 wm10 wm1097 ⟨Nat.le_of_ble_eq_true rfl, Nat.le_of_ble_eq_true rfl⟩) ?_
  refine xAll_c (xs_if_eq C dX9_errorPosition_4 (by decide)) ?_
  refine xAll_c (xs_sipush C dX9_errorPosition_7 (by decide)) ?_
  refine xAll_c (xs_goto C dX9_errorPosition_10 (by decide)) ?_
  refine xAll_c (xs_aload_n C dX9_errorPosition_13 rfl) ?_
  refine xAll_c (xs_getI C dX9_errorPosition_14 (rfl : vwCl[9]? = some (RX9, TX9, 17)) win9 rfl (by decide) (by decide) rfl wm1020) ?_
  refine xAll_c (xs_iret C dX9_errorPosition_17 rfl) ?_
  exact trivial
noncomputable def k_X9_about : xCode := [(0, oAload 0 1), (1, oIload 1 2), (2, oI2l 3), (3, oLconst (0) 4), (4, oLconst (8) 7), (7, oCallSV 3 f_X9_in 10), (10, oIf1 (fun x => decide (x = 0)) 17 13), (13, oConst (nI 0) 14), (14, oGoto 18), (17, oConst (nI 1) 18), (18, oCallV 9 1 f_X9_refused 21), (21, oIf1 (fun x => decide (x = 0)) 26 24), (24, oConst (nI 0) 25), (25, oIret), (26, oAload 0 27), (27, oGetR 9 4 30), (30, oCallSV 1 f_X9_valuesOf 33), (33, oIstore 2 5 34), (34, oIload 1 35), (35, oTab 0 [80, 82, 89, 96, 104, 109, 154, 175] 196), (80, oIload 2 81), (81, oIret), (82, oAload 0 83), (83, oGetR 9 4 86), (86, oConst (nI 0) 87), (87, oIald 88), (88, oIret), (89, oAload 0 90), (90, oGetR 9 4 93), (93, oConst (nI 1) 94), (94, oIald 95), (95, oIret), (96, oAload 0 97), (97, oGetR 9 4 100), (100, oCallSV 1 f_X9_sizeOfAll 103), (103, oIret), (104, oConst (nI 10) 106), (106, oIload 2 107), (107, oBin (fun x y => x * y) 108), (108, oIret), (109, oConst (nI 0) 110), (110, oIstore 3 5 111), (111, oConst (nI 0) 112), (112, oIstore 4 5 114), (114, oIload 4 116), (116, oAload 0 117), (117, oGetR 9 4 120), (120, oConst (nI 0) 121), (121, oIald 122), (122, oIf2 (fun x y => decide (y ≤ x)) 152 125), (125, oIload 3 126), (126, oAload 0 127), (127, oGetR 9 4 130), (130, oConst (nI 12) 132), (132, oIload 4 134), (134, oBin (fun x y => x + y) 135), (135, oIald 136), (136, oIf1 (fun x => decide (x ≤ 0)) 143 139), (139, oConst (nI 1) 140), (140, oGoto 144), (143, oConst (nI 0) 144), (144, oBin (fun x y => x + y) 145), (145, oIstore 3 5 146), (146, oIinc 4 (nI 1) 5 149), (149, oGoto 114), (152, oIload 3 153), (153, oIret), (154, oIload 2 155), (155, oIf1 (fun x => !(decide (x = 0))) 164 158), (158, oConst (-9999) 161), (161, oGoto 174), (164, oAload 0 165), (165, oGetR 9 4 168), (168, oConst (nI 22) 170), (170, oIload 2 171), (171, oCallSV 3 f_X9_smallestIn 174), (174, oIret), (175, oIload 2 176), (176, oIf1 (fun x => !(decide (x = 0))) 185 179), (179, oConst (-9999) 182), (182, oGoto 195), (185, oAload 0 186), (186, oGetR 9 4 189), (189, oConst (nI 22) 191), (191, oIload 2 192), (192, oCallSV 3 f_X9_greatestIn 195), (195, oIret), (196, oAload 0 197), (197, oGetR 9 4 200), (200, oConst (nI 22) 202), (202, oIload 2 203), (203, oCallSV 3 f_X9_differentIn 206), (206, oIret)]
noncomputable def f_X9_about : xRun := xrun k_X9_about 5
set_option maxHeartbeats 4000000 in
set_option maxRecDepth 100000 in
theorem m_X9_about (l : Launch) (g : xG) : xMet l g yX9_about cX9_about 5 (some .int) 7 161 f_X9_about := by
  refine xmet_of (own := RX9) (by decide +kernel) rfl (fun p e s m args below meth c r0 C => ?_)
  refine xAll_c (xs_aload_n C dX9_about_0 rfl) ?_
  refine xAll_c (xs_iload_n C dX9_about_1 rfl) ?_
  refine xAll_c (xs_i2l C dX9_about_2) ?_
  refine xAll_c (xs_lconst C dX9_about_3 (by decide)) ?_
  refine xAll_c (xs_ldc2 C dX9_about_4 wm1139) ?_
  refine xAll_c (xs_callSV C (m_X9_in l g) dX9_about_7 rfl ⟨(by decide), (by decide), by decide +kernel⟩ wm1079 wm1080 wm10 wm1081 ⟨Nat.le_of_ble_eq_true rfl, Nat.le_of_ble_eq_true rfl⟩) ?_
  refine xAll_c (xs_if_eq C dX9_about_10 (by decide)) ?_
  refine xAll_c (xs_iconst C dX9_about_13 (by decide)) ?_
  refine xAll_c (xs_goto C dX9_about_14 (by decide)) ?_
  refine xAll_c (xs_iconst C dX9_about_17 (by decide)) ?_
  refine xAll_c (xs_callV C (m_X9_refused l g) dX9_about_18 (rfl : vwCl[9]? = some (RX9, TX9, 17)) (by decide) rfl ⟨(by decide), (by decide), by decide +kernel⟩ wm1082 wm1084 wp31 wm10 wm1085 ⟨Nat.le_of_ble_eq_true rfl, Nat.le_of_ble_eq_true rfl⟩) ?_
  refine xAll_c (xs_if_eq C dX9_about_21 (by decide)) ?_
  refine xAll_c (xs_iconst C dX9_about_24 (by decide)) ?_
  refine xAll_c (xs_iret C dX9_about_25 rfl) ?_
  refine xAll_c (xs_aload_n C dX9_about_26 rfl) ?_
  refine xAll_c (xs_getR C dX9_about_27 (rfl : vwCl[9]? = some (RX9, TX9, 17)) win9 rfl (by decide) (by decide) rfl wm1021) ?_
  refine xAll_c (xs_callSV C (m_X9_valuesOf l g) dX9_about_30 rfl ⟨(by decide), (by decide), by decide +kernel⟩ wm1140 wm1141 wm10 wm1142 ⟨Nat.le_of_ble_eq_true rfl, Nat.le_of_ble_eq_true rfl⟩) ?_
  refine xAll_c (xs_istore_n C dX9_about_33 rfl) ?_
  refine xAll_c (xs_iload_n C dX9_about_34 rfl) ?_
  refine xAll_c (xs_tab C dX9_about_35 (by decide) (by decide) (by decide)) ?_
  refine xAll_c (xs_iload_n C dX9_about_80 rfl) ?_
  refine xAll_c (xs_iret C dX9_about_81 rfl) ?_
  refine xAll_c (xs_aload_n C dX9_about_82 rfl) ?_
  refine xAll_c (xs_getR C dX9_about_83 (rfl : vwCl[9]? = some (RX9, TX9, 17)) win9 rfl (by decide) (by decide) rfl wm1021) ?_
  refine xAll_c (xs_iconst C dX9_about_86 (by decide)) ?_
  refine xAll_c (xs_iald C dX9_about_87) ?_
  refine xAll_c (xs_iret C dX9_about_88 rfl) ?_
  refine xAll_c (xs_aload_n C dX9_about_89 rfl) ?_
  refine xAll_c (xs_getR C dX9_about_90 (rfl : vwCl[9]? = some (RX9, TX9, 17)) win9 rfl (by decide) (by decide) rfl wm1021) ?_
  refine xAll_c (xs_iconst C dX9_about_93 (by decide)) ?_
  refine xAll_c (xs_iald C dX9_about_94) ?_
  refine xAll_c (xs_iret C dX9_about_95 rfl) ?_
  refine xAll_c (xs_aload_n C dX9_about_96 rfl) ?_
  refine xAll_c (xs_getR C dX9_about_97 (rfl : vwCl[9]? = some (RX9, TX9, 17)) win9 rfl (by decide) (by decide) rfl wm1021) ?_
  refine xAll_c (xs_callSV C (m_X9_sizeOfAll l g) dX9_about_100 rfl ⟨(by decide), (by decide), by decide +kernel⟩ wm1146 wm1147 wm10 wm1148 ⟨Nat.le_of_ble_eq_true rfl, Nat.le_of_ble_eq_true rfl⟩) ?_
  refine xAll_c (xs_iret C dX9_about_103 rfl) ?_
  refine xAll_c (xs_bipush C dX9_about_104 (by decide)) ?_
  refine xAll_c (xs_iload_n C dX9_about_106 rfl) ?_
  refine xAll_c (xs_imul C dX9_about_107) ?_
  refine xAll_c (xs_iret C dX9_about_108 rfl) ?_
  refine xAll_c (xs_iconst C dX9_about_109 (by decide)) ?_
  refine xAll_c (xs_istore_n C dX9_about_110 rfl) ?_
  refine xAll_c (xs_iconst C dX9_about_111 (by decide)) ?_
  refine xAll_c (xs_istore C dX9_about_112) ?_
  refine xAll_c (xs_iload C dX9_about_114) ?_
  refine xAll_c (xs_aload_n C dX9_about_116 rfl) ?_
  refine xAll_c (xs_getR C dX9_about_117 (rfl : vwCl[9]? = some (RX9, TX9, 17)) win9 rfl (by decide) (by decide) rfl wm1021) ?_
  refine xAll_c (xs_iconst C dX9_about_120 (by decide)) ?_
  refine xAll_c (xs_iald C dX9_about_121) ?_
  refine xAll_c (xs_icmp_ge C dX9_about_122 (by decide)) ?_
  refine xAll_c (xs_iload_n C dX9_about_125 rfl) ?_
  refine xAll_c (xs_aload_n C dX9_about_126 rfl) ?_
  refine xAll_c (xs_getR C dX9_about_127 (rfl : vwCl[9]? = some (RX9, TX9, 17)) win9 rfl (by decide) (by decide) rfl wm1021) ?_
  refine xAll_c (xs_bipush C dX9_about_130 (by decide)) ?_
  refine xAll_c (xs_iload C dX9_about_132) ?_
  refine xAll_c (xs_iadd C dX9_about_134) ?_
  refine xAll_c (xs_iald C dX9_about_135) ?_
  refine xAll_c (xs_if_le C dX9_about_136 (by decide)) ?_
  refine xAll_c (xs_iconst C dX9_about_139 (by decide)) ?_
  refine xAll_c (xs_goto C dX9_about_140 (by decide)) ?_
  refine xAll_c (xs_iconst C dX9_about_143 (by decide)) ?_
  refine xAll_c (xs_iadd C dX9_about_144) ?_
  refine xAll_c (xs_istore_n C dX9_about_145 rfl) ?_
  refine xAll_c (xs_iinc C dX9_about_146 rfl) ?_
  refine xAll_c (xs_goto C dX9_about_149 (by decide)) ?_
  refine xAll_c (xs_iload_n C dX9_about_152 rfl) ?_
  refine xAll_c (xs_iret C dX9_about_153 rfl) ?_
  refine xAll_c (xs_iload_n C dX9_about_154 rfl) ?_
  refine xAll_c (xs_if_ne C dX9_about_155 (by decide)) ?_
  refine xAll_c (xs_sipush C dX9_about_158 (by decide)) ?_
  refine xAll_c (xs_goto C dX9_about_161 (by decide)) ?_
  refine xAll_c (xs_aload_n C dX9_about_164 rfl) ?_
  refine xAll_c (xs_getR C dX9_about_165 (rfl : vwCl[9]? = some (RX9, TX9, 17)) win9 rfl (by decide) (by decide) rfl wm1021) ?_
  refine xAll_c (xs_bipush C dX9_about_168 (by decide)) ?_
  refine xAll_c (xs_iload_n C dX9_about_170 rfl) ?_
  refine xAll_c (xs_callSV C (m_X9_smallestIn l g) dX9_about_171 rfl ⟨(by decide), (by decide), by decide +kernel⟩ wm1173 wm1174 wm10 wm1175 ⟨Nat.le_of_ble_eq_true rfl, Nat.le_of_ble_eq_true rfl⟩) ?_
  refine xAll_c (xs_iret C dX9_about_174 rfl) ?_
  refine xAll_c (xs_iload_n C dX9_about_175 rfl) ?_
  refine xAll_c (xs_if_ne C dX9_about_176 (by decide)) ?_
  refine xAll_c (xs_sipush C dX9_about_179 (by decide)) ?_
  refine xAll_c (xs_goto C dX9_about_182 (by decide)) ?_
  refine xAll_c (xs_aload_n C dX9_about_185 rfl) ?_
  refine xAll_c (xs_getR C dX9_about_186 (rfl : vwCl[9]? = some (RX9, TX9, 17)) win9 rfl (by decide) (by decide) rfl wm1021) ?_
  refine xAll_c (xs_bipush C dX9_about_189 (by decide)) ?_
  refine xAll_c (xs_iload_n C dX9_about_191 rfl) ?_
  refine xAll_c (xs_callSV C (m_X9_greatestIn l g) dX9_about_192 rfl ⟨(by decide), (by decide), by decide +kernel⟩ wm1170 wm1171 wm10 wm1172 ⟨Nat.le_of_ble_eq_true rfl, Nat.le_of_ble_eq_true rfl⟩) ?_
  refine xAll_c (xs_iret C dX9_about_195 rfl) ?_
  refine xAll_c (xs_aload_n C dX9_about_196 rfl) ?_
  refine xAll_c (xs_getR C dX9_about_197 (rfl : vwCl[9]? = some (RX9, TX9, 17)) win9 rfl (by decide) (by decide) rfl wm1021) ?_
  refine xAll_c (xs_bipush C dX9_about_200 (by decide)) ?_
  refine xAll_c (xs_iload_n C dX9_about_202 rfl) ?_
  refine xAll_c (xs_callSV C (m_X9_differentIn l g) dX9_about_203 rfl ⟨(by decide), (by decide), by decide +kernel⟩ wm1161 wm1162 wm10 wm1163 ⟨Nat.le_of_ble_eq_true rfl, Nat.le_of_ble_eq_true rfl⟩) ?_
  refine xAll_c (xs_iret C dX9_about_206 rfl) ?_
  exact trivial
noncomputable def k_X9_at : xCode := [(0, oAload 0 1), (1, oAload 0 2), (2, oGetR 9 4 5), (5, oIload 1 6), (6, oCallSV 2 f_X9_isValue 9), (9, oIf1 (fun x => decide (x = 0)) 16 12), (12, oConst (nI 0) 13), (13, oGoto 17), (16, oConst (nI 1) 17), (17, oCallV 9 1 f_X9_refused 20), (20, oIf1 (fun x => decide (x = 0)) 25 23), (23, oConst (nI 0) 24), (24, oIret), (25, oAload 0 26), (26, oGetR 9 4 29), (29, oConst (nI 22) 31), (31, oIload 1 32), (32, oBin (fun x y => x + y) 33), (33, oIald 34), (34, oIret)]
noncomputable def f_X9_at : xRun := xrun k_X9_at 2
set_option maxHeartbeats 4000000 in
set_option maxRecDepth 100000 in
theorem m_X9_at (l : Launch) (g : xG) : xMet l g yX9_at cX9_at 2 (some .int) 3 64 f_X9_at := by
  refine xmet_of (own := RX9) (by decide +kernel) rfl (fun p e s m args below meth c r0 C => ?_)
  refine xAll_c (xs_aload_n C dX9_at_0 rfl) ?_
  refine xAll_c (xs_aload_n C dX9_at_1 rfl) ?_
  refine xAll_c (xs_getR C dX9_at_2 (rfl : vwCl[9]? = some (RX9, TX9, 17)) win9 rfl (by decide) (by decide) rfl wm1021) ?_
  refine xAll_c (xs_iload_n C dX9_at_5 rfl) ?_
  refine xAll_c (xs_callSV C (m_X9_isValue l g) dX9_at_6 rfl ⟨(by decide), (by decide), by decide +kernel⟩ wm1183 wm1184 wm10 wm1185 ⟨Nat.le_of_ble_eq_true rfl, Nat.le_of_ble_eq_true rfl⟩) ?_
  refine xAll_c (xs_if_eq C dX9_at_9 (by decide)) ?_
  refine xAll_c (xs_iconst C dX9_at_12 (by decide)) ?_
  refine xAll_c (xs_goto C dX9_at_13 (by decide)) ?_
  refine xAll_c (xs_iconst C dX9_at_16 (by decide)) ?_
  refine xAll_c (xs_callV C (m_X9_refused l g) dX9_at_17 (rfl : vwCl[9]? = some (RX9, TX9, 17)) (by decide) rfl ⟨(by decide), (by decide), by decide +kernel⟩ wm1082 wm1084 wp31 wm10 wm1085 ⟨Nat.le_of_ble_eq_true rfl, Nat.le_of_ble_eq_true rfl⟩) ?_
  refine xAll_c (xs_if_eq C dX9_at_20 (by decide)) ?_
  refine xAll_c (xs_iconst C dX9_at_23 (by decide)) ?_
  refine xAll_c (xs_iret C dX9_at_24 rfl) ?_
  refine xAll_c (xs_aload_n C dX9_at_25 rfl) ?_
  refine xAll_c (xs_getR C dX9_at_26 (rfl : vwCl[9]? = some (RX9, TX9, 17)) win9 rfl (by decide) (by decide) rfl wm1021) ?_
  refine xAll_c (xs_bipush C dX9_at_29 (by decide)) ?_
  refine xAll_c (xs_iload_n C dX9_at_31 rfl) ?_
  refine xAll_c (xs_iadd C dX9_at_32) ?_
  refine xAll_c (xs_iald C dX9_at_33) ?_
  refine xAll_c (xs_iret C dX9_at_34 rfl) ?_
  exact trivial
noncomputable def k_X9_page : xCode := [(0, oAload 0 1), (1, oAload 0 2), (2, oGetR 9 4 5), (5, oIload 1 6), (6, oCallSV 2 f_X9_isPage 9), (9, oIf1 (fun x => !(decide (x = 0))) 16 12), (12, oConst (nI 1) 13), (13, oGoto 33), (16, oIload 2 17), (17, oI2l 18), (18, oLconst (0) 19), (19, oLconst (8) 22), (22, oCallSV 3 f_X9_in 25), (25, oIf1 (fun x => decide (x = 0)) 32 28), (28, oConst (nI 0) 29), (29, oGoto 33), (32, oConst (nI 2) 33), (33, oCallV 9 1 f_X9_refused 36), (36, oIf1 (fun x => decide (x = 0)) 41 39), (39, oConst (nI 0) 40), (40, oIret), (41, oAload 0 42), (42, oGetR 9 4 45), (45, oIload 1 46), (46, oCallSV 2 f_X9_firstOf 49), (49, oIstore 3 5 50), (50, oAload 0 51), (51, oGetR 9 4 54), (54, oConst (nI 2) 55), (55, oIload 1 56), (56, oBin (fun x y => x + y) 57), (57, oIald 58), (58, oIstore 4 5 60), (60, oIload 2 61), (61, oTab 0 [108, 110, 113, 122, 131, 145, 159, 173] 187), (108, oIload 3 109), (109, oIret), (110, oIload 4 112), (112, oIret), (113, oAload 0 114), (114, oGetR 9 4 117), (117, oIload 1 118), (118, oCallSV 2 f_X9_codingOf 121), (121, oIret), (122, oAload 0 123), (123, oGetR 9 4 126), (126, oIload 1 127), (127, oCallSV 2 f_X9_sizeOfPage 130), (130, oIret), (131, oAload 0 132), (132, oGetR 9 4 135), (135, oConst (nI 22) 137), (137, oIload 3 138), (138, oBin (fun x y => x + y) 139), (139, oIload 4 141), (141, oCallSV 3 f_X9_smallestIn 144), (144, oIret), (145, oAload 0 146), (146, oGetR 9 4 149), (149, oConst (nI 22) 151), (151, oIload 3 152), (152, oBin (fun x y => x + y) 153), (153, oIload 4 155), (155, oCallSV 3 f_X9_greatestIn 158), (158, oIret), (159, oAload 0 160), (160, oGetR 9 4 163), (163, oConst (nI 22) 165), (165, oIload 3 166), (166, oBin (fun x y => x + y) 167), (167, oIload 4 169), (169, oCallSV 3 f_X9_differentIn 172), (172, oIret), (173, oAload 0 174), (174, oGetR 9 4 177), (177, oConst (nI 22) 179), (179, oIload 3 180), (180, oBin (fun x y => x + y) 181), (181, oIload 4 183), (183, oCallSV 3 f_X9_runsIn 186), (186, oIret), (187, oAload 0 188), (188, oGetR 9 4 191), (191, oConst (nI 12) 193), (193, oIload 1 194), (194, oBin (fun x y => x + y) 195), (195, oIald 196), (196, oIf1 (fun x => !(decide (x = 0))) 205 199), (199, oConst (-9999) 202), (202, oGoto 216), (205, oAload 0 206), (206, oGetR 9 4 209), (209, oConst (nI 12) 211), (211, oIload 1 212), (212, oBin (fun x y => x + y) 213), (213, oIald 214), (214, oConst (nI 1) 215), (215, oBin (fun x y => x - y) 216), (216, oIret)]
noncomputable def f_X9_page : xRun := xrun k_X9_page 5
set_option maxHeartbeats 4000000 in
set_option maxRecDepth 100000 in
theorem m_X9_page (l : Launch) (g : xG) : xMet l g yX9_page cX9_page 5 (some .int) 6 139 f_X9_page := by
  refine xmet_of (own := RX9) (by decide +kernel) rfl (fun p e s m args below meth c r0 C => ?_)
  refine xAll_c (xs_aload_n C dX9_page_0 rfl) ?_
  refine xAll_c (xs_aload_n C dX9_page_1 rfl) ?_
  refine xAll_c (xs_getR C dX9_page_2 (rfl : vwCl[9]? = some (RX9, TX9, 17)) win9 rfl (by decide) (by decide) rfl wm1021) ?_
  refine xAll_c (xs_iload_n C dX9_page_5 rfl) ?_
  refine xAll_c (xs_callSV C (m_X9_isPage l g) dX9_page_6 rfl ⟨(by decide), (by decide), by decide +kernel⟩ wm1190 wm1191 wm10 wm1192 ⟨Nat.le_of_ble_eq_true rfl, Nat.le_of_ble_eq_true rfl⟩) ?_
  refine xAll_c (xs_if_ne C dX9_page_9 (by decide)) ?_
  refine xAll_c (xs_iconst C dX9_page_12 (by decide)) ?_
  refine xAll_c (xs_goto C dX9_page_13 (by decide)) ?_
  refine xAll_c (xs_iload_n C dX9_page_16 rfl) ?_
  refine xAll_c (xs_i2l C dX9_page_17) ?_
  refine xAll_c (xs_lconst C dX9_page_18 (by decide)) ?_
  refine xAll_c (xs_ldc2 C dX9_page_19 wm1139) ?_
  refine xAll_c (xs_callSV C (m_X9_in l g) dX9_page_22 rfl ⟨(by decide), (by decide), by decide +kernel⟩ wm1079 wm1080 wm10 wm1081 ⟨Nat.le_of_ble_eq_true rfl, Nat.le_of_ble_eq_true rfl⟩) ?_
  refine xAll_c (xs_if_eq C dX9_page_25 (by decide)) ?_
  refine xAll_c (xs_iconst C dX9_page_28 (by decide)) ?_
  refine xAll_c (xs_goto C dX9_page_29 (by decide)) ?_
  refine xAll_c (xs_iconst C dX9_page_32 (by decide)) ?_
  refine xAll_c (xs_callV C (m_X9_refused l g) dX9_page_33 (rfl : vwCl[9]? = some (RX9, TX9, 17)) (by decide) rfl ⟨(by decide), (by decide), by decide +kernel⟩ wm1082 wm1084 wp31 wm10 wm1085 ⟨Nat.le_of_ble_eq_true rfl, Nat.le_of_ble_eq_true rfl⟩) ?_
  refine xAll_c (xs_if_eq C dX9_page_36 (by decide)) ?_
  refine xAll_c (xs_iconst C dX9_page_39 (by decide)) ?_
  refine xAll_c (xs_iret C dX9_page_40 rfl) ?_
  refine xAll_c (xs_aload_n C dX9_page_41 rfl) ?_
  refine xAll_c (xs_getR C dX9_page_42 (rfl : vwCl[9]? = some (RX9, TX9, 17)) win9 rfl (by decide) (by decide) rfl wm1021) ?_
  refine xAll_c (xs_iload_n C dX9_page_45 rfl) ?_
  refine xAll_c (xs_callSV C (m_X9_firstOf l g) dX9_page_46 rfl ⟨(by decide), (by decide), by decide +kernel⟩ wm1143 wm1144 wm10 wm1145 ⟨Nat.le_of_ble_eq_true rfl, Nat.le_of_ble_eq_true rfl⟩) ?_
  refine xAll_c (xs_istore_n C dX9_page_49 rfl) ?_
  refine xAll_c (xs_aload_n C dX9_page_50 rfl) ?_
  refine xAll_c (xs_getR C dX9_page_51 (rfl : vwCl[9]? = some (RX9, TX9, 17)) win9 rfl (by decide) (by decide) rfl wm1021) ?_
  refine xAll_c (xs_iconst C dX9_page_54 (by decide)) ?_
  refine xAll_c (xs_iload_n C dX9_page_55 rfl) ?_
  refine xAll_c (xs_iadd C dX9_page_56) ?_
  refine xAll_c (xs_iald C dX9_page_57) ?_
  refine xAll_c (xs_istore C dX9_page_58) ?_
  refine xAll_c (xs_iload_n C dX9_page_60 rfl) ?_
  refine xAll_c (xs_tab C dX9_page_61 (by decide) (by decide) (by decide)) ?_
  refine xAll_c (xs_iload_n C dX9_page_108 rfl) ?_
  refine xAll_c (xs_iret C dX9_page_109 rfl) ?_
  refine xAll_c (xs_iload C dX9_page_110) ?_
  refine xAll_c (xs_iret C dX9_page_112 rfl) ?_
  refine xAll_c (xs_aload_n C dX9_page_113 rfl) ?_
  refine xAll_c (xs_getR C dX9_page_114 (rfl : vwCl[9]? = some (RX9, TX9, 17)) win9 rfl (by decide) (by decide) rfl wm1021) ?_
  refine xAll_c (xs_iload_n C dX9_page_117 rfl) ?_
  refine xAll_c (xs_callSV C (m_X9_codingOf l g) dX9_page_118 rfl ⟨(by decide), (by decide), by decide +kernel⟩ wm1193 wm1194 wm10 wm1195 ⟨Nat.le_of_ble_eq_true rfl, Nat.le_of_ble_eq_true rfl⟩) ?_
  refine xAll_c (xs_iret C dX9_page_121 rfl) ?_
  refine xAll_c (xs_aload_n C dX9_page_122 rfl) ?_
  refine xAll_c (xs_getR C dX9_page_123 (rfl : vwCl[9]? = some (RX9, TX9, 17)) win9 rfl (by decide) (by decide) rfl wm1021) ?_
  refine xAll_c (xs_iload_n C dX9_page_126 rfl) ?_
  refine xAll_c (xs_callSV C (m_X9_sizeOfPage l g) dX9_page_127 rfl ⟨(by decide), (by decide), by decide +kernel⟩ wm1149 wm1150 wm10 wm1151 ⟨Nat.le_of_ble_eq_true rfl, Nat.le_of_ble_eq_true rfl⟩) ?_
  refine xAll_c (xs_iret C dX9_page_130 rfl) ?_
  refine xAll_c (xs_aload_n C dX9_page_131 rfl) ?_
  refine xAll_c (xs_getR C dX9_page_132 (rfl : vwCl[9]? = some (RX9, TX9, 17)) win9 rfl (by decide) (by decide) rfl wm1021) ?_
  refine xAll_c (xs_bipush C dX9_page_135 (by decide)) ?_
  refine xAll_c (xs_iload_n C dX9_page_137 rfl) ?_
  refine xAll_c (xs_iadd C dX9_page_138) ?_
  refine xAll_c (xs_iload C dX9_page_139) ?_
  refine xAll_c (xs_callSV C (m_X9_smallestIn l g) dX9_page_141 rfl ⟨(by decide), (by decide), by decide +kernel⟩ wm1173 wm1174 wm10 wm1175 ⟨Nat.le_of_ble_eq_true rfl, Nat.le_of_ble_eq_true rfl⟩) ?_
  refine xAll_c (xs_iret C dX9_page_144 rfl) ?_
  refine xAll_c (xs_aload_n C dX9_page_145 rfl) ?_
  refine xAll_c (xs_getR C dX9_page_146 (rfl : vwCl[9]? = some (RX9, TX9, 17)) win9 rfl (by decide) (by decide) rfl wm1021) ?_
  refine xAll_c (xs_bipush C dX9_page_149 (by decide)) ?_
  refine xAll_c (xs_iload_n C dX9_page_151 rfl) ?_
  refine xAll_c (xs_iadd C dX9_page_152) ?_
  refine xAll_c (xs_iload C dX9_page_153) ?_
  refine xAll_c (xs_callSV C (m_X9_greatestIn l g) dX9_page_155 rfl ⟨(by decide), (by decide), by decide +kernel⟩ wm1170 wm1171 wm10 wm1172 ⟨Nat.le_of_ble_eq_true rfl, Nat.le_of_ble_eq_true rfl⟩) ?_
  refine xAll_c (xs_iret C dX9_page_158 rfl) ?_
  refine xAll_c (xs_aload_n C dX9_page_159 rfl) ?_
  refine xAll_c (xs_getR C dX9_page_160 (rfl : vwCl[9]? = some (RX9, TX9, 17)) win9 rfl (by decide) (by decide) rfl wm1021) ?_
  refine xAll_c (xs_bipush C dX9_page_163 (by decide)) ?_
  refine xAll_c (xs_iload_n C dX9_page_165 rfl) ?_
  refine xAll_c (xs_iadd C dX9_page_166) ?_
  refine xAll_c (xs_iload C dX9_page_167) ?_
  refine xAll_c (xs_callSV C (m_X9_differentIn l g) dX9_page_169 rfl ⟨(by decide), (by decide), by decide +kernel⟩ wm1161 wm1162 wm10 wm1163 ⟨Nat.le_of_ble_eq_true rfl, Nat.le_of_ble_eq_true rfl⟩) ?_
  refine xAll_c (xs_iret C dX9_page_172 rfl) ?_
  refine xAll_c (xs_aload_n C dX9_page_173 rfl) ?_
  refine xAll_c (xs_getR C dX9_page_174 (rfl : vwCl[9]? = some (RX9, TX9, 17)) win9 rfl (by decide) (by decide) rfl wm1021) ?_
  refine xAll_c (xs_bipush C dX9_page_177 (by decide)) ?_
  refine xAll_c (xs_iload_n C dX9_page_179 rfl) ?_
  refine xAll_c (xs_iadd C dX9_page_180) ?_
  refine xAll_c (xs_iload C dX9_page_181) ?_
  refine xAll_c (xs_callSV C (m_X9_runsIn l g) dX9_page_183 rfl ⟨(by decide), (by decide), by decide +kernel⟩ wm1167 wm1168 wm10 wm1169 ⟨Nat.le_of_ble_eq_true rfl, Nat.le_of_ble_eq_true rfl⟩) ?_
  refine xAll_c (xs_iret C dX9_page_186 rfl) ?_
  refine xAll_c (xs_aload_n C dX9_page_187 rfl) ?_
  refine xAll_c (xs_getR C dX9_page_188 (rfl : vwCl[9]? = some (RX9, TX9, 17)) win9 rfl (by decide) (by decide) rfl wm1021) ?_
  refine xAll_c (xs_bipush C dX9_page_191 (by decide)) ?_
  refine xAll_c (xs_iload_n C dX9_page_193 rfl) ?_
  refine xAll_c (xs_iadd C dX9_page_194) ?_
  refine xAll_c (xs_iald C dX9_page_195) ?_
  refine xAll_c (xs_if_ne C dX9_page_196 (by decide)) ?_
  refine xAll_c (xs_sipush C dX9_page_199 (by decide)) ?_
  refine xAll_c (xs_goto C dX9_page_202 (by decide)) ?_
  refine xAll_c (xs_aload_n C dX9_page_205 rfl) ?_
  refine xAll_c (xs_getR C dX9_page_206 (rfl : vwCl[9]? = some (RX9, TX9, 17)) win9 rfl (by decide) (by decide) rfl wm1021) ?_
  refine xAll_c (xs_bipush C dX9_page_209 (by decide)) ?_
  refine xAll_c (xs_iload_n C dX9_page_211 rfl) ?_
  refine xAll_c (xs_iadd C dX9_page_212) ?_
  refine xAll_c (xs_iald C dX9_page_213) ?_
  refine xAll_c (xs_iconst C dX9_page_214 (by decide)) ?_
  refine xAll_c (xs_isub C dX9_page_215) ?_
  refine xAll_c (xs_iret C dX9_page_216 rfl) ?_
  exact trivial
noncomputable def k_X9_bit : xCode := [(0, oAload 0 1), (1, oAload 0 2), (2, oGetR 9 4 5), (5, oIload 1 6), (6, oCallSV 2 f_X9_isPage 9), (9, oIf1 (fun x => !(decide (x = 0))) 16 12), (12, oConst (nI 1) 13), (13, oGoto 25), (16, oIload 2 17), (17, oIf1 (fun x => decide (0 ≤ x)) 24 20), (20, oConst (nI 2) 21), (21, oGoto 25), (24, oConst (nI 0) 25), (25, oCallV 9 1 f_X9_refused 28), (28, oIf1 (fun x => decide (x = 0)) 33 31), (31, oConst (nI 0) 32), (32, oIret), (33, oAload 0 34), (34, oIload 1 35), (35, oCallU 9 1 f_X9_writePage 38), (38, oIload 2 39), (39, oAload 0 40), (40, oGetI 9 12 43), (43, oIf2 (fun x y => decide (y ≤ x)) 55 46), (46, oAload 0 47), (47, oGetR 9 11 50), (50, oIload 2 51), (51, oIald 52), (52, oGoto 58), (55, oConst (-9999) 58), (58, oIret)]
noncomputable def f_X9_bit : xRun := xrun k_X9_bit 3
set_option maxHeartbeats 4000000 in
set_option maxRecDepth 100000 in
theorem m_X9_bit (l : Launch) (g : xG) : xMet l g yX9_bit cX9_bit 3 (some .int) 6 143 f_X9_bit := by
  refine xmet_of (own := RX9) (by decide +kernel) rfl (fun p e s m args below meth c r0 C => ?_)
  refine xAll_c (xs_aload_n C dX9_bit_0 rfl) ?_
  refine xAll_c (xs_aload_n C dX9_bit_1 rfl) ?_
  refine xAll_c (xs_getR C dX9_bit_2 (rfl : vwCl[9]? = some (RX9, TX9, 17)) win9 rfl (by decide) (by decide) rfl wm1021) ?_
  refine xAll_c (xs_iload_n C dX9_bit_5 rfl) ?_
  refine xAll_c (xs_callSV C (m_X9_isPage l g) dX9_bit_6 rfl ⟨(by decide), (by decide), by decide +kernel⟩ wm1190 wm1191 wm10 wm1192 ⟨Nat.le_of_ble_eq_true rfl, Nat.le_of_ble_eq_true rfl⟩) ?_
  refine xAll_c (xs_if_ne C dX9_bit_9 (by decide)) ?_
  refine xAll_c (xs_iconst C dX9_bit_12 (by decide)) ?_
  refine xAll_c (xs_goto C dX9_bit_13 (by decide)) ?_
  refine xAll_c (xs_iload_n C dX9_bit_16 rfl) ?_
  refine xAll_c (xs_if_ge C dX9_bit_17 (by decide)) ?_
  refine xAll_c (xs_iconst C dX9_bit_20 (by decide)) ?_
  refine xAll_c (xs_goto C dX9_bit_21 (by decide)) ?_
  refine xAll_c (xs_iconst C dX9_bit_24 (by decide)) ?_
  refine xAll_c (xs_callV C (m_X9_refused l g) dX9_bit_25 (rfl : vwCl[9]? = some (RX9, TX9, 17)) (by decide) rfl ⟨(by decide), (by decide), by decide +kernel⟩ wm1082 wm1084 wp31 wm10 wm1085 ⟨Nat.le_of_ble_eq_true rfl, Nat.le_of_ble_eq_true rfl⟩) ?_
  refine xAll_c (xs_if_eq C dX9_bit_28 (by decide)) ?_
  refine xAll_c (xs_iconst C dX9_bit_31 (by decide)) ?_
  refine xAll_c (xs_iret C dX9_bit_32 rfl) ?_
  refine xAll_c (xs_aload_n C dX9_bit_33 rfl) ?_
  refine xAll_c (xs_iload_n C dX9_bit_34 rfl) ?_
  refine xAll_c (xs_callU C (m_X9_writePage l g) dX9_bit_35 (rfl : vwCl[9]? = some (RX9, TX9, 17)) (by decide) rfl ⟨(by decide), (by decide), by decide +kernel⟩ wm1200 wm1202 wp40 wm10 wm1203 ⟨Nat.le_of_ble_eq_true rfl, Nat.le_of_ble_eq_true rfl⟩) ?_
  refine xAll_c (xs_iload_n C dX9_bit_38 rfl) ?_
  refine xAll_c (xs_aload_n C dX9_bit_39 rfl) ?_
  refine xAll_c (xs_getI C dX9_bit_40 (rfl : vwCl[9]? = some (RX9, TX9, 17)) win9 rfl (by decide) (by decide) rfl wm1029) ?_
  refine xAll_c (xs_icmp_ge C dX9_bit_43 (by decide)) ?_
  refine xAll_c (xs_aload_n C dX9_bit_46 rfl) ?_
  refine xAll_c (xs_getR C dX9_bit_47 (rfl : vwCl[9]? = some (RX9, TX9, 17)) win9 rfl (by decide) (by decide) rfl wm1028) ?_
  refine xAll_c (xs_iload_n C dX9_bit_50 rfl) ?_
  refine xAll_c (xs_iald C dX9_bit_51) ?_
  refine xAll_c (xs_goto C dX9_bit_52 (by decide)) ?_
  refine xAll_c (xs_sipush C dX9_bit_55 (by decide)) ?_
  refine xAll_c (xs_iret C dX9_bit_58 rfl) ?_
  exact trivial
