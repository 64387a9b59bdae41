noncomputable def k_X0_canAppend : xCode := [(0, oAload 0 1), (1, oCallV 0 0 f_X0_lastPageHasRoom 4), (4, oIf1 (fun x => !(decide (x = 0))) 14 7), (7, oAload 0 8), (8, oCallV 0 0 f_X0_isFull 11), (11, oIf1 (fun x => !(decide (x = 0))) 18 14), (14, oConst (nI 1) 15), (15, oGoto 19), (18, oConst (nI 0) 19), (19, oZret)]
noncomputable def f_X0_canAppend : xRun := xrun k_X0_canAppend 1
set_option maxHeartbeats 4000000 in
set_option maxRecDepth 100000 in
theorem m_X0_canAppend (l : Launch) (g : xG) : xMet l g yX0_canAppend cX0_canAppend 1 (some .boolean) 3 62 f_X0_canAppend := by
  refine xmet_of (own := RX0) (by decide +kernel) rfl (fun p e s m args below meth c r0 C => ?_)
  refine xAll_c (xs_aload_n C dX0_canAppend_0 rfl) ?_
  refine xAll_c (xs_callV C (m_X0_lastPageHasRoom l g) dX0_canAppend_1 (rfl : vwCl[0]? = some (RX0, TX0, 7)) (by decide) rfl ⟨(by decide), (by decide), by decide +kernel⟩ wm731 wm733 wp22 wm2 wm734 ⟨Nat.le_of_ble_eq_true rfl, Nat.le_of_ble_eq_true rfl⟩) ?_
  refine xAll_c (xs_if_ne C dX0_canAppend_4 (by decide)) ?_
  refine xAll_c (xs_aload_n C dX0_canAppend_7 rfl) ?_
  refine xAll_c (xs_callV C (m_X0_isFull l g) dX0_canAppend_8 (rfl : vwCl[0]? = some (RX0, TX0, 7)) (by decide) rfl ⟨(by decide), (by decide), by decide +kernel⟩ wm735 wm736 wm737 wm2 wm738 ⟨Nat.le_of_ble_eq_true rfl, Nat.le_of_ble_eq_true rfl⟩) ?_
  refine xAll_c (xs_if_ne C dX0_canAppend_11 (by decide)) ?_
  refine xAll_c (xs_iconst C dX0_canAppend_14 (by decide)) ?_
  refine xAll_c (xs_goto C dX0_canAppend_15 (by decide)) ?_
  refine xAll_c (xs_iconst C dX0_canAppend_18 (by decide)) ?_
  refine xAll_c (xs_zret C dX0_canAppend_19 rfl) ?_
  exact trivial
noncomputable def k_X5_set : xCode := [(0, oIload 1 1), (1, oIf1 (fun x => decide (x < 0)) 20 4), (4, oIload 1 5), (5, oAload 0 6), (6, oGetR 5 0 9), (9, oAlen 10 10), (10, oIf2 (fun x y => decide (y ≤ x)) 20 13), (13, oAload 0 14), (14, oGetR 5 0 17), (17, oIload 1 18), (18, oIload 2 19), (19, oIast 20), (20, oVret)]
noncomputable def f_X5_set : xRun := xrun k_X5_set 3
set_option maxHeartbeats 4000000 in
set_option maxRecDepth 100000 in
theorem m_X5_set (l : Launch) (g : xG) : xMet l g yX5_set cX5_set 3 none 0 0 f_X5_set := by
  refine xmet_of (own := RX5) (by decide +kernel) rfl (fun p e s m args below meth c r0 C => ?_)
  refine xAll_c (xs_iload_n C dX5_set_0 rfl) ?_
  refine xAll_c (xs_if_lt C dX5_set_1 (by decide)) ?_
  refine xAll_c (xs_iload_n C dX5_set_4 rfl) ?_
  refine xAll_c (xs_aload_n C dX5_set_5 rfl) ?_
  refine xAll_c (xs_getR C dX5_set_6 (rfl : vwCl[5]? = some (RX5, TX5, 1)) win5 rfl (by decide) (by decide) rfl wm39) ?_
  refine xAll_c (xs_alen C dX5_set_9 (Or.inl rfl)) ?_
  refine xAll_c (xs_icmp_ge C dX5_set_10 (by decide)) ?_
  refine xAll_c (xs_aload_n C dX5_set_13 rfl) ?_
  refine xAll_c (xs_getR C dX5_set_14 (rfl : vwCl[5]? = some (RX5, TX5, 1)) win5 rfl (by decide) (by decide) rfl wm39) ?_
  refine xAll_c (xs_iload_n C dX5_set_17 rfl) ?_
  refine xAll_c (xs_iload_n C dX5_set_18 rfl) ?_
  refine xAll_c (xs_iast C dX5_set_19) ?_
  refine xAll_c (xs_vret C dX5_set_20 rfl) ?_
  exact trivial
noncomputable def k_X5_insertAt : xCode := [(0, oAload 0 1), (1, oGetR 5 0 4), (4, oAlen 10 5), (5, oConst (nI 1) 6), (6, oBin (fun x y => x - y) 7), (7, oIstore 3 4 8), (8, oIload 3 9), (9, oIload 1 10), (10, oIf2 (fun x y => decide (x ≤ y)) 31 13), (13, oAload 0 14), (14, oIload 3 15), (15, oAload 0 16), (16, oIload 3 17), (17, oConst (nI 1) 18), (18, oBin (fun x y => x - y) 19), (19, oCallV 5 1 f_X5_get 22), (22, oCallU 5 2 f_X5_set 25), (25, oIinc 3 (-1) 4 28), (28, oGoto 8), (31, oAload 0 32), (32, oIload 1 33), (33, oIload 2 34), (34, oCallU 5 2 f_X5_set 37), (37, oVret)]
noncomputable def f_X5_insertAt : xRun := xrun k_X5_insertAt 4
set_option maxHeartbeats 4000000 in
set_option maxRecDepth 100000 in
theorem m_X5_insertAt (l : Launch) (g : xG) : xMet l g yX5_insertAt cX5_insertAt 4 none 1 22 f_X5_insertAt := by
  refine xmet_of (own := RX5) (by decide +kernel) rfl (fun p e s m args below meth c r0 C => ?_)
  refine xAll_c (xs_aload_n C dX5_insertAt_0 rfl) ?_
  refine xAll_c (xs_getR C dX5_insertAt_1 (rfl : vwCl[5]? = some (RX5, TX5, 1)) win5 rfl (by decide) (by decide) rfl wm39) ?_
  refine xAll_c (xs_alen C dX5_insertAt_4 (Or.inl rfl)) ?_
  refine xAll_c (xs_iconst C dX5_insertAt_5 (by decide)) ?_
  refine xAll_c (xs_isub C dX5_insertAt_6) ?_
  refine xAll_c (xs_istore_n C dX5_insertAt_7 rfl) ?_
  refine xAll_c (xs_iload_n C dX5_insertAt_8 rfl) ?_
  refine xAll_c (xs_iload_n C dX5_insertAt_9 rfl) ?_
  refine xAll_c (xs_icmp_le C dX5_insertAt_10 (by decide)) ?_
  refine xAll_c (xs_aload_n C dX5_insertAt_13 rfl) ?_
  refine xAll_c (xs_iload_n C dX5_insertAt_14 rfl) ?_
  refine xAll_c (xs_aload_n C dX5_insertAt_15 rfl) ?_
  refine xAll_c (xs_iload_n C dX5_insertAt_16 rfl) ?_
  refine xAll_c (xs_iconst C dX5_insertAt_17 (by decide)) ?_
  refine xAll_c (xs_isub C dX5_insertAt_18) ?_
  refine xAll_c (xs_callV C (m_X5_get l g) dX5_insertAt_19 (rfl : vwCl[5]? = some (RX5, TX5, 1)) (by decide) rfl ⟨(by decide), (by decide), by decide +kernel⟩ wm345 wm280 wm281 wm3 wm282 ⟨Nat.le_of_ble_eq_true rfl, Nat.le_of_ble_eq_true rfl⟩) ?_
  refine xAll_c (xs_callU C (m_X5_set l g) dX5_insertAt_22 (rfl : vwCl[5]? = some (RX5, TX5, 1)) (by decide) rfl ⟨(by decide), (by decide), by decide +kernel⟩ wm427 wm292 wm293 wm3 wm294 ⟨Nat.le_of_ble_eq_true rfl, Nat.le_of_ble_eq_true rfl⟩) ?_
  refine xAll_c (xs_iinc C dX5_insertAt_25 rfl) ?_
  refine xAll_c (xs_goto C dX5_insertAt_28 (by decide)) ?_
  refine xAll_c (xs_aload_n C dX5_insertAt_31 rfl) ?_
  refine xAll_c (xs_iload_n C dX5_insertAt_32 rfl) ?_
  refine xAll_c (xs_iload_n C dX5_insertAt_33 rfl) ?_
  refine xAll_c (xs_callU C (m_X5_set l g) dX5_insertAt_34 (rfl : vwCl[5]? = some (RX5, TX5, 1)) (by decide) rfl ⟨(by decide), (by decide), by decide +kernel⟩ wm427 wm292 wm293 wm3 wm294 ⟨Nat.le_of_ble_eq_true rfl, Nat.le_of_ble_eq_true rfl⟩) ?_
  refine xAll_c (xs_vret C dX5_insertAt_37 rfl) ?_
  exact trivial
noncomputable def k_X0_openPage : xCode := [(0, oAload 0 1), (1, oGetR 0 1 4), (4, oIload 1 5), (5, oIload 2 6), (6, oCallU 5 2 f_X5_insertAt 9), (9, oAload 0 10), (10, oGetR 0 2 13), (13, oIload 1 14), (14, oIload 3 15), (15, oCallU 5 2 f_X5_insertAt 18), (18, oAload 0 19), (19, oDup 20), (20, oGetI 0 5 23), (23, oConst (nI 1) 24), (24, oBin (fun x y => x + y) 25), (25, oPutI 0 5 28), (28, oVret)]
noncomputable def f_X0_openPage : xRun := xrun k_X0_openPage 4
set_option maxHeartbeats 4000000 in
set_option maxRecDepth 100000 in
theorem m_X0_openPage (l : Launch) (g : xG) : xMet l g yX0_openPage cX0_openPage 4 none 2 45 f_X0_openPage := by
  refine xmet_of (own := RX0) (by decide +kernel) rfl (fun p e s m args below meth c r0 C => ?_)
  refine xAll_c (xs_aload_n C dX0_openPage_0 rfl) ?_
  refine xAll_c (xs_getR C dX0_openPage_1 (rfl : vwCl[0]? = some (RX0, TX0, 7)) win0 rfl (by decide) (by decide) rfl wm98) ?_
  refine xAll_c (xs_iload_n C dX0_openPage_4 rfl) ?_
  refine xAll_c (xs_iload_n C dX0_openPage_5 rfl) ?_
  refine xAll_c (xs_callU C (m_X5_insertAt l g) dX0_openPage_6 (rfl : vwCl[5]? = some (RX5, TX5, 1)) (by decide) rfl ⟨(by decide), (by decide), by decide +kernel⟩ wm748 wm749 wm750 wm3 wm751 ⟨Nat.le_of_ble_eq_true rfl, Nat.le_of_ble_eq_true rfl⟩) ?_
  refine xAll_c (xs_aload_n C dX0_openPage_9 rfl) ?_
  refine xAll_c (xs_getR C dX0_openPage_10 (rfl : vwCl[0]? = some (RX0, TX0, 7)) win0 rfl (by decide) (by decide) rfl wm99) ?_
  refine xAll_c (xs_iload_n C dX0_openPage_13 rfl) ?_
  refine xAll_c (xs_iload_n C dX0_openPage_14 rfl) ?_
  refine xAll_c (xs_callU C (m_X5_insertAt l g) dX0_openPage_15 (rfl : vwCl[5]? = some (RX5, TX5, 1)) (by decide) rfl ⟨(by decide), (by decide), by decide +kernel⟩ wm748 wm749 wm750 wm3 wm751 ⟨Nat.le_of_ble_eq_true rfl, Nat.le_of_ble_eq_true rfl⟩) ?_
  refine xAll_c (xs_aload_n C dX0_openPage_18 rfl) ?_
  refine xAll_c (xs_dup C dX0_openPage_19) ?_
  refine xAll_c (xs_getI C dX0_openPage_20 (rfl : vwCl[0]? = some (RX0, TX0, 7)) win0 rfl (by decide) (by decide) rfl wm103) ?_
  refine xAll_c (xs_iconst C dX0_openPage_23 (by decide)) ?_
  refine xAll_c (xs_iadd C dX0_openPage_24) ?_
  refine xAll_c (xs_putI C dX0_openPage_25 (rfl : vwCl[0]? = some (RX0, TX0, 7)) win0 tyX0_ok nmX0 rfl (by decide) (by decide) rfl rfl (by decide) wm103) ?_
  refine xAll_c (xs_vret C dX0_openPage_28 rfl) ?_
  exact trivial
noncomputable def k_X0_appendValue : xCode := [(0, oAload 0 1), (1, oCallV 0 0 f_X0_lastPageHasRoom 4), (4, oIf1 (fun x => !(decide (x = 0))) 19 7), (7, oAload 0 8), (8, oAload 0 9), (9, oGetI 0 5 12), (12, oConst (nI 0) 13), (13, oConst (-9999) 16), (16, oCallU 0 3 f_X0_openPage 19), (19, oAload 0 20), (20, oGetI 0 5 23), (23, oConst (nI 1) 24), (24, oBin (fun x y => x - y) 25), (25, oIstore 2 3 26), (26, oAload 0 27), (27, oGetR 0 0 30), (30, oAload 0 31), (31, oGetI 0 4 34), (34, oIload 1 35), (35, oCallU 5 2 f_X5_set 38), (38, oAload 0 39), (39, oDup 40), (40, oGetI 0 4 43), (43, oConst (nI 1) 44), (44, oBin (fun x y => x + y) 45), (45, oPutI 0 4 48), (48, oAload 0 49), (49, oGetR 0 1 52), (52, oIload 2 53), (53, oAload 0 54), (54, oIload 2 55), (55, oCallV 0 1 f_X0_lengthOf 58), (58, oConst (nI 1) 59), (59, oBin (fun x y => x + y) 60), (60, oCallU 5 2 f_X5_set 63), (63, oIload 2 64), (64, oIret)]
noncomputable def f_X0_appendValue : xRun := xrun k_X0_appendValue 3
set_option maxHeartbeats 4000000 in
set_option maxRecDepth 100000 in
theorem m_X0_appendValue (l : Launch) (g : xG) : xMet l g yX0_appendValue cX0_appendValue 3 (some .int) 3 68 f_X0_appendValue := by
  refine xmet_of (own := RX0) (by decide +kernel) rfl (fun p e s m args below meth c r0 C => ?_)
  refine xAll_c (xs_aload_n C dX0_appendValue_0 rfl) ?_
  refine xAll_c (xs_callV C (m_X0_lastPageHasRoom l g) dX0_appendValue_1 (rfl : vwCl[0]? = some (RX0, TX0, 7)) (by decide) rfl ⟨(by decide), (by decide), by decide +kernel⟩ wm731 wm733 wp22 wm2 wm734 ⟨Nat.le_of_ble_eq_true rfl, Nat.le_of_ble_eq_true rfl⟩) ?_
  refine xAll_c (xs_if_ne C dX0_appendValue_4 (by decide)) ?_
  refine xAll_c (xs_aload_n C dX0_appendValue_7 rfl) ?_
  refine xAll_c (xs_aload_n C dX0_appendValue_8 rfl) ?_
  refine xAll_c (xs_getI C dX0_appendValue_9 (rfl : vwCl[0]? = some (RX0, TX0, 7)) win0 rfl (by decide) (by decide) rfl wm103) ?_
  refine xAll_c (xs_iconst C dX0_appendValue_12 (by decide)) ?_
  refine xAll_c (xs_sipush C dX0_appendValue_13 (by decide)) ?_
  refine xAll_c (xs_callU C (m_X0_openPage l g) dX0_appendValue_16 (rfl : vwCl[0]? = some (RX0, TX0, 7)) (by decide) rfl ⟨(by decide), (by decide), by decide +kernel⟩ wm744 wm746 wp23 wm2 wm747 ⟨Nat.le_of_ble_eq_true rfl, Nat.le_of_ble_eq_true rfl⟩) ?_
  refine xAll_c (xs_aload_n C dX0_appendValue_19 rfl) ?_
  refine xAll_c (xs_getI C dX0_appendValue_20 (rfl : vwCl[0]? = some (RX0, TX0, 7)) win0 rfl (by decide) (by decide) rfl wm103) ?_
  refine xAll_c (xs_iconst C dX0_appendValue_23 (by decide)) ?_
  refine xAll_c (xs_isub C dX0_appendValue_24) ?_
  refine xAll_c (xs_istore_n C dX0_appendValue_25 rfl) ?_
  refine xAll_c (xs_aload_n C dX0_appendValue_26 rfl) ?_
  refine xAll_c (xs_getR C dX0_appendValue_27 (rfl : vwCl[0]? = some (RX0, TX0, 7)) win0 rfl (by decide) (by decide) rfl wm97) ?_
  refine xAll_c (xs_aload_n C dX0_appendValue_30 rfl) ?_
  refine xAll_c (xs_getI C dX0_appendValue_31 (rfl : vwCl[0]? = some (RX0, TX0, 7)) win0 rfl (by decide) (by decide) rfl wm101) ?_
  refine xAll_c (xs_iload_n C dX0_appendValue_34 rfl) ?_
  refine xAll_c (xs_callU C (m_X5_set l g) dX0_appendValue_35 (rfl : vwCl[5]? = some (RX5, TX5, 1)) (by decide) rfl ⟨(by decide), (by decide), by decide +kernel⟩ wm418 wm292 wm293 wm3 wm294 ⟨Nat.le_of_ble_eq_true rfl, Nat.le_of_ble_eq_true rfl⟩) ?_
  refine xAll_c (xs_aload_n C dX0_appendValue_38 rfl) ?_
  refine xAll_c (xs_dup C dX0_appendValue_39) ?_
  refine xAll_c (xs_getI C dX0_appendValue_40 (rfl : vwCl[0]? = some (RX0, TX0, 7)) win0 rfl (by decide) (by decide) rfl wm101) ?_
  refine xAll_c (xs_iconst C dX0_appendValue_43 (by decide)) ?_
  refine xAll_c (xs_iadd C dX0_appendValue_44) ?_
  refine xAll_c (xs_putI C dX0_appendValue_45 (rfl : vwCl[0]? = some (RX0, TX0, 7)) win0 tyX0_ok nmX0 rfl (by decide) (by decide) rfl rfl (by decide) wm101) ?_
  refine xAll_c (xs_aload_n C dX0_appendValue_48 rfl) ?_
  refine xAll_c (xs_getR C dX0_appendValue_49 (rfl : vwCl[0]? = some (RX0, TX0, 7)) win0 rfl (by decide) (by decide) rfl wm98) ?_
  refine xAll_c (xs_iload_n C dX0_appendValue_52 rfl) ?_
  refine xAll_c (xs_aload_n C dX0_appendValue_53 rfl) ?_
  refine xAll_c (xs_iload_n C dX0_appendValue_54 rfl) ?_
  refine xAll_c (xs_callV C (m_X0_lengthOf l g) dX0_appendValue_55 (rfl : vwCl[0]? = some (RX0, TX0, 7)) (by decide) rfl ⟨(by decide), (by decide), by decide +kernel⟩ wm366 wm367 wm368 wm2 wm369 ⟨Nat.le_of_ble_eq_true rfl, Nat.le_of_ble_eq_true rfl⟩) ?_
  refine xAll_c (xs_iconst C dX0_appendValue_58 (by decide)) ?_
  refine xAll_c (xs_iadd C dX0_appendValue_59) ?_
  refine xAll_c (xs_callU C (m_X5_set l g) dX0_appendValue_60 (rfl : vwCl[5]? = some (RX5, TX5, 1)) (by decide) rfl ⟨(by decide), (by decide), by decide +kernel⟩ wm418 wm292 wm293 wm3 wm294 ⟨Nat.le_of_ble_eq_true rfl, Nat.le_of_ble_eq_true rfl⟩) ?_
  refine xAll_c (xs_iload_n C dX0_appendValue_63 rfl) ?_
  refine xAll_c (xs_iret C dX0_appendValue_64 rfl) ?_
  exact trivial
noncomputable def k_X0_appendPage : xCode := [(0, oAload 0 1), (1, oAload 0 2), (2, oGetI 0 5 5), (5, oIload 2 6), (6, oConst (-9999) 9), (9, oCallU 0 3 f_X0_openPage 12), (12, oConst (nI 0) 13), (13, oIstore 3 4 14), (14, oIload 3 15), (15, oIload 2 16), (16, oIf2 (fun x y => decide (y ≤ x)) 57 19), (19, oIload 3 20), (20, oConst (nI 12) 22), (22, oIf2 (fun x y => decide (y ≤ x)) 57 25), (25, oAload 0 26), (26, oGetR 0 0 29), (29, oAload 0 30), (30, oGetI 0 4 33), (33, oAload 1 34), (34, oIload 3 35), (35, oCallV 5 1 f_X5_get 38), (38, oCallU 5 2 f_X5_set 41), (41, oAload 0 42), (42, oDup 43), (43, oGetI 0 4 46), (46, oConst (nI 1) 47), (47, oBin (fun x y => x + y) 48), (48, oPutI 0 4 51), (51, oIinc 3 (nI 1) 4 54), (54, oGoto 14), (57, oAload 0 58), (58, oGetI 0 5 61), (61, oConst (nI 1) 62), (62, oBin (fun x y => x - y) 63), (63, oIret)]
noncomputable def f_X0_appendPage : xRun := xrun k_X0_appendPage 4
set_option maxHeartbeats 4000000 in
set_option maxRecDepth 100000 in
theorem m_X0_appendPage (l : Launch) (g : xG) : xMet l g yX0_appendPage cX0_appendPage 4 (some .int) 3 68 f_X0_appendPage := by
  refine xmet_of (own := RX0) (by decide +kernel) rfl (fun p e s m args below meth c r0 C => ?_)
  refine xAll_c (xs_aload_n C dX0_appendPage_0 rfl) ?_
  refine xAll_c (xs_aload_n C dX0_appendPage_1 rfl) ?_
  refine xAll_c (xs_getI C dX0_appendPage_2 (rfl : vwCl[0]? = some (RX0, TX0, 7)) win0 rfl (by decide) (by decide) rfl wm103) ?_
  refine xAll_c (xs_iload_n C dX0_appendPage_5 rfl) ?_
  refine xAll_c (xs_sipush C dX0_appendPage_6 (by decide)) ?_
  refine xAll_c (xs_callU C (m_X0_openPage l g) dX0_appendPage_9 (rfl : vwCl[0]? = some (RX0, TX0, 7)) (by decide) rfl ⟨(by decide), (by decide), by decide +kernel⟩ wm744 wm746 wp23 wm2 wm747 ⟨Nat.le_of_ble_eq_true rfl, Nat.le_of_ble_eq_true rfl⟩) ?_
  refine xAll_c (xs_iconst C dX0_appendPage_12 (by decide)) ?_
  refine xAll_c (xs_istore_n C dX0_appendPage_13 rfl) ?_
  refine xAll_c (xs_iload_n C dX0_appendPage_14 rfl) ?_
  refine xAll_c (xs_iload_n C dX0_appendPage_15 rfl) ?_
  refine xAll_c (xs_icmp_ge C dX0_appendPage_16 (by decide)) ?_
  refine xAll_c (xs_iload_n C dX0_appendPage_19 rfl) ?_
  refine xAll_c (xs_bipush C dX0_appendPage_20 (by decide)) ?_
  refine xAll_c (xs_icmp_ge C dX0_appendPage_22 (by decide)) ?_
  refine xAll_c (xs_aload_n C dX0_appendPage_25 rfl) ?_
  refine xAll_c (xs_getR C dX0_appendPage_26 (rfl : vwCl[0]? = some (RX0, TX0, 7)) win0 rfl (by decide) (by decide) rfl wm97) ?_
  refine xAll_c (xs_aload_n C dX0_appendPage_29 rfl) ?_
  refine xAll_c (xs_getI C dX0_appendPage_30 (rfl : vwCl[0]? = some (RX0, TX0, 7)) win0 rfl (by decide) (by decide) rfl wm101) ?_
  refine xAll_c (xs_aload_n C dX0_appendPage_33 rfl) ?_
  refine xAll_c (xs_iload_n C dX0_appendPage_34 rfl) ?_
  refine xAll_c (xs_callV C (m_X5_get l g) dX0_appendPage_35 (rfl : vwCl[5]? = some (RX5, TX5, 1)) (by decide) rfl ⟨(by decide), (by decide), by decide +kernel⟩ wm370 wm280 wm281 wm3 wm282 ⟨Nat.le_of_ble_eq_true rfl, Nat.le_of_ble_eq_true rfl⟩) ?_
  refine xAll_c (xs_callU C (m_X5_set l g) dX0_appendPage_38 (rfl : vwCl[5]? = some (RX5, TX5, 1)) (by decide) rfl ⟨(by decide), (by decide), by decide +kernel⟩ wm418 wm292 wm293 wm3 wm294 ⟨Nat.le_of_ble_eq_true rfl, Nat.le_of_ble_eq_true rfl⟩) ?_
  refine xAll_c (xs_aload_n C dX0_appendPage_41 rfl) ?_
  refine xAll_c (xs_dup C dX0_appendPage_42) ?_
  refine xAll_c (xs_getI C dX0_appendPage_43 (rfl : vwCl[0]? = some (RX0, TX0, 7)) win0 rfl (by decide) (by decide) rfl wm101) ?_
  refine xAll_c (xs_iconst C dX0_appendPage_46 (by decide)) ?_
  refine xAll_c (xs_iadd C dX0_appendPage_47) ?_
  refine xAll_c (xs_putI C dX0_appendPage_48 (rfl : vwCl[0]? = some (RX0, TX0, 7)) win0 tyX0_ok nmX0 rfl (by decide) (by decide) rfl rfl (by decide) wm101) ?_
  refine xAll_c (xs_iinc C dX0_appendPage_51 rfl) ?_
  refine xAll_c (xs_goto C dX0_appendPage_54 (by decide)) ?_
  refine xAll_c (xs_aload_n C dX0_appendPage_57 rfl) ?_
  refine xAll_c (xs_getI C dX0_appendPage_58 (rfl : vwCl[0]? = some (RX0, TX0, 7)) win0 rfl (by decide) (by decide) rfl wm103) ?_
  refine xAll_c (xs_iconst C dX0_appendPage_61 (by decide)) ?_
  refine xAll_c (xs_isub C dX0_appendPage_62) ?_
  refine xAll_c (xs_iret C dX0_appendPage_63 rfl) ?_
  exact trivial
noncomputable def k_X5_removeAt : xCode := [(0, oIload 1 1), (1, oConst (nI 1) 2), (2, oBin (fun x y => x + y) 3), (3, oIstore 2 3 4), (4, oIload 2 5), (5, oAload 0 6), (6, oGetR 5 0 9), (9, oAlen 10 10), (10, oIf2 (fun x y => decide (y ≤ x)) 31 13), (13, oAload 0 14), (14, oIload 2 15), (15, oConst (nI 1) 16), (16, oBin (fun x y => x - y) 17), (17, oAload 0 18), (18, oIload 2 19), (19, oCallV 5 1 f_X5_get 22), (22, oCallU 5 2 f_X5_set 25), (25, oIinc 2 (nI 1) 3 28), (28, oGoto 4), (31, oVret)]
noncomputable def f_X5_removeAt : xRun := xrun k_X5_removeAt 3
set_option maxHeartbeats 4000000 in
set_option maxRecDepth 100000 in
theorem m_X5_removeAt (l : Launch) (g : xG) : xMet l g yX5_removeAt cX5_removeAt 3 none 1 22 f_X5_removeAt := by
  refine xmet_of (own := RX5) (by decide +kernel) rfl (fun p e s m args below meth c r0 C => ?_)
  refine xAll_c (xs_iload_n C dX5_removeAt_0 rfl) ?_
  refine xAll_c (xs_iconst C dX5_removeAt_1 (by decide)) ?_
  refine xAll_c (xs_iadd C dX5_removeAt_2) ?_
  refine xAll_c (xs_istore_n C dX5_removeAt_3 rfl) ?_
  refine xAll_c (xs_iload_n C dX5_removeAt_4 rfl) ?_
  refine xAll_c (xs_aload_n C dX5_removeAt_5 rfl) ?_
  refine xAll_c (xs_getR C dX5_removeAt_6 (rfl : vwCl[5]? = some (RX5, TX5, 1)) win5 rfl (by decide) (by decide) rfl wm39) ?_
  refine xAll_c (xs_alen C dX5_removeAt_9 (Or.inl rfl)) ?_
  refine xAll_c (xs_icmp_ge C dX5_removeAt_10 (by decide)) ?_
  refine xAll_c (xs_aload_n C dX5_removeAt_13 rfl) ?_
  refine xAll_c (xs_iload_n C dX5_removeAt_14 rfl) ?_
  refine xAll_c (xs_iconst C dX5_removeAt_15 (by decide)) ?_
  refine xAll_c (xs_isub C dX5_removeAt_16) ?_
  refine xAll_c (xs_aload_n C dX5_removeAt_17 rfl) ?_
  refine xAll_c (xs_iload_n C dX5_removeAt_18 rfl) ?_
  refine xAll_c (xs_callV C (m_X5_get l g) dX5_removeAt_19 (rfl : vwCl[5]? = some (RX5, TX5, 1)) (by decide) rfl ⟨(by decide), (by decide), by decide +kernel⟩ wm345 wm280 wm281 wm3 wm282 ⟨Nat.le_of_ble_eq_true rfl, Nat.le_of_ble_eq_true rfl⟩) ?_
  refine xAll_c (xs_callU C (m_X5_set l g) dX5_removeAt_22 (rfl : vwCl[5]? = some (RX5, TX5, 1)) (by decide) rfl ⟨(by decide), (by decide), by decide +kernel⟩ wm427 wm292 wm293 wm3 wm294 ⟨Nat.le_of_ble_eq_true rfl, Nat.le_of_ble_eq_true rfl⟩) ?_
  refine xAll_c (xs_iinc C dX5_removeAt_25 rfl) ?_
  refine xAll_c (xs_goto C dX5_removeAt_28 (by decide)) ?_
  refine xAll_c (xs_vret C dX5_removeAt_31 rfl) ?_
  exact trivial
noncomputable def k_X0_closePage : xCode := [(0, oAload 0 1), (1, oGetR 0 1 4), (4, oIload 1 5), (5, oCallU 5 1 f_X5_removeAt 8), (8, oAload 0 9), (9, oGetR 0 2 12), (12, oIload 1 13), (13, oCallU 5 1 f_X5_removeAt 16), (16, oAload 0 17), (17, oDup 18), (18, oGetI 0 5 21), (21, oConst (nI 1) 22), (22, oBin (fun x y => x - y) 23), (23, oPutI 0 5 26), (26, oVret)]
noncomputable def f_X0_closePage : xRun := xrun k_X0_closePage 2
set_option maxHeartbeats 4000000 in
set_option maxRecDepth 100000 in
theorem m_X0_closePage (l : Launch) (g : xG) : xMet l g yX0_closePage cX0_closePage 2 none 2 44 f_X0_closePage := by
  refine xmet_of (own := RX0) (by decide +kernel) rfl (fun p e s m args below meth c r0 C => ?_)
  refine xAll_c (xs_aload_n C dX0_closePage_0 rfl) ?_
  refine xAll_c (xs_getR C dX0_closePage_1 (rfl : vwCl[0]? = some (RX0, TX0, 7)) win0 rfl (by decide) (by decide) rfl wm98) ?_
  refine xAll_c (xs_iload_n C dX0_closePage_4 rfl) ?_
  refine xAll_c (xs_callU C (m_X5_removeAt l g) dX0_closePage_5 (rfl : vwCl[5]? = some (RX5, TX5, 1)) (by decide) rfl ⟨(by decide), (by decide), by decide +kernel⟩ wm423 wm424 wm425 wm3 wm426 ⟨Nat.le_of_ble_eq_true rfl, Nat.le_of_ble_eq_true rfl⟩) ?_
  refine xAll_c (xs_aload_n C dX0_closePage_8 rfl) ?_
  refine xAll_c (xs_getR C dX0_closePage_9 (rfl : vwCl[0]? = some (RX0, TX0, 7)) win0 rfl (by decide) (by decide) rfl wm99) ?_
  refine xAll_c (xs_iload_n C dX0_closePage_12 rfl) ?_
  refine xAll_c (xs_callU C (m_X5_removeAt l g) dX0_closePage_13 (rfl : vwCl[5]? = some (RX5, TX5, 1)) (by decide) rfl ⟨(by decide), (by decide), by decide +kernel⟩ wm423 wm424 wm425 wm3 wm426 ⟨Nat.le_of_ble_eq_true rfl, Nat.le_of_ble_eq_true rfl⟩) ?_
  refine xAll_c (xs_aload_n C dX0_closePage_16 rfl) ?_
  refine xAll_c (xs_dup C dX0_closePage_17) ?_
  refine xAll_c (xs_getI C dX0_closePage_18 (rfl : vwCl[0]? = some (RX0, TX0, 7)) win0 rfl (by decide) (by decide) rfl wm103) ?_
  refine xAll_c (xs_iconst C dX0_closePage_21 (by decide)) ?_
  refine xAll_c (xs_isub C dX0_closePage_22) ?_
  refine xAll_c (xs_putI C dX0_closePage_23 (rfl : vwCl[0]? = some (RX0, TX0, 7)) win0 tyX0_ok nmX0 rfl (by decide) (by decide) rfl rfl (by decide) wm103) ?_
  refine xAll_c (xs_vret C dX0_closePage_26 rfl) ?_
  exact trivial
noncomputable def k_X0_changeValue : xCode := [(0, oAload 0 1), (1, oGetR 0 0 4), (4, oIload 1 5), (5, oCallV 5 1 f_X5_get 8), (8, oIstore 3 4 9), (9, oAload 0 10), (10, oGetR 0 0 13), (13, oIload 1 14), (14, oIload 2 15), (15, oCallU 5 2 f_X5_set 18), (18, oIload 3 19), (19, oIret)]
noncomputable def f_X0_changeValue : xRun := xrun k_X0_changeValue 4
set_option maxHeartbeats 4000000 in
set_option maxRecDepth 100000 in
theorem m_X0_changeValue (l : Launch) (g : xG) : xMet l g yX0_changeValue cX0_changeValue 4 (some .int) 1 22 f_X0_changeValue := by
  refine xmet_of (own := RX0) (by decide +kernel) rfl (fun p e s m args below meth c r0 C => ?_)
  refine xAll_c (xs_aload_n C dX0_changeValue_0 rfl) ?_
  refine xAll_c (xs_getR C dX0_changeValue_1 (rfl : vwCl[0]? = some (RX0, TX0, 7)) win0 rfl (by decide) (by decide) rfl wm97) ?_
  refine xAll_c (xs_iload_n C dX0_changeValue_4 rfl) ?_
  refine xAll_c (xs_callV C (m_X5_get l g) dX0_changeValue_5 (rfl : vwCl[5]? = some (RX5, TX5, 1)) (by decide) rfl ⟨(by decide), (by decide), by decide +kernel⟩ wm370 wm280 wm281 wm3 wm282 ⟨Nat.le_of_ble_eq_true rfl, Nat.le_of_ble_eq_true rfl⟩) ?_
  refine xAll_c (xs_istore_n C dX0_changeValue_8 rfl) ?_
  refine xAll_c (xs_aload_n C dX0_changeValue_9 rfl) ?_
  refine xAll_c (xs_getR C dX0_changeValue_10 (rfl : vwCl[0]? = some (RX0, TX0, 7)) win0 rfl (by decide) (by decide) rfl wm97) ?_
  refine xAll_c (xs_iload_n C dX0_changeValue_13 rfl) ?_
  refine xAll_c (xs_iload_n C dX0_changeValue_14 rfl) ?_
  refine xAll_c (xs_callU C (m_X5_set l g) dX0_changeValue_15 (rfl : vwCl[5]? = some (RX5, TX5, 1)) (by decide) rfl ⟨(by decide), (by decide), by decide +kernel⟩ wm418 wm292 wm293 wm3 wm294 ⟨Nat.le_of_ble_eq_true rfl, Nat.le_of_ble_eq_true rfl⟩) ?_
  refine xAll_c (xs_iload_n C dX0_changeValue_18 rfl) ?_
  refine xAll_c (xs_iret C dX0_changeValue_19 rfl) ?_
  exact trivial
noncomputable def k_X0_dropValue : xCode := [(0, oAload 0 1), (1, oIload 1 2), (2, oCallV 0 1 f_X0_pageOf 5), (5, oIstore 2 4 6), (6, oAload 0 7), (7, oGetR 0 0 10), (10, oIload 1 11), (11, oCallV 5 1 f_X5_get 14), (14, oIstore 3 4 15), (15, oAload 0 16), (16, oGetR 0 0 19), (19, oIload 1 20), (20, oCallU 5 1 f_X5_removeAt 23), (23, oAload 0 24), (24, oDup 25), (25, oGetI 0 4 28), (28, oConst (nI 1) 29), (29, oBin (fun x y => x - y) 30), (30, oPutI 0 4 33), (33, oAload 0 34), (34, oGetR 0 1 37), (37, oIload 2 38), (38, oAload 0 39), (39, oIload 2 40), (40, oCallV 0 1 f_X0_lengthOf 43), (43, oConst (nI 1) 44), (44, oBin (fun x y => x - y) 45), (45, oCallU 5 2 f_X5_set 48), (48, oAload 0 49), (49, oIload 2 50), (50, oCallV 0 1 f_X0_lengthOf 53), (53, oIf1 (fun x => !(decide (x = 0))) 61 56), (56, oAload 0 57), (57, oIload 2 58), (58, oCallU 0 1 f_X0_closePage 61), (61, oIload 3 62), (62, oIret)]
noncomputable def f_X0_dropValue : xRun := xrun k_X0_dropValue 4
set_option maxHeartbeats 4000000 in
set_option maxRecDepth 100000 in
theorem m_X0_dropValue (l : Launch) (g : xG) : xMet l g yX0_dropValue cX0_dropValue 4 (some .int) 3 65 f_X0_dropValue := by
  refine xmet_of (own := RX0) (by decide +kernel) rfl (fun p e s m args below meth c r0 C => ?_)
  refine xAll_c (xs_aload_n C dX0_dropValue_0 rfl) ?_
  refine xAll_c (xs_iload_n C dX0_dropValue_1 rfl) ?_
  refine xAll_c (xs_callV C (m_X0_pageOf l g) dX0_dropValue_2 (rfl : vwCl[0]? = some (RX0, TX0, 7)) (by decide) rfl ⟨(by decide), (by decide), by decide +kernel⟩ wm774 wm776 wp24 wm2 wm777 ⟨Nat.le_of_ble_eq_true rfl, Nat.le_of_ble_eq_true rfl⟩) ?_
  refine xAll_c (xs_istore_n C dX0_dropValue_5 rfl) ?_
  refine xAll_c (xs_aload_n C dX0_dropValue_6 rfl) ?_
  refine xAll_c (xs_getR C dX0_dropValue_7 (rfl : vwCl[0]? = some (RX0, TX0, 7)) win0 rfl (by decide) (by decide) rfl wm97) ?_
  refine xAll_c (xs_iload_n C dX0_dropValue_10 rfl) ?_
  refine xAll_c (xs_callV C (m_X5_get l g) dX0_dropValue_11 (rfl : vwCl[5]? = some (RX5, TX5, 1)) (by decide) rfl ⟨(by decide), (by decide), by decide +kernel⟩ wm370 wm280 wm281 wm3 wm282 ⟨Nat.le_of_ble_eq_true rfl, Nat.le_of_ble_eq_true rfl⟩) ?_
  refine xAll_c (xs_istore_n C dX0_dropValue_14 rfl) ?_
  refine xAll_c (xs_aload_n C dX0_dropValue_15 rfl) ?_
  refine xAll_c (xs_getR C dX0_dropValue_16 (rfl : vwCl[0]? = some (RX0, TX0, 7)) win0 rfl (by decide) (by decide) rfl wm97) ?_
  refine xAll_c (xs_iload_n C dX0_dropValue_19 rfl) ?_
  refine xAll_c (xs_callU C (m_X5_removeAt l g) dX0_dropValue_20 (rfl : vwCl[5]? = some (RX5, TX5, 1)) (by decide) rfl ⟨(by decide), (by decide), by decide +kernel⟩ wm423 wm424 wm425 wm3 wm426 ⟨Nat.le_of_ble_eq_true rfl, Nat.le_of_ble_eq_true rfl⟩) ?_
  refine xAll_c (xs_aload_n C dX0_dropValue_23 rfl) ?_
  refine xAll_c (xs_dup C dX0_dropValue_24) ?_
  refine xAll_c (xs_getI C dX0_dropValue_25 (rfl : vwCl[0]? = some (RX0, TX0, 7)) win0 rfl (by decide) (by decide) rfl wm101) ?_
  refine xAll_c (xs_iconst C dX0_dropValue_28 (by decide)) ?_
  refine xAll_c (xs_isub C dX0_dropValue_29) ?_
  refine xAll_c (xs_putI C dX0_dropValue_30 (rfl : vwCl[0]? = some (RX0, TX0, 7)) win0 tyX0_ok nmX0 rfl (by decide) (by decide) rfl rfl (by decide) wm101) ?_
  refine xAll_c (xs_aload_n C dX0_dropValue_33 rfl) ?_
  refine xAll_c (xs_getR C dX0_dropValue_34 (rfl : vwCl[0]? = some (RX0, TX0, 7)) win0 rfl (by decide) (by decide) rfl wm98) ?_
  refine xAll_c (xs_iload_n C dX0_dropValue_37 rfl) ?_
  refine xAll_c (xs_aload_n C dX0_dropValue_38 rfl) ?_
  refine xAll_c (xs_iload_n C dX0_dropValue_39 rfl) ?_
  refine xAll_c (xs_callV C (m_X0_lengthOf l g) dX0_dropValue_40 (rfl : vwCl[0]? = some (RX0, TX0, 7)) (by decide) rfl ⟨(by decide), (by decide), by decide +kernel⟩ wm366 wm367 wm368 wm2 wm369 ⟨Nat.le_of_ble_eq_true rfl, Nat.le_of_ble_eq_true rfl⟩) ?_
  refine xAll_c (xs_iconst C dX0_dropValue_43 (by decide)) ?_
  refine xAll_c (xs_isub C dX0_dropValue_44) ?_
  refine xAll_c (xs_callU C (m_X5_set l g) dX0_dropValue_45 (rfl : vwCl[5]? = some (RX5, TX5, 1)) (by decide) rfl ⟨(by decide), (by decide), by decide +kernel⟩ wm418 wm292 wm293 wm3 wm294 ⟨Nat.le_of_ble_eq_true rfl, Nat.le_of_ble_eq_true rfl⟩) ?_
  refine xAll_c (xs_aload_n C dX0_dropValue_48 rfl) ?_
  refine xAll_c (xs_iload_n C dX0_dropValue_49 rfl) ?_
  refine xAll_c (xs_callV C (m_X0_lengthOf l g) dX0_dropValue_50 (rfl : vwCl[0]? = some (RX0, TX0, 7)) (by decide) rfl ⟨(by decide), (by decide), by decide +kernel⟩ wm366 wm367 wm368 wm2 wm369 ⟨Nat.le_of_ble_eq_true rfl, Nat.le_of_ble_eq_true rfl⟩) ?_
  refine xAll_c (xs_if_ne C dX0_dropValue_53 (by decide)) ?_
  refine xAll_c (xs_aload_n C dX0_dropValue_56 rfl) ?_
  refine xAll_c (xs_iload_n C dX0_dropValue_57 rfl) ?_
  refine xAll_c (xs_callU C (m_X0_closePage l g) dX0_dropValue_58 (rfl : vwCl[0]? = some (RX0, TX0, 7)) (by decide) rfl ⟨(by decide), (by decide), by decide +kernel⟩ wm419 wm421 wp12 wm2 wm422 ⟨Nat.le_of_ble_eq_true rfl, Nat.le_of_ble_eq_true rfl⟩) ?_
  refine xAll_c (xs_iload_n C dX0_dropValue_61 rfl) ?_
  refine xAll_c (xs_iret C dX0_dropValue_62 rfl) ?_
  exact trivial
noncomputable def k_X0_splitPage : xCode := [(0, oAload 0 1), (1, oIload 1 2), (2, oConst (nI 1) 3), (3, oBin (fun x y => x + y) 4), (4, oAload 0 5), (5, oIload 1 6), (6, oCallV 0 1 f_X0_lengthOf 9), (9, oIload 2 10), (10, oBin (fun x y => x - y) 11), (11, oAload 0 12), (12, oIload 1 13), (13, oCallV 0 1 f_X0_pinOf 16), (16, oCallU 0 3 f_X0_openPage 19), (19, oAload 0 20), (20, oGetR 0 1 23), (23, oIload 1 24), (24, oIload 2 25), (25, oCallU 5 2 f_X5_set 28), (28, oVret)]
noncomputable def f_X0_splitPage : xRun := xrun k_X0_splitPage 3
set_option maxHeartbeats 4000000 in
set_option maxRecDepth 100000 in
theorem m_X0_splitPage (l : Launch) (g : xG) : xMet l g yX0_splitPage cX0_splitPage 3 none 3 68 f_X0_splitPage := by
  refine xmet_of (own := RX0) (by decide +kernel) rfl (fun p e s m args below meth c r0 C => ?_)
  refine xAll_c (xs_aload_n C dX0_splitPage_0 rfl) ?_
  refine xAll_c (xs_iload_n C dX0_splitPage_1 rfl) ?_
  refine xAll_c (xs_iconst C dX0_splitPage_2 (by decide)) ?_
  refine xAll_c (xs_iadd C dX0_splitPage_3) ?_
  refine xAll_c (xs_aload_n C dX0_splitPage_4 rfl) ?_
  refine xAll_c (xs_iload_n C dX0_splitPage_5 rfl) ?_
  refine xAll_c (xs_callV C (m_X0_lengthOf l g) dX0_splitPage_6 (rfl : vwCl[0]? = some (RX0, TX0, 7)) (by decide) rfl ⟨(by decide), (by decide), by decide +kernel⟩ wm366 wm367 wm368 wm2 wm369 ⟨Nat.le_of_ble_eq_true rfl, Nat.le_of_ble_eq_true rfl⟩) ?_
  refine xAll_c (xs_iload_n C dX0_splitPage_9 rfl) ?_
  refine xAll_c (xs_isub C dX0_splitPage_10) ?_
  refine xAll_c (xs_aload_n C dX0_splitPage_11 rfl) ?_
  refine xAll_c (xs_iload_n C dX0_splitPage_12 rfl) ?_
  refine xAll_c (xs_callV C (m_X0_pinOf l g) dX0_splitPage_13 (rfl : vwCl[0]? = some (RX0, TX0, 7)) (by decide) rfl ⟨(by decide), (by decide), by decide +kernel⟩ wm394 wm395 wm396 wm2 wm397 ⟨Nat.le_of_ble_eq_true rfl, Nat.le_of_ble_eq_true rfl⟩) ?_
  refine xAll_c (xs_callU C (m_X0_openPage l g) dX0_splitPage_16 (rfl : vwCl[0]? = some (RX0, TX0, 7)) (by decide) rfl ⟨(by decide), (by decide), by decide +kernel⟩ wm744 wm746 wp23 wm2 wm747 ⟨Nat.le_of_ble_eq_true rfl, Nat.le_of_ble_eq_true rfl⟩) ?_
  refine xAll_c (xs_aload_n C dX0_splitPage_19 rfl) ?_
  refine xAll_c (xs_getR C dX0_splitPage_20 (rfl : vwCl[0]? = some (RX0, TX0, 7)) win0 rfl (by decide) (by decide) rfl wm98) ?_
  refine xAll_c (xs_iload_n C dX0_splitPage_23 rfl) ?_
  refine xAll_c (xs_iload_n C dX0_splitPage_24 rfl) ?_
  refine xAll_c (xs_callU C (m_X5_set l g) dX0_splitPage_25 (rfl : vwCl[5]? = some (RX5, TX5, 1)) (by decide) rfl ⟨(by decide), (by decide), by decide +kernel⟩ wm418 wm292 wm293 wm3 wm294 ⟨Nat.le_of_ble_eq_true rfl, Nat.le_of_ble_eq_true rfl⟩) ?_
  refine xAll_c (xs_vret C dX0_splitPage_28 rfl) ?_
  exact trivial
noncomputable def k_X0_joinPages : xCode := [(0, oAload 0 1), (1, oGetR 0 2 4), (4, oIload 1 5), (5, oAload 0 6), (6, oIload 1 7), (7, oCallV 0 1 f_X0_joinedPin 10), (10, oCallU 5 2 f_X5_set 13), (13, oAload 0 14), (14, oGetR 0 1 17), (17, oIload 1 18), (18, oAload 0 19), (19, oIload 1 20), (20, oCallV 0 1 f_X0_lengthOf 23), (23, oAload 0 24), (24, oIload 1 25), (25, oConst (nI 1) 26), (26, oBin (fun x y => x + y) 27), (27, oCallV 0 1 f_X0_lengthOf 30), (30, oBin (fun x y => x + y) 31), (31, oCallU 5 2 f_X5_set 34), (34, oAload 0 35), (35, oIload 1 36), (36, oConst (nI 1) 37), (37, oBin (fun x y => x + y) 38), (38, oCallU 0 1 f_X0_closePage 41), (41, oVret)]
noncomputable def f_X0_joinPages : xRun := xrun k_X0_joinPages 2
set_option maxHeartbeats 4000000 in
set_option maxRecDepth 100000 in
theorem m_X0_joinPages (l : Launch) (g : xG) : xMet l g yX0_joinPages cX0_joinPages 2 none 3 65 f_X0_joinPages := by
  refine xmet_of (own := RX0) (by decide +kernel) rfl (fun p e s m args below meth c r0 C => ?_)
  refine xAll_c (xs_aload_n C dX0_joinPages_0 rfl) ?_
  refine xAll_c (xs_getR C dX0_joinPages_1 (rfl : vwCl[0]? = some (RX0, TX0, 7)) win0 rfl (by decide) (by decide) rfl wm99) ?_
  refine xAll_c (xs_iload_n C dX0_joinPages_4 rfl) ?_
  refine xAll_c (xs_aload_n C dX0_joinPages_5 rfl) ?_
  refine xAll_c (xs_iload_n C dX0_joinPages_6 rfl) ?_
  refine xAll_c (xs_callV C (m_X0_joinedPin l g) dX0_joinPages_7 (rfl : vwCl[0]? = some (RX0, TX0, 7)) (by decide) rfl ⟨(by decide), (by decide), by decide +kernel⟩ wm410 wm412 wp11 wm2 wm413 ⟨Nat.le_of_ble_eq_true rfl, Nat.le_of_ble_eq_true rfl⟩) ?_
  refine xAll_c (xs_callU C (m_X5_set l g) dX0_joinPages_10 (rfl : vwCl[5]? = some (RX5, TX5, 1)) (by decide) rfl ⟨(by decide), (by decide), by decide +kernel⟩ wm418 wm292 wm293 wm3 wm294 ⟨Nat.le_of_ble_eq_true rfl, Nat.le_of_ble_eq_true rfl⟩) ?_
  refine xAll_c (xs_aload_n C dX0_joinPages_13 rfl) ?_
  refine xAll_c (xs_getR C dX0_joinPages_14 (rfl : vwCl[0]? = some (RX0, TX0, 7)) win0 rfl (by decide) (by decide) rfl wm98) ?_
  refine xAll_c (xs_iload_n C dX0_joinPages_17 rfl) ?_
  refine xAll_c (xs_aload_n C dX0_joinPages_18 rfl) ?_
  refine xAll_c (xs_iload_n C dX0_joinPages_19 rfl) ?_
  refine xAll_c (xs_callV C (m_X0_lengthOf l g) dX0_joinPages_20 (rfl : vwCl[0]? = some (RX0, TX0, 7)) (by decide) rfl ⟨(by decide), (by decide), by decide +kernel⟩ wm366 wm367 wm368 wm2 wm369 ⟨Nat.le_of_ble_eq_true rfl, Nat.le_of_ble_eq_true rfl⟩) ?_
  refine xAll_c (xs_aload_n C dX0_joinPages_23 rfl) ?_
  refine xAll_c (xs_iload_n C dX0_joinPages_24 rfl) ?_
  refine xAll_c (xs_iconst C dX0_joinPages_25 (by decide)) ?_
  refine xAll_c (xs_iadd C dX0_joinPages_26) ?_
  refine xAll_c (xs_callV C (m_X0_lengthOf l g) dX0_joinPages_27 (rfl : vwCl[0]? = some (RX0, TX0, 7)) (by decide) rfl ⟨(by decide), (by decide), by decide +kernel⟩ wm366 wm367 wm368 wm2 wm369 ⟨Nat.le_of_ble_eq_true rfl, Nat.le_of_ble_eq_true rfl⟩) ?_
  refine xAll_c (xs_iadd C dX0_joinPages_30) ?_
  refine xAll_c (xs_callU C (m_X5_set l g) dX0_joinPages_31 (rfl : vwCl[5]? = some (RX5, TX5, 1)) (by decide) rfl ⟨(by decide), (by decide), by decide +kernel⟩ wm418 wm292 wm293 wm3 wm294 ⟨Nat.le_of_ble_eq_true rfl, Nat.le_of_ble_eq_true rfl⟩) ?_
  refine xAll_c (xs_aload_n C dX0_joinPages_34 rfl) ?_
  refine xAll_c (xs_iload_n C dX0_joinPages_35 rfl) ?_
  refine xAll_c (xs_iconst C dX0_joinPages_36 (by decide)) ?_
  refine xAll_c (xs_iadd C dX0_joinPages_37) ?_
  refine xAll_c (xs_callU C (m_X0_closePage l g) dX0_joinPages_38 (rfl : vwCl[0]? = some (RX0, TX0, 7)) (by decide) rfl ⟨(by decide), (by decide), by decide +kernel⟩ wm419 wm421 wp12 wm2 wm422 ⟨Nat.le_of_ble_eq_true rfl, Nat.le_of_ble_eq_true rfl⟩) ?_
  refine xAll_c (xs_vret C dX0_joinPages_41 rfl) ?_
  exact trivial
noncomputable def k_X0_joinWhileItSaves : xCode := [(0, oConst (nI 0) 1), (1, oIstore 1 3 2), (2, oIload 1 3), (3, oConst (nI 10) 5), (5, oIf2 (fun x y => decide (y ≤ x)) 53 8), (8, oConst (nI 0) 9), (9, oIstore 2 3 10), (10, oIload 2 11), (11, oAload 0 12), (12, oGetI 0 5 15), (15, oIf2 (fun x y => decide (y ≤ x)) 32 18), (18, oAload 0 19), (19, oIload 2 20), (20, oCallV 0 1 f_X0_savedByJoin 23), (23, oIf1 (fun x => decide (0 < x)) 32 26), (26, oIinc 2 (nI 1) 3 29), (29, oGoto 10), (32, oIload 2 33), (33, oAload 0 34), (34, oGetI 0 5 37), (37, oIf2 (fun x y => decide (x < y)) 42 40), (40, oIload 1 41), (41, oIret), (42, oAload 0 43), (43, oIload 2 44), (44, oCallU 0 1 f_X0_joinPages 47), (47, oIinc 1 (nI 1) 3 50), (50, oGoto 2), (53, oConst (nI 10) 55), (55, oIret)]
noncomputable def f_X0_joinWhileItSaves : xRun := xrun k_X0_joinWhileItSaves 3
set_option maxHeartbeats 4000000 in
set_option maxRecDepth 100000 in
theorem m_X0_joinWhileItSaves (l : Launch) (g : xG) : xMet l g yX0_joinWhileItSaves cX0_joinWhileItSaves 3 (some .int) 4 92 f_X0_joinWhileItSaves := by
  refine xmet_of (own := RX0) (by decide +kernel) rfl (fun p e s m args below meth c r0 C => ?_)
  refine xAll_c (xs_iconst C dX0_joinWhileItSaves_0 (by decide)) ?_
  refine xAll_c (xs_istore_n C dX0_joinWhileItSaves_1 rfl) ?_
  refine xAll_c (xs_iload_n C dX0_joinWhileItSaves_2 rfl) ?_
  refine xAll_c (xs_bipush C dX0_joinWhileItSaves_3 (by decide)) ?_
  refine xAll_c (xs_icmp_ge C dX0_joinWhileItSaves_5 (by decide)) ?_
  refine xAll_c (xs_iconst C dX0_joinWhileItSaves_8 (by decide)) ?_
  refine xAll_c (xs_istore_n C dX0_joinWhileItSaves_9 rfl) ?_
  refine xAll_c (xs_iload_n C dX0_joinWhileItSaves_10 rfl) ?_
  refine xAll_c (xs_aload_n C dX0_joinWhileItSaves_11 rfl) ?_
  refine xAll_c (xs_getI C dX0_joinWhileItSaves_12 (rfl : vwCl[0]? = some (RX0, TX0, 7)) win0 rfl (by decide) (by decide) rfl wm103) ?_
  refine xAll_c (xs_icmp_ge C dX0_joinWhileItSaves_15 (by decide)) ?_
  refine xAll_c (xs_aload_n C dX0_joinWhileItSaves_18 rfl) ?_
  refine xAll_c (xs_iload_n C dX0_joinWhileItSaves_19 rfl) ?_
  refine xAll_c (xs_callV C (m_X0_savedByJoin l g) dX0_joinWhileItSaves_20 (rfl : vwCl[0]? = some (RX0, TX0, 7)) (by decide) rfl ⟨(by decide), (by decide), by decide +kernel⟩ wm354 wm355 wm356 wm2 wm357 ⟨Nat.le_of_ble_eq_true rfl, Nat.le_of_ble_eq_true rfl⟩) ?_
  refine xAll_c (xs_if_gt C dX0_joinWhileItSaves_23 (by decide)) ?_
  refine xAll_c (xs_iinc C dX0_joinWhileItSaves_26 rfl) ?_
  refine xAll_c (xs_goto C dX0_joinWhileItSaves_29 (by decide)) ?_
  refine xAll_c (xs_iload_n C dX0_joinWhileItSaves_32 rfl) ?_
  refine xAll_c (xs_aload_n C dX0_joinWhileItSaves_33 rfl) ?_
  refine xAll_c (xs_getI C dX0_joinWhileItSaves_34 (rfl : vwCl[0]? = some (RX0, TX0, 7)) win0 rfl (by decide) (by decide) rfl wm103) ?_
  refine xAll_c (xs_icmp_lt C dX0_joinWhileItSaves_37 (by decide)) ?_
  refine xAll_c (xs_iload_n C dX0_joinWhileItSaves_40 rfl) ?_
  refine xAll_c (xs_iret C dX0_joinWhileItSaves_41 rfl) ?_
  refine xAll_c (xs_aload_n C dX0_joinWhileItSaves_42 rfl) ?_
  refine xAll_c (xs_iload_n C dX0_joinWhileItSaves_43 rfl) ?_
  refine xAll_c (xs_callU C (m_X0_joinPages l g) dX0_joinWhileItSaves_44 (rfl : vwCl[0]? = some (RX0, TX0, 7)) (by decide) rfl ⟨(by decide), (by decide), by decide +kernel⟩ wm414 wm415 wm416 wm2 wm417 ⟨Nat.le_of_ble_eq_true rfl, Nat.le_of_ble_eq_true rfl⟩) ?_
  refine xAll_c (xs_iinc C dX0_joinWhileItSaves_47 rfl) ?_
  refine xAll_c (xs_goto C dX0_joinWhileItSaves_50 (by decide)) ?_
  refine xAll_c (xs_bipush C dX0_joinWhileItSaves_53 (by decide)) ?_
  refine xAll_c (xs_iret C dX0_joinWhileItSaves_55 rfl) ?_
  exact trivial
noncomputable def k_X0_pinPage : xCode := [(0, oAload 0 1), (1, oGetR 0 2 4), (4, oIload 1 5), (5, oIload 2 6), (6, oCallU 5 2 f_X5_set 9), (9, oVret)]
noncomputable def f_X0_pinPage : xRun := xrun k_X0_pinPage 3
set_option maxHeartbeats 4000000 in
set_option maxRecDepth 100000 in
theorem m_X0_pinPage (l : Launch) (g : xG) : xMet l g yX0_pinPage cX0_pinPage 3 none 1 22 f_X0_pinPage := by
  refine xmet_of (own := RX0) (by decide +kernel) rfl (fun p e s m args below meth c r0 C => ?_)
  refine xAll_c (xs_aload_n C dX0_pinPage_0 rfl) ?_
  refine xAll_c (xs_getR C dX0_pinPage_1 (rfl : vwCl[0]? = some (RX0, TX0, 7)) win0 rfl (by decide) (by decide) rfl wm99) ?_
  refine xAll_c (xs_iload_n C dX0_pinPage_4 rfl) ?_
  refine xAll_c (xs_iload_n C dX0_pinPage_5 rfl) ?_
  refine xAll_c (xs_callU C (m_X5_set l g) dX0_pinPage_6 (rfl : vwCl[5]? = some (RX5, TX5, 1)) (by decide) rfl ⟨(by decide), (by decide), by decide +kernel⟩ wm418 wm292 wm293 wm3 wm294 ⟨Nat.le_of_ble_eq_true rfl, Nat.le_of_ble_eq_true rfl⟩) ?_
  refine xAll_c (xs_vret C dX0_pinPage_9 rfl) ?_
  exact trivial
noncomputable def k_X7_columnAt : xCode := [(0, oIload 1 1), (1, oIf1 (fun x => decide (x < 0)) 22 4), (4, oIload 1 5), (5, oAload 0 6), (6, oGetR 7 0 9), (9, oAlen 13 10), (10, oIf2 (fun x y => decide (y ≤ x)) 22 13), (13, oAload 0 14), (14, oGetR 7 0 17), (17, oIload 1 18), (18, oQald 19), (19, oGoto 23), (22, oNull 23), (23, oAret)]
noncomputable def f_X7_columnAt : xRun := xrun k_X7_columnAt 2
set_option maxHeartbeats 4000000 in
set_option maxRecDepth 100000 in
theorem m_X7_columnAt (l : Launch) (g : xG) : xMet l g yX7_columnAt cX7_columnAt 2 (some (.object "CodedColumn$Column")) 0 0 f_X7_columnAt := by
  refine xmet_of (own := RX7) (by decide +kernel) rfl (fun p e s m args below meth c r0 C => ?_)
  refine xAll_c (xs_iload_n C dX7_columnAt_0 rfl) ?_
  refine xAll_c (xs_if_lt C dX7_columnAt_1 (by decide)) ?_
  refine xAll_c (xs_iload_n C dX7_columnAt_4 rfl) ?_
  refine xAll_c (xs_aload_n C dX7_columnAt_5 rfl) ?_
  refine xAll_c (xs_getR C dX7_columnAt_6 (rfl : vwCl[7]? = some (RX7, TX7, 2)) win7 rfl (by decide) (by decide) rfl wm188) ?_
  refine xAll_c (xs_alen C dX7_columnAt_9 (Or.inr rfl)) ?_
  refine xAll_c (xs_icmp_ge C dX7_columnAt_10 (by decide)) ?_
  refine xAll_c (xs_aload_n C dX7_columnAt_13 rfl) ?_
  refine xAll_c (xs_getR C dX7_columnAt_14 (rfl : vwCl[7]? = some (RX7, TX7, 2)) win7 rfl (by decide) (by decide) rfl wm188) ?_
  refine xAll_c (xs_iload_n C dX7_columnAt_17 rfl) ?_
  refine xAll_c (xs_qald C dX7_columnAt_18) ?_
  refine xAll_c (xs_goto C dX7_columnAt_19 (by decide)) ?_
  refine xAll_c (xs_null C dX7_columnAt_22) ?_
  refine xAll_c (xs_aret C dX7_columnAt_23 rfl ⟨_, rfl⟩) ?_
  exact trivial
noncomputable def k_X7_store : xCode := [(0, oAload 0 1), (1, oIload 1 2), (2, oCallV 7 1 f_X7_columnAt 5), (5, oAstore 3 4 6), (6, oAload 3 7), (7, oIfnull 24 10), (10, oAload 3 11), (11, oAload 2 12), (12, oCallU 0 1 f_X0_copyFrom 15), (15, oAload 0 16), (16, oGetR 7 1 19), (19, oIload 1 20), (20, oConst (nI 1) 21), (21, oCallU 5 2 f_X5_set 24), (24, oVret)]
noncomputable def f_X7_store : xRun := xrun k_X7_store 4
set_option maxHeartbeats 4000000 in
set_option maxRecDepth 100000 in
theorem m_X7_store (l : Launch) (g : xG) : xMet l g yX7_store cX7_store 4 none 3 64 f_X7_store := by
  refine xmet_of (own := RX7) (by decide +kernel) rfl (fun p e s m args below meth c r0 C => ?_)
  refine xAll_c (xs_aload_n C dX7_store_0 rfl) ?_
  refine xAll_c (xs_iload_n C dX7_store_1 rfl) ?_
  refine xAll_c (xs_callV C (m_X7_columnAt l g) dX7_store_2 (rfl : vwCl[7]? = some (RX7, TX7, 2)) (by decide) rfl ⟨(by decide), (by decide), by decide +kernel⟩ wm333 wm335 wp9 wm8 wm336 ⟨Nat.le_of_ble_eq_true rfl, Nat.le_of_ble_eq_true rfl⟩) ?_
  refine xAll_c (xs_astore_n C dX7_store_5 rfl) ?_
  refine xAll_c (xs_aload_n C dX7_store_6 rfl) ?_
  refine xAll_c (xs_ifnull C dX7_store_7 (by decide)) ?_
  refine xAll_c (xs_aload_n C dX7_store_10 rfl) ?_
  refine xAll_c (xs_aload_n C dX7_store_11 rfl) ?_
  refine xAll_c (xs_callU C (m_X0_copyFrom l g) dX7_store_12 (rfl : vwCl[0]? = some (RX0, TX0, 7)) (by decide) rfl ⟨(by decide), (by decide), by decide +kernel⟩ wm337 wm338 wm339 wm2 wm340 ⟨Nat.le_of_ble_eq_true rfl, Nat.le_of_ble_eq_true rfl⟩) ?_
  refine xAll_c (xs_aload_n C dX7_store_15 rfl) ?_
  refine xAll_c (xs_getR C dX7_store_16 (rfl : vwCl[7]? = some (RX7, TX7, 2)) win7 rfl (by decide) (by decide) rfl wm189) ?_
  refine xAll_c (xs_iload_n C dX7_store_19 rfl) ?_
  refine xAll_c (xs_iconst C dX7_store_20 (by decide)) ?_
  refine xAll_c (xs_callU C (m_X5_set l g) dX7_store_21 (rfl : vwCl[5]? = some (RX5, TX5, 1)) (by decide) rfl ⟨(by decide), (by decide), by decide +kernel⟩ wm346 wm292 wm293 wm3 wm294 ⟨Nat.le_of_ble_eq_true rfl, Nat.le_of_ble_eq_true rfl⟩) ?_
  refine xAll_c (xs_vret C dX7_store_24 rfl) ?_
  exact trivial
noncomputable def k_X1_remember : xCode := [(0, oAload 0 1), (1, oGetR 1 0 4), (4, oAload 0 5), (5, oGetI 1 1 8), (8, oAload 1 9), (9, oCallU 7 2 f_X7_store 12), (12, oAload 0 13), (13, oAload 0 14), (14, oGetI 1 1 17), (17, oConst (nI 1) 18), (18, oBin (fun x y => x + y) 19), (19, oConst (nI 14) 21), (21, oDiv (fun x y => x - x / y * y) 22), (22, oPutI 1 1 25), (25, oAload 0 26), (26, oAload 0 27), (27, oGetI 1 2 30), (30, oConst (nI 1) 31), (31, oBin (fun x y => x + y) 32), (32, oConst (nI 14) 34), (34, oMin 37), (37, oPutI 1 2 40), (40, oVret)]
noncomputable def f_X1_remember : xRun := xrun k_X1_remember 2
set_option maxHeartbeats 4000000 in
set_option maxRecDepth 100000 in
theorem m_X1_remember (l : Launch) (g : xG) : xMet l g yX1_remember cX1_remember 2 none 4 87 f_X1_remember := by
  refine xmet_of (own := RX1) (by decide +kernel) rfl (fun p e s m args below meth c r0 C => ?_)
  refine xAll_c (xs_aload_n C dX1_remember_0 rfl) ?_
  refine xAll_c (xs_getR C dX1_remember_1 (rfl : vwCl[1]? = some (RX1, TX1, 3)) win1 rfl (by decide) (by decide) rfl wm195) ?_
  refine xAll_c (xs_aload_n C dX1_remember_4 rfl) ?_
  refine xAll_c (xs_getI C dX1_remember_5 (rfl : vwCl[1]? = some (RX1, TX1, 3)) win1 rfl (by decide) (by decide) rfl wm196) ?_
  refine xAll_c (xs_aload_n C dX1_remember_8 rfl) ?_
  refine xAll_c (xs_callU C (m_X7_store l g) dX1_remember_9 (rfl : vwCl[7]? = some (RX7, TX7, 2)) (by decide) rfl ⟨(by decide), (by decide), by decide +kernel⟩ wm329 wm330 wm331 wm8 wm332 ⟨Nat.le_of_ble_eq_true rfl, Nat.le_of_ble_eq_true rfl⟩) ?_
  refine xAll_c (xs_aload_n C dX1_remember_12 rfl) ?_
  refine xAll_c (xs_aload_n C dX1_remember_13 rfl) ?_
  refine xAll_c (xs_getI C dX1_remember_14 (rfl : vwCl[1]? = some (RX1, TX1, 3)) win1 rfl (by decide) (by decide) rfl wm196) ?_
  refine xAll_c (xs_iconst C dX1_remember_17 (by decide)) ?_
  refine xAll_c (xs_iadd C dX1_remember_18) ?_
  refine xAll_c (xs_bipush C dX1_remember_19 (by decide)) ?_
  refine xAll_c (xs_irem C dX1_remember_21) ?_
  refine xAll_c (xs_putI C dX1_remember_22 (rfl : vwCl[1]? = some (RX1, TX1, 3)) win1 tyX1_ok nmX1 rfl (by decide) (by decide) rfl rfl (by decide) wm196) ?_
  refine xAll_c (xs_aload_n C dX1_remember_25 rfl) ?_
  refine xAll_c (xs_aload_n C dX1_remember_26 rfl) ?_
  refine xAll_c (xs_getI C dX1_remember_27 (rfl : vwCl[1]? = some (RX1, TX1, 3)) win1 rfl (by decide) (by decide) rfl wm197) ?_
  refine xAll_c (xs_iconst C dX1_remember_30 (by decide)) ?_
  refine xAll_c (xs_iadd C dX1_remember_31) ?_
  refine xAll_c (xs_bipush C dX1_remember_32 (by decide)) ?_
  refine xAll_c (xs_min C dX1_remember_34 wm347 wm348 wm16 wm349 ⟨Nat.le_of_ble_eq_true rfl, Nat.le_of_ble_eq_true rfl⟩) ?_
  refine xAll_c (xs_putI C dX1_remember_37 (rfl : vwCl[1]? = some (RX1, TX1, 3)) win1 tyX1_ok nmX1 rfl (by decide) (by decide) rfl rfl (by decide) wm197) ?_
  refine xAll_c (xs_vret C dX1_remember_40 rfl) ?_
  exact trivial
noncomputable def k_X7_fetch : xCode := [(0, oAload 0 1), (1, oIload 1 2), (2, oCallV 7 1 f_X7_columnAt 5), (5, oAstore 3 4 6), (6, oAload 3 7), (7, oIfnull 15 10), (10, oAload 2 11), (11, oAload 3 12), (12, oCallU 0 1 f_X0_copyFrom 15), (15, oVret)]
noncomputable def f_X7_fetch : xRun := xrun k_X7_fetch 4
set_option maxHeartbeats 4000000 in
set_option maxRecDepth 100000 in
theorem m_X7_fetch (l : Launch) (g : xG) : xMet l g yX7_fetch cX7_fetch 4 none 3 64 f_X7_fetch := by
  refine xmet_of (own := RX7) (by decide +kernel) rfl (fun p e s m args below meth c r0 C => ?_)
  refine xAll_c (xs_aload_n C dX7_fetch_0 rfl) ?_
  refine xAll_c (xs_iload_n C dX7_fetch_1 rfl) ?_
  refine xAll_c (xs_callV C (m_X7_columnAt l g) dX7_fetch_2 (rfl : vwCl[7]? = some (RX7, TX7, 2)) (by decide) rfl ⟨(by decide), (by decide), by decide +kernel⟩ wm333 wm335 wp9 wm8 wm336 ⟨Nat.le_of_ble_eq_true rfl, Nat.le_of_ble_eq_true rfl⟩) ?_
  refine xAll_c (xs_astore_n C dX7_fetch_5 rfl) ?_
  refine xAll_c (xs_aload_n C dX7_fetch_6 rfl) ?_
  refine xAll_c (xs_ifnull C dX7_fetch_7 (by decide)) ?_
  refine xAll_c (xs_aload_n C dX7_fetch_10 rfl) ?_
  refine xAll_c (xs_aload_n C dX7_fetch_11 rfl) ?_
  refine xAll_c (xs_callU C (m_X0_copyFrom l g) dX7_fetch_12 (rfl : vwCl[0]? = some (RX0, TX0, 7)) (by decide) rfl ⟨(by decide), (by decide), by decide +kernel⟩ wm337 wm338 wm339 wm2 wm340 ⟨Nat.le_of_ble_eq_true rfl, Nat.le_of_ble_eq_true rfl⟩) ?_
  refine xAll_c (xs_vret C dX7_fetch_15 rfl) ?_
  exact trivial
noncomputable def k_X1_takeBack : xCode := [(0, oAload 0 1), (1, oAload 0 2), (2, oGetI 1 1 5), (5, oConst (nI 14) 7), (7, oBin (fun x y => x + y) 8), (8, oConst (nI 1) 9), (9, oBin (fun x y => x - y) 10), (10, oConst (nI 14) 12), (12, oDiv (fun x y => x - x / y * y) 13), (13, oPutI 1 1 16), (16, oAload 0 17), (17, oGetR 1 0 20), (20, oAload 0 21), (21, oGetI 1 1 24), (24, oAload 1 25), (25, oCallU 7 2 f_X7_fetch 28), (28, oAload 0 29), (29, oDup 30), (30, oGetI 1 2 33), (33, oConst (nI 1) 34), (34, oBin (fun x y => x - y) 35), (35, oPutI 1 2 38), (38, oAload 0 39), (39, oGetI 1 2 42), (42, oIret)]
noncomputable def f_X1_takeBack : xRun := xrun k_X1_takeBack 2
set_option maxHeartbeats 4000000 in
set_option maxRecDepth 100000 in
theorem m_X1_takeBack (l : Launch) (g : xG) : xMet l g yX1_takeBack cX1_takeBack 2 (some .int) 4 87 f_X1_takeBack := by
  refine xmet_of (own := RX1) (by decide +kernel) rfl (fun p e s m args below meth c r0 C => ?_)
  refine xAll_c (xs_aload_n C dX1_takeBack_0 rfl) ?_
  refine xAll_c (xs_aload_n C dX1_takeBack_1 rfl) ?_
  refine xAll_c (xs_getI C dX1_takeBack_2 (rfl : vwCl[1]? = some (RX1, TX1, 3)) win1 rfl (by decide) (by decide) rfl wm196) ?_
  refine xAll_c (xs_bipush C dX1_takeBack_5 (by decide)) ?_
  refine xAll_c (xs_iadd C dX1_takeBack_7) ?_
  refine xAll_c (xs_iconst C dX1_takeBack_8 (by decide)) ?_
  refine xAll_c (xs_isub C dX1_takeBack_9) ?_
  refine xAll_c (xs_bipush C dX1_takeBack_10 (by decide)) ?_
  refine xAll_c (xs_irem C dX1_takeBack_12) ?_
  refine xAll_c (xs_putI C dX1_takeBack_13 (rfl : vwCl[1]? = some (RX1, TX1, 3)) win1 tyX1_ok nmX1 rfl (by decide) (by decide) rfl rfl (by decide) wm196) ?_
  refine xAll_c (xs_aload_n C dX1_takeBack_16 rfl) ?_
  refine xAll_c (xs_getR C dX1_takeBack_17 (rfl : vwCl[1]? = some (RX1, TX1, 3)) win1 rfl (by decide) (by decide) rfl wm195) ?_
  refine xAll_c (xs_aload_n C dX1_takeBack_20 rfl) ?_
  refine xAll_c (xs_getI C dX1_takeBack_21 (rfl : vwCl[1]? = some (RX1, TX1, 3)) win1 rfl (by decide) (by decide) rfl wm196) ?_
  refine xAll_c (xs_aload_n C dX1_takeBack_24 rfl) ?_
  refine xAll_c (xs_callU C (m_X7_fetch l g) dX1_takeBack_25 (rfl : vwCl[7]? = some (RX7, TX7, 2)) (by decide) rfl ⟨(by decide), (by decide), by decide +kernel⟩ wm860 wm861 wm862 wm8 wm863 ⟨Nat.le_of_ble_eq_true rfl, Nat.le_of_ble_eq_true rfl⟩) ?_
  refine xAll_c (xs_aload_n C dX1_takeBack_28 rfl) ?_
  refine xAll_c (xs_dup C dX1_takeBack_29) ?_
  refine xAll_c (xs_getI C dX1_takeBack_30 (rfl : vwCl[1]? = some (RX1, TX1, 3)) win1 rfl (by decide) (by decide) rfl wm197) ?_
  refine xAll_c (xs_iconst C dX1_takeBack_33 (by decide)) ?_
  refine xAll_c (xs_isub C dX1_takeBack_34) ?_
  refine xAll_c (xs_putI C dX1_takeBack_35 (rfl : vwCl[1]? = some (RX1, TX1, 3)) win1 tyX1_ok nmX1 rfl (by decide) (by decide) rfl rfl (by decide) wm197) ?_
  refine xAll_c (xs_aload_n C dX1_takeBack_38 rfl) ?_
  refine xAll_c (xs_getI C dX1_takeBack_39 (rfl : vwCl[1]? = some (RX1, TX1, 3)) win1 rfl (by decide) (by decide) rfl wm197) ?_
  refine xAll_c (xs_iret C dX1_takeBack_42 rfl) ?_
  exact trivial
noncomputable def k_X1_forgetAll : xCode := [(0, oAload 0 1), (1, oConst (nI 0) 2), (2, oPutI 1 2 5), (5, oVret)]
noncomputable def f_X1_forgetAll : xRun := xrun k_X1_forgetAll 1
set_option maxHeartbeats 4000000 in
set_option maxRecDepth 100000 in
theorem m_X1_forgetAll (l : Launch) (g : xG) : xMet l g yX1_forgetAll cX1_forgetAll 1 none 0 0 f_X1_forgetAll := by
  refine xmet_of (own := RX1) (by decide +kernel) rfl (fun p e s m args below meth c r0 C => ?_)
  refine xAll_c (xs_aload_n C dX1_forgetAll_0 rfl) ?_
  refine xAll_c (xs_iconst C dX1_forgetAll_1 (by decide)) ?_
  refine xAll_c (xs_putI C dX1_forgetAll_2 (rfl : vwCl[1]? = some (RX1, TX1, 3)) win1 tyX1_ok nmX1 rfl (by decide) (by decide) rfl rfl (by decide) wm197) ?_
  refine xAll_c (xs_vret C dX1_forgetAll_5 rfl) ?_
  exact trivial
noncomputable def k_X2_wordAt : xCode := [(0, oIload 1 1), (1, oIf1 (fun x => decide (x < 0)) 22 4), (4, oIload 1 5), (5, oAload 0 6), (6, oGetR 2 0 9), (9, oAlen 10 10), (10, oIf2 (fun x y => decide (y ≤ x)) 22 13), (13, oAload 0 14), (14, oGetR 2 0 17), (17, oIload 1 18), (18, oIald 19), (19, oGoto 23), (22, oConst (nI 0) 23), (23, oIret)]
noncomputable def f_X2_wordAt : xRun := xrun k_X2_wordAt 2
set_option maxHeartbeats 4000000 in
set_option maxRecDepth 100000 in
theorem m_X2_wordAt (l : Launch) (g : xG) : xMet l g yX2_wordAt cX2_wordAt 2 (some .int) 0 0 f_X2_wordAt := by
  refine xmet_of (own := RX2) (by decide +kernel) rfl (fun p e s m args below meth c r0 C => ?_)
  refine xAll_c (xs_iload_n C dX2_wordAt_0 rfl) ?_
  refine xAll_c (xs_if_lt C dX2_wordAt_1 (by decide)) ?_
  refine xAll_c (xs_iload_n C dX2_wordAt_4 rfl) ?_
  refine xAll_c (xs_aload_n C dX2_wordAt_5 rfl) ?_
  refine xAll_c (xs_getR C dX2_wordAt_6 (rfl : vwCl[2]? = some (RX2, TX2, 10)) win2 rfl (by decide) (by decide) rfl wm50) ?_
  refine xAll_c (xs_alen C dX2_wordAt_9 (Or.inl rfl)) ?_
  refine xAll_c (xs_icmp_ge C dX2_wordAt_10 (by decide)) ?_
  refine xAll_c (xs_aload_n C dX2_wordAt_13 rfl) ?_
  refine xAll_c (xs_getR C dX2_wordAt_14 (rfl : vwCl[2]? = some (RX2, TX2, 10)) win2 rfl (by decide) (by decide) rfl wm50) ?_
  refine xAll_c (xs_iload_n C dX2_wordAt_17 rfl) ?_
  refine xAll_c (xs_iald C dX2_wordAt_18) ?_
  refine xAll_c (xs_goto C dX2_wordAt_19 (by decide)) ?_
  refine xAll_c (xs_iconst C dX2_wordAt_22 (by decide)) ?_
  refine xAll_c (xs_iret C dX2_wordAt_23 rfl) ?_
  exact trivial
noncomputable def k_X2_copyFrom : xCode := [(0, oAload 0 1), (1, oAload 1 2), (2, oGetI 2 1 5), (5, oPutI 2 1 8), (8, oConst (nI 0) 9), (9, oIstore 2 3 10), (10, oIload 2 11), (11, oAload 0 12), (12, oGetI 2 1 15), (15, oIf2 (fun x y => decide (y ≤ x)) 44 18), (18, oIload 2 19), (19, oAload 0 20), (20, oGetR 2 0 23), (23, oAlen 10 24), (24, oIf2 (fun x y => decide (y ≤ x)) 44 27), (27, oAload 0 28), (28, oGetR 2 0 31), (31, oIload 2 32), (32, oAload 1 33), (33, oIload 2 34), (34, oCallV 2 1 f_X2_wordAt 37), (37, oIast 38), (38, oIinc 2 (nI 1) 3 41), (41, oGoto 10), (44, oAload 0 45), (45, oAload 1 46), (46, oGetI 2 2 49), (49, oPutI 2 2 52), (52, oAload 0 53), (53, oAload 1 54), (54, oGetI 2 3 57), (57, oPutI 2 3 60), (60, oAload 0 61), (61, oAload 1 62), (62, oGetI 2 4 65), (65, oPutI 2 4 68), (68, oAload 0 69), (69, oAload 1 70), (70, oGetI 2 5 73), (73, oPutI 2 5 76), (76, oAload 0 77), (77, oAload 1 78), (78, oGetI 2 6 81), (81, oPutI 2 6 84), (84, oAload 0 85), (85, oAload 1 86), (86, oGetI 2 7 89), (89, oPutI 2 7 92), (92, oAload 0 93), (93, oAload 1 94), (94, oGetI 2 8 97), (97, oPutI 2 8 100), (100, oAload 0 101), (101, oAload 1 102), (102, oGetI 2 9 105), (105, oPutI 2 9 108), (108, oVret)]
noncomputable def f_X2_copyFrom : xRun := xrun k_X2_copyFrom 3
set_option maxHeartbeats 4000000 in
set_option maxRecDepth 100000 in
theorem m_X2_copyFrom (l : Launch) (g : xG) : xMet l g yX2_copyFrom cX2_copyFrom 3 none 1 21 f_X2_copyFrom := by
  refine xmet_of (own := RX2) (by decide +kernel) rfl (fun p e s m args below meth c r0 C => ?_)
  refine xAll_c (xs_aload_n C dX2_copyFrom_0 rfl) ?_
  refine xAll_c (xs_aload_n C dX2_copyFrom_1 rfl) ?_
  refine xAll_c (xs_getI C dX2_copyFrom_2 (rfl : vwCl[2]? = some (RX2, TX2, 10)) win2 rfl (by decide) (by decide) rfl wm51) ?_
  refine xAll_c (xs_putI C dX2_copyFrom_5 (rfl : vwCl[2]? = some (RX2, TX2, 10)) win2 tyX2_ok nmX2 rfl (by decide) (by decide) rfl rfl (by decide) wm51) ?_
  refine xAll_c (xs_iconst C dX2_copyFrom_8 (by decide)) ?_
  refine xAll_c (xs_istore_n C dX2_copyFrom_9 rfl) ?_
  refine xAll_c (xs_iload_n C dX2_copyFrom_10 rfl) ?_
  refine xAll_c (xs_aload_n C dX2_copyFrom_11 rfl) ?_
  refine xAll_c (xs_getI C dX2_copyFrom_12 (rfl : vwCl[2]? = some (RX2, TX2, 10)) win2 rfl (by decide) (by decide) rfl wm51) ?_
  refine xAll_c (xs_icmp_ge C dX2_copyFrom_15 (by decide)) ?_
  refine xAll_c (xs_iload_n C dX2_copyFrom_18 rfl) ?_
  refine xAll_c (xs_aload_n C dX2_copyFrom_19 rfl) ?_
  refine xAll_c (xs_getR C dX2_copyFrom_20 (rfl : vwCl[2]? = some (RX2, TX2, 10)) win2 rfl (by decide) (by decide) rfl wm50) ?_
  refine xAll_c (xs_alen C dX2_copyFrom_23 (Or.inl rfl)) ?_
  refine xAll_c (xs_icmp_ge C dX2_copyFrom_24 (by decide)) ?_
  refine xAll_c (xs_aload_n C dX2_copyFrom_27 rfl) ?_
  refine xAll_c (xs_getR C dX2_copyFrom_28 (rfl : vwCl[2]? = some (RX2, TX2, 10)) win2 rfl (by decide) (by decide) rfl wm50) ?_
  refine xAll_c (xs_iload_n C dX2_copyFrom_31 rfl) ?_
  refine xAll_c (xs_aload_n C dX2_copyFrom_32 rfl) ?_
  refine xAll_c (xs_iload_n C dX2_copyFrom_33 rfl) ?_
  refine xAll_c (xs_callV C (m_X2_wordAt l g) dX2_copyFrom_34 (rfl : vwCl[2]? = some (RX2, TX2, 10)) (by decide) rfl ⟨(by decide), (by decide), by decide +kernel⟩ wm895 wm654 wm655 wm4 wm656 ⟨Nat.le_of_ble_eq_true rfl, Nat.le_of_ble_eq_true rfl⟩) ?_
  refine xAll_c (xs_iast C dX2_copyFrom_37) ?_
  refine xAll_c (xs_iinc C dX2_copyFrom_38 rfl) ?_
  refine xAll_c (xs_goto C dX2_copyFrom_41 (by decide)) ?_
  refine xAll_c (xs_aload_n C dX2_copyFrom_44 rfl) ?_
  refine xAll_c (xs_aload_n C dX2_copyFrom_45 rfl) ?_
  refine xAll_c (xs_getI C dX2_copyFrom_46 (rfl : vwCl[2]? = some (RX2, TX2, 10)) win2 rfl (by decide) (by decide) rfl wm55) ?_
  refine xAll_c (xs_putI C dX2_copyFrom_49 (rfl : vwCl[2]? = some (RX2, TX2, 10)) win2 tyX2_ok nmX2 rfl (by decide) (by decide) rfl rfl (by decide) wm55) ?_
  refine xAll_c (xs_aload_n C dX2_copyFrom_52 rfl) ?_
  refine xAll_c (xs_aload_n C dX2_copyFrom_53 rfl) ?_
  refine xAll_c (xs_getI C dX2_copyFrom_54 (rfl : vwCl[2]? = some (RX2, TX2, 10)) win2 rfl (by decide) (by decide) rfl wm59) ?_
  refine xAll_c (xs_putI C dX2_copyFrom_57 (rfl : vwCl[2]? = some (RX2, TX2, 10)) win2 tyX2_ok nmX2 rfl (by decide) (by decide) rfl rfl (by decide) wm59) ?_
  refine xAll_c (xs_aload_n C dX2_copyFrom_60 rfl) ?_
  refine xAll_c (xs_aload_n C dX2_copyFrom_61 rfl) ?_
  refine xAll_c (xs_getI C dX2_copyFrom_62 (rfl : vwCl[2]? = some (RX2, TX2, 10)) win2 rfl (by decide) (by decide) rfl wm60) ?_
  refine xAll_c (xs_putI C dX2_copyFrom_65 (rfl : vwCl[2]? = some (RX2, TX2, 10)) win2 tyX2_ok nmX2 rfl (by decide) (by decide) rfl rfl (by decide) wm60) ?_
  refine xAll_c (xs_aload_n C dX2_copyFrom_68 rfl) ?_
  refine xAll_c (xs_aload_n C dX2_copyFrom_69 rfl) ?_
  refine xAll_c (xs_getI C dX2_copyFrom_70 (rfl : vwCl[2]? = some (RX2, TX2, 10)) win2 rfl (by decide) (by decide) rfl wm64) ?_
  refine xAll_c (xs_putI C dX2_copyFrom_73 (rfl : vwCl[2]? = some (RX2, TX2, 10)) win2 tyX2_ok nmX2 rfl (by decide) (by decide) rfl rfl (by decide) wm64) ?_
  refine xAll_c (xs_aload_n C dX2_copyFrom_76 rfl) ?_
  refine xAll_c (xs_aload_n C dX2_copyFrom_77 rfl) ?_
  refine xAll_c (xs_getI C dX2_copyFrom_78 (rfl : vwCl[2]? = some (RX2, TX2, 10)) win2 rfl (by decide) (by decide) rfl wm67) ?_
  refine xAll_c (xs_putI C dX2_copyFrom_81 (rfl : vwCl[2]? = some (RX2, TX2, 10)) win2 tyX2_ok nmX2 rfl (by decide) (by decide) rfl rfl (by decide) wm67) ?_
  refine xAll_c (xs_aload_n C dX2_copyFrom_84 rfl) ?_
  refine xAll_c (xs_aload_n C dX2_copyFrom_85 rfl) ?_
  refine xAll_c (xs_getI C dX2_copyFrom_86 (rfl : vwCl[2]? = some (RX2, TX2, 10)) win2 rfl (by decide) (by decide) rfl wm70) ?_
  refine xAll_c (xs_putI C dX2_copyFrom_89 (rfl : vwCl[2]? = some (RX2, TX2, 10)) win2 tyX2_ok nmX2 rfl (by decide) (by decide) rfl rfl (by decide) wm70) ?_
  refine xAll_c (xs_aload_n C dX2_copyFrom_92 rfl) ?_
  refine xAll_c (xs_aload_n C dX2_copyFrom_93 rfl) ?_
  refine xAll_c (xs_getI C dX2_copyFrom_94 (rfl : vwCl[2]? = some (RX2, TX2, 10)) win2 rfl (by decide) (by decide) rfl wm72) ?_
  refine xAll_c (xs_putI C dX2_copyFrom_97 (rfl : vwCl[2]? = some (RX2, TX2, 10)) win2 tyX2_ok nmX2 rfl (by decide) (by decide) rfl rfl (by decide) wm72) ?_
  refine xAll_c (xs_aload_n C dX2_copyFrom_100 rfl) ?_
  refine xAll_c (xs_aload_n C dX2_copyFrom_101 rfl) ?_
  refine xAll_c (xs_getI C dX2_copyFrom_102 (rfl : vwCl[2]? = some (RX2, TX2, 10)) win2 rfl (by decide) (by decide) rfl wm74) ?_
  refine xAll_c (xs_putI C dX2_copyFrom_105 (rfl : vwCl[2]? = some (RX2, TX2, 10)) win2 tyX2_ok nmX2 rfl (by decide) (by decide) rfl rfl (by decide) wm74) ?_
  refine xAll_c (xs_vret C dX2_copyFrom_108 rfl) ?_
  exact trivial
noncomputable def k_X3_isFull : xCode := [(0, oAload 0 1), (1, oGetI 3 3 4), (4, oConst (nI 160) 7), (7, oIf2 (fun x y => decide (x < y)) 14 10), (10, oConst (nI 1) 11), (11, oGoto 15), (14, oConst (nI 0) 15), (15, oZret)]
noncomputable def f_X3_isFull : xRun := xrun k_X3_isFull 1
set_option maxHeartbeats 4000000 in
set_option maxRecDepth 100000 in
theorem m_X3_isFull (l : Launch) (g : xG) : xMet l g yX3_isFull cX3_isFull 1 (some .boolean) 0 0 f_X3_isFull := by
  refine xmet_of (own := RX3) (by decide +kernel) rfl (fun p e s m args below meth c r0 C => ?_)
  refine xAll_c (xs_aload_n C dX3_isFull_0 rfl) ?_
  refine xAll_c (xs_getI C dX3_isFull_1 (rfl : vwCl[3]? = some (RX3, TX3, 7)) win3 rfl (by decide) (by decide) rfl wm134) ?_
  refine xAll_c (xs_sipush C dX3_isFull_4 (by decide)) ?_
  refine xAll_c (xs_icmp_lt C dX3_isFull_7 (by decide)) ?_
  refine xAll_c (xs_iconst C dX3_isFull_10 (by decide)) ?_
  refine xAll_c (xs_goto C dX3_isFull_11 (by decide)) ?_
  refine xAll_c (xs_iconst C dX3_isFull_14 (by decide)) ?_
  refine xAll_c (xs_zret C dX3_isFull_15 rfl) ?_
  exact trivial
noncomputable def k_X3_addCharacter : xCode := [(0, oAload 0 1), (1, oGetR 3 0 4), (4, oAload 0 5), (5, oGetI 3 3 8), (8, oIload 1 9), (9, oCallU 5 2 f_X5_set 12), (12, oAload 0 13), (13, oDup 14), (14, oGetI 3 3 17), (17, oConst (nI 1) 18), (18, oBin (fun x y => x + y) 19), (19, oPutI 3 3 22), (22, oAload 0 23), (23, oGetI 3 3 26), (26, oIret)]
noncomputable def f_X3_addCharacter : xRun := xrun k_X3_addCharacter 2
set_option maxHeartbeats 4000000 in
set_option maxRecDepth 100000 in
theorem m_X3_addCharacter (l : Launch) (g : xG) : xMet l g yX3_addCharacter cX3_addCharacter 2 (some .int) 1 22 f_X3_addCharacter := by
  refine xmet_of (own := RX3) (by decide +kernel) rfl (fun p e s m args below meth c r0 C => ?_)
  refine xAll_c (xs_aload_n C dX3_addCharacter_0 rfl) ?_
  refine xAll_c (xs_getR C dX3_addCharacter_1 (rfl : vwCl[3]? = some (RX3, TX3, 7)) win3 rfl (by decide) (by decide) rfl wm130) ?_
  refine xAll_c (xs_aload_n C dX3_addCharacter_4 rfl) ?_
  refine xAll_c (xs_getI C dX3_addCharacter_5 (rfl : vwCl[3]? = some (RX3, TX3, 7)) win3 rfl (by decide) (by decide) rfl wm134) ?_
  refine xAll_c (xs_iload_n C dX3_addCharacter_8 rfl) ?_
  refine xAll_c (xs_callU C (m_X5_set l g) dX3_addCharacter_9 (rfl : vwCl[5]? = some (RX5, TX5, 1)) (by decide) rfl ⟨(by decide), (by decide), by decide +kernel⟩ wm291 wm292 wm293 wm3 wm294 ⟨Nat.le_of_ble_eq_true rfl, Nat.le_of_ble_eq_true rfl⟩) ?_
  refine xAll_c (xs_aload_n C dX3_addCharacter_12 rfl) ?_
  refine xAll_c (xs_dup C dX3_addCharacter_13) ?_
  refine xAll_c (xs_getI C dX3_addCharacter_14 (rfl : vwCl[3]? = some (RX3, TX3, 7)) win3 rfl (by decide) (by decide) rfl wm134) ?_
  refine xAll_c (xs_iconst C dX3_addCharacter_17 (by decide)) ?_
  refine xAll_c (xs_iadd C dX3_addCharacter_18) ?_
  refine xAll_c (xs_putI C dX3_addCharacter_19 (rfl : vwCl[3]? = some (RX3, TX3, 7)) win3 tyX3_ok nmX3 rfl (by decide) (by decide) rfl rfl (by decide) wm134) ?_
  refine xAll_c (xs_aload_n C dX3_addCharacter_22 rfl) ?_
  refine xAll_c (xs_getI C dX3_addCharacter_23 (rfl : vwCl[3]? = some (RX3, TX3, 7)) win3 rfl (by decide) (by decide) rfl wm134) ?_
  refine xAll_c (xs_iret C dX3_addCharacter_26 rfl) ?_
  exact trivial
noncomputable def k_X3_makeEmpty : xCode := [(0, oAload 0 1), (1, oGetI 3 3 4), (4, oIstore 1 2 5), (5, oAload 0 6), (6, oConst (nI 0) 7), (7, oPutI 3 3 10), (10, oIload 1 11), (11, oIret)]
noncomputable def f_X3_makeEmpty : xRun := xrun k_X3_makeEmpty 2
set_option maxHeartbeats 4000000 in
set_option maxRecDepth 100000 in
theorem m_X3_makeEmpty (l : Launch) (g : xG) : xMet l g yX3_makeEmpty cX3_makeEmpty 2 (some .int) 0 0 f_X3_makeEmpty := by
  refine xmet_of (own := RX3) (by decide +kernel) rfl (fun p e s m args below meth c r0 C => ?_)
  refine xAll_c (xs_aload_n C dX3_makeEmpty_0 rfl) ?_
  refine xAll_c (xs_getI C dX3_makeEmpty_1 (rfl : vwCl[3]? = some (RX3, TX3, 7)) win3 rfl (by decide) (by decide) rfl wm134) ?_
  refine xAll_c (xs_istore_n C dX3_makeEmpty_4 rfl) ?_
  refine xAll_c (xs_aload_n C dX3_makeEmpty_5 rfl) ?_
  refine xAll_c (xs_iconst C dX3_makeEmpty_6 (by decide)) ?_
  refine xAll_c (xs_putI C dX3_makeEmpty_7 (rfl : vwCl[3]? = some (RX3, TX3, 7)) win3 tyX3_ok nmX3 rfl (by decide) (by decide) rfl rfl (by decide) wm134) ?_
  refine xAll_c (xs_iload_n C dX3_makeEmpty_10 rfl) ?_
  refine xAll_c (xs_iret C dX3_makeEmpty_11 rfl) ?_
  exact trivial
noncomputable def k_X3_digitHere : xCode := [(0, oAload 0 1), (1, oGetI 3 5 4), (4, oAload 0 5), (5, oGetI 3 3 8), (8, oIf2 (fun x y => decide (x < y)) 15 11), (11, oConst (-9999) 14), (14, oIret), (15, oAload 0 16), (16, oGetR 3 0 19), (19, oAload 0 20), (20, oGetI 3 5 23), (23, oCallV 5 1 f_X5_get 26), (26, oIstore 1 2 27), (27, oIload 1 28), (28, oConst (nI 48) 30), (30, oIf2 (fun x y => !(decide (x = y))) 35 33), (33, oConst (nI 0) 34), (34, oIret), (35, oIload 1 36), (36, oConst (nI 49) 38), (38, oIf2 (fun x y => !(decide (x = y))) 45 41), (41, oConst (nI 1) 42), (42, oGoto 48), (45, oConst (-9999) 48), (48, oIret)]
noncomputable def f_X3_digitHere : xRun := xrun k_X3_digitHere 2
set_option maxHeartbeats 4000000 in
set_option maxRecDepth 100000 in
theorem m_X3_digitHere (l : Launch) (g : xG) : xMet l g yX3_digitHere cX3_digitHere 2 (some .int) 1 21 f_X3_digitHere := by
  refine xmet_of (own := RX3) (by decide +kernel) rfl (fun p e s m args below meth c r0 C => ?_)
  refine xAll_c (xs_aload_n C dX3_digitHere_0 rfl) ?_
  refine xAll_c (xs_getI C dX3_digitHere_1 (rfl : vwCl[3]? = some (RX3, TX3, 7)) win3 rfl (by decide) (by decide) rfl wm137) ?_
  refine xAll_c (xs_aload_n C dX3_digitHere_4 rfl) ?_
  refine xAll_c (xs_getI C dX3_digitHere_5 (rfl : vwCl[3]? = some (RX3, TX3, 7)) win3 rfl (by decide) (by decide) rfl wm134) ?_
  refine xAll_c (xs_icmp_lt C dX3_digitHere_8 (by decide)) ?_
  refine xAll_c (xs_sipush C dX3_digitHere_11 (by decide)) ?_
  refine xAll_c (xs_iret C dX3_digitHere_14 rfl) ?_
  refine xAll_c (xs_aload_n C dX3_digitHere_15 rfl) ?_
  refine xAll_c (xs_getR C dX3_digitHere_16 (rfl : vwCl[3]? = some (RX3, TX3, 7)) win3 rfl (by decide) (by decide) rfl wm130) ?_
  refine xAll_c (xs_aload_n C dX3_digitHere_19 rfl) ?_
  refine xAll_c (xs_getI C dX3_digitHere_20 (rfl : vwCl[3]? = some (RX3, TX3, 7)) win3 rfl (by decide) (by decide) rfl wm137) ?_
  refine xAll_c (xs_callV C (m_X5_get l g) dX3_digitHere_23 (rfl : vwCl[5]? = some (RX5, TX5, 1)) (by decide) rfl ⟨(by decide), (by decide), by decide +kernel⟩ wm279 wm280 wm281 wm3 wm282 ⟨Nat.le_of_ble_eq_true rfl, Nat.le_of_ble_eq_true rfl⟩) ?_
  refine xAll_c (xs_istore_n C dX3_digitHere_26 rfl) ?_
  refine xAll_c (xs_iload_n C dX3_digitHere_27 rfl) ?_
  refine xAll_c (xs_bipush C dX3_digitHere_28 (by decide)) ?_
  refine xAll_c (xs_icmp_ne C dX3_digitHere_30 (by decide)) ?_
  refine xAll_c (xs_iconst C dX3_digitHere_33 (by decide)) ?_
  refine xAll_c (xs_iret C dX3_digitHere_34 rfl) ?_
  refine xAll_c (xs_iload_n C dX3_digitHere_35 rfl) ?_
  refine xAll_c (xs_bipush C dX3_digitHere_36 (by decide)) ?_
  refine xAll_c (xs_icmp_ne C dX3_digitHere_38 (by decide)) ?_
  refine xAll_c (xs_iconst C dX3_digitHere_41 (by decide)) ?_
  refine xAll_c (xs_goto C dX3_digitHere_42 (by decide)) ?_
  refine xAll_c (xs_sipush C dX3_digitHere_45 (by decide)) ?_
  refine xAll_c (xs_iret C dX3_digitHere_48 rfl) ?_
  exact trivial
noncomputable def k_X3_readNumber : xCode := [(0, oConst (nI 0) 1), (1, oIstore 4 9 3), (3, oIload 1 4), (4, oConst (nI 1) 5), (5, oBin (fun x y => x - y) 6), (6, oIstore 5 9 8), (8, oIload 5 10), (10, oIf1 (fun x => decide (x < 0)) 108 13), (13, oAload 0 14), (14, oGetI 3 6 17), (17, oConst (-9999) 20), (20, oIf2 (fun x y => !(decide (x = y))) 108 23), (23, oAload 0 24), (24, oCallV 3 0 f_X3_digitHere 27), (27, oIstore 6 9 29), (29, oConst (nI 2) 30), (30, oIload 4 32), (32, oBin (fun x y => x * y) 33), (33, oIload 6 35), (35, oBin (fun x y => x + y) 36), (36, oIload 5 38), (38, oBin (fun x y => x <<< (y &&& 31)) 39), (39, oIstore 7 9 41), (41, oIload 7 43), (43, oConst (nI 1) 44), (44, oIload 5 46), (46, oBin (fun x y => x <<< (y &&& 31)) 47), (47, oBin (fun x y => x + y) 48), (48, oConst (nI 1) 49), (49, oBin (fun x y => x - y) 50), (50, oIstore 8 9 52), (52, oIload 6 54), (54, oConst (-9999) 57), (57, oIf2 (fun x y => decide (x = y)) 72 60), (60, oIload 7 62), (62, oIload 3 63), (63, oIf2 (fun x y => decide (y < x)) 72 66), (66, oIload 8 68), (68, oIload 2 69), (69, oIf2 (fun x y => decide (y ≤ x)) 83 72), (72, oAload 0 73), (73, oAload 0 74), (74, oGetI 3 5 77), (77, oPutI 3 6 80), (80, oGoto 102), (83, oConst (nI 2) 84), (84, oIload 4 86), (86, oBin (fun x y => x * y) 87), (87, oIload 6 89), (89, oBin (fun x y => x + y) 90), (90, oIstore 4 9 92), (92, oAload 0 93), (93, oDup 94), (94, oGetI 3 5 97), (97, oConst (nI 1) 98), (98, oBin (fun x y => x + y) 99), (99, oPutI 3 5 102), (102, oIinc 5 (-1) 9 105), (105, oGoto 8), (108, oAload 0 109), (109, oGetI 3 6 112), (112, oConst (-9999) 115), (115, oIf2 (fun x y => !(decide (x = y))) 123 118), (118, oIload 4 120), (120, oGoto 124), (123, oIload 2 124), (124, oIret)]
noncomputable def f_X3_readNumber : xRun := xrun k_X3_readNumber 9
set_option maxHeartbeats 4000000 in
set_option maxRecDepth 100000 in
theorem m_X3_readNumber (l : Launch) (g : xG) : xMet l g yX3_readNumber cX3_readNumber 9 (some .int) 2 42 f_X3_readNumber := by
  refine xmet_of (own := RX3) (by decide +kernel) rfl (fun p e s m args below meth c r0 C => ?_)
  refine xAll_c (xs_iconst C dX3_readNumber_0 (by decide)) ?_
  refine xAll_c (xs_istore C dX3_readNumber_1) ?_
  refine xAll_c (xs_iload_n C dX3_readNumber_3 rfl) ?_
  refine xAll_c (xs_iconst C dX3_readNumber_4 (by decide)) ?_
  refine xAll_c (xs_isub C dX3_readNumber_5) ?_
  refine xAll_c (xs_istore C dX3_readNumber_6) ?_
  refine xAll_c (xs_iload C dX3_readNumber_8) ?_
  refine xAll_c (xs_if_lt C dX3_readNumber_10 (by decide)) ?_
  refine xAll_c (xs_aload_n C dX3_readNumber_13 rfl) ?_
  refine xAll_c (xs_getI C dX3_readNumber_14 (rfl : vwCl[3]? = some (RX3, TX3, 7)) win3 rfl (by decide) (by decide) rfl wm138) ?_
  refine xAll_c (xs_sipush C dX3_readNumber_17 (by decide)) ?_
  refine xAll_c (xs_icmp_ne C dX3_readNumber_20 (by decide)) ?_
  refine xAll_c (xs_aload_n C dX3_readNumber_23 rfl) ?_
  refine xAll_c (xs_callV C (m_X3_digitHere l g) dX3_readNumber_24 (rfl : vwCl[3]? = some (RX3, TX3, 7)) (by decide) rfl ⟨(by decide), (by decide), by decide +kernel⟩ wm275 wm277 wp1 wm5 wm278 ⟨Nat.le_of_ble_eq_true rfl, Nat.le_of_ble_eq_true rfl⟩) ?_
  refine xAll_c (xs_istore C dX3_readNumber_27) ?_
  refine xAll_c (xs_iconst C dX3_readNumber_29 (by decide)) ?_
  refine xAll_c (xs_iload C dX3_readNumber_30) ?_
  refine xAll_c (xs_imul C dX3_readNumber_32) ?_
  refine xAll_c (xs_iload C dX3_readNumber_33) ?_
  refine xAll_c (xs_iadd C dX3_readNumber_35) ?_
  refine xAll_c (xs_iload C dX3_readNumber_36) ?_
  refine xAll_c (xs_ishl C dX3_readNumber_38) ?_
  refine xAll_c (xs_istore C dX3_readNumber_39) ?_
  refine xAll_c (xs_iload C dX3_readNumber_41) ?_
  refine xAll_c (xs_iconst C dX3_readNumber_43 (by decide)) ?_
  refine xAll_c (xs_iload C dX3_readNumber_44) ?_
  refine xAll_c (xs_ishl C dX3_readNumber_46) ?_
  refine xAll_c (xs_iadd C dX3_readNumber_47) ?_
  refine xAll_c (xs_iconst C dX3_readNumber_48 (by decide)) ?_
  refine xAll_c (xs_isub C dX3_readNumber_49) ?_
  refine xAll_c (xs_istore C dX3_readNumber_50) ?_
  refine xAll_c (xs_iload C dX3_readNumber_52) ?_
  refine xAll_c (xs_sipush C dX3_readNumber_54 (by decide)) ?_
  refine xAll_c (xs_icmp_eq C dX3_readNumber_57 (by decide)) ?_
  refine xAll_c (xs_iload C dX3_readNumber_60) ?_
  refine xAll_c (xs_iload_n C dX3_readNumber_62 rfl) ?_
  refine xAll_c (xs_icmp_gt C dX3_readNumber_63 (by decide)) ?_
  refine xAll_c (xs_iload C dX3_readNumber_66) ?_
  refine xAll_c (xs_iload_n C dX3_readNumber_68 rfl) ?_
  refine xAll_c (xs_icmp_ge C dX3_readNumber_69 (by decide)) ?_
  refine xAll_c (xs_aload_n C dX3_readNumber_72 rfl) ?_
  refine xAll_c (xs_aload_n C dX3_readNumber_73 rfl) ?_
  refine xAll_c (xs_getI C dX3_readNumber_74 (rfl : vwCl[3]? = some (RX3, TX3, 7)) win3 rfl (by decide) (by decide) rfl wm137) ?_
  refine xAll_c (xs_putI C dX3_readNumber_77 (rfl : vwCl[3]? = some (RX3, TX3, 7)) win3 tyX3_ok nmX3 rfl (by decide) (by decide) rfl rfl (by decide) wm138) ?_
  refine xAll_c (xs_goto C dX3_readNumber_80 (by decide)) ?_
  refine xAll_c (xs_iconst C dX3_readNumber_83 (by decide)) ?_
  refine xAll_c (xs_iload C dX3_readNumber_84) ?_
  refine xAll_c (xs_imul C dX3_readNumber_86) ?_
  refine xAll_c (xs_iload C dX3_readNumber_87) ?_
  refine xAll_c (xs_iadd C dX3_readNumber_89) ?_
  refine xAll_c (xs_istore C dX3_readNumber_90) ?_
  refine xAll_c (xs_aload_n C dX3_readNumber_92 rfl) ?_
  refine xAll_c (xs_dup C dX3_readNumber_93) ?_
  refine xAll_c (xs_getI C dX3_readNumber_94 (rfl : vwCl[3]? = some (RX3, TX3, 7)) win3 rfl (by decide) (by decide) rfl wm137) ?_
  refine xAll_c (xs_iconst C dX3_readNumber_97 (by decide)) ?_
  refine xAll_c (xs_iadd C dX3_readNumber_98) ?_
  refine xAll_c (xs_putI C dX3_readNumber_99 (rfl : vwCl[3]? = some (RX3, TX3, 7)) win3 tyX3_ok nmX3 rfl (by decide) (by decide) rfl rfl (by decide) wm137) ?_
  refine xAll_c (xs_iinc C dX3_readNumber_102 rfl) ?_
  refine xAll_c (xs_goto C dX3_readNumber_105 (by decide)) ?_
  refine xAll_c (xs_aload_n C dX3_readNumber_108 rfl) ?_
  refine xAll_c (xs_getI C dX3_readNumber_109 (rfl : vwCl[3]? = some (RX3, TX3, 7)) win3 rfl (by decide) (by decide) rfl wm138) ?_
  refine xAll_c (xs_sipush C dX3_readNumber_112 (by decide)) ?_
  refine xAll_c (xs_icmp_ne C dX3_readNumber_115 (by decide)) ?_
  refine xAll_c (xs_iload C dX3_readNumber_118) ?_
  refine xAll_c (xs_goto C dX3_readNumber_120 (by decide)) ?_
  refine xAll_c (xs_iload_n C dX3_readNumber_123 rfl) ?_
  refine xAll_c (xs_iret C dX3_readNumber_124 rfl) ?_
  exact trivial
noncomputable def k_X3_readValue : xCode := [(0, oAload 0 1), (1, oConst (nI 10) 3), (3, oConst (nI 0) 4), (4, oConst (nI 1023) 7), (7, oCallV 3 3 f_X3_readNumber 10), (10, oIret)]
noncomputable def f_X3_readValue : xRun := xrun k_X3_readValue 1
set_option maxHeartbeats 4000000 in
set_option maxRecDepth 100000 in
theorem m_X3_readValue (l : Launch) (g : xG) : xMet l g yX3_readValue cX3_readValue 1 (some .int) 3 70 f_X3_readValue := by
  refine xmet_of (own := RX3) (by decide +kernel) rfl (fun p e s m args below meth c r0 C => ?_)
  refine xAll_c (xs_aload_n C dX3_readValue_0 rfl) ?_
  refine xAll_c (xs_bipush C dX3_readValue_1 (by decide)) ?_
  refine xAll_c (xs_iconst C dX3_readValue_3 (by decide)) ?_
  refine xAll_c (xs_sipush C dX3_readValue_4 (by decide)) ?_
  refine xAll_c (xs_callV C (m_X3_readNumber l g) dX3_readValue_7 (rfl : vwCl[3]? = some (RX3, TX3, 7)) (by decide) rfl ⟨(by decide), (by decide), by decide +kernel⟩ wm271 wm273 wp0 wm5 wm274 ⟨Nat.le_of_ble_eq_true rfl, Nat.le_of_ble_eq_true rfl⟩) ?_
  refine xAll_c (xs_iret C dX3_readValue_10 rfl) ?_
  exact trivial
noncomputable def k_X3_readWords : xCode := [(0, oAload 0 1), (1, oConst (nI 4) 2), (2, oConst (nI 1) 3), (3, oAload 0 4), (4, oGetI 3 4 7), (7, oCallV 3 3 f_X3_readNumber 10), (10, oIstore 1 4 11), (11, oConst (nI 0) 12), (12, oIstore 2 4 13), (13, oIload 2 14), (14, oIload 1 15), (15, oIf2 (fun x y => decide (y ≤ x)) 36 18), (18, oAload 0 19), (19, oGetR 3 2 22), (22, oIload 2 23), (23, oAload 0 24), (24, oCallV 3 0 f_X3_readValue 27), (27, oCallU 5 2 f_X5_set 30), (30, oIinc 2 (nI 1) 4 33), (33, oGoto 13), (36, oIload 1 37), (37, oConst (nI 1) 38), (38, oBin (fun x y => x - y) 39), (39, oCallSV 1 f_X8_widthOf 42), (42, oIstore 2 4 43), (43, oConst (nI 0) 44), (44, oIstore 3 4 45), (45, oIload 3 46), (46, oAload 0 47), (47, oGetI 3 4 50), (50, oIf2 (fun x y => decide (y ≤ x)) 83 53), (53, oAload 0 54), (54, oGetR 3 1 57), (57, oIload 3 58), (58, oAload 0 59), (59, oGetR 3 2 62), (62, oAload 0 63), (63, oIload 2 64), (64, oConst (nI 0) 65), (65, oIload 1 66), (66, oConst (nI 1) 67), (67, oBin (fun x y => x - y) 68), (68, oCallV 3 3 f_X3_readNumber 71), (71, oCallV 5 1 f_X5_get 74), (74, oCallU 5 2 f_X5_set 77), (77, oIinc 3 (nI 1) 4 80), (80, oGoto 45), (83, oVret)]
noncomputable def f_X3_readWords : xRun := xrun k_X3_readWords 4
set_option maxHeartbeats 4000000 in
set_option maxRecDepth 100000 in
theorem m_X3_readWords (l : Launch) (g : xG) : xMet l g yX3_readWords cX3_readWords 4 none 4 90 f_X3_readWords := by
  refine xmet_of (own := RX3) (by decide +kernel) rfl (fun p e s m args below meth c r0 C => ?_)
  refine xAll_c (xs_aload_n C dX3_readWords_0 rfl) ?_
  refine xAll_c (xs_iconst C dX3_readWords_1 (by decide)) ?_
  refine xAll_c (xs_iconst C dX3_readWords_2 (by decide)) ?_
  refine xAll_c (xs_aload_n C dX3_readWords_3 rfl) ?_
  refine xAll_c (xs_getI C dX3_readWords_4 (rfl : vwCl[3]? = some (RX3, TX3, 7)) win3 rfl (by decide) (by decide) rfl wm135) ?_
  refine xAll_c (xs_callV C (m_X3_readNumber l g) dX3_readWords_7 (rfl : vwCl[3]? = some (RX3, TX3, 7)) (by decide) rfl ⟨(by decide), (by decide), by decide +kernel⟩ wm271 wm273 wp0 wm5 wm274 ⟨Nat.le_of_ble_eq_true rfl, Nat.le_of_ble_eq_true rfl⟩) ?_
  refine xAll_c (xs_istore_n C dX3_readWords_10 rfl) ?_
  refine xAll_c (xs_iconst C dX3_readWords_11 (by decide)) ?_
  refine xAll_c (xs_istore_n C dX3_readWords_12 rfl) ?_
  refine xAll_c (xs_iload_n C dX3_readWords_13 rfl) ?_
  refine xAll_c (xs_iload_n C dX3_readWords_14 rfl) ?_
  refine xAll_c (xs_icmp_ge C dX3_readWords_15 (by decide)) ?_
  refine xAll_c (xs_aload_n C dX3_readWords_18 rfl) ?_
  refine xAll_c (xs_getR C dX3_readWords_19 (rfl : vwCl[3]? = some (RX3, TX3, 7)) win3 rfl (by decide) (by decide) rfl wm133) ?_
  refine xAll_c (xs_iload_n C dX3_readWords_22 rfl) ?_
  refine xAll_c (xs_aload_n C dX3_readWords_23 rfl) ?_
  refine xAll_c (xs_callV C (m_X3_readValue l g) dX3_readWords_24 (rfl : vwCl[3]? = some (RX3, TX3, 7)) (by decide) rfl ⟨(by decide), (by decide), by decide +kernel⟩ wm287 wm289 wp3 wm5 wm290 ⟨Nat.le_of_ble_eq_true rfl, Nat.le_of_ble_eq_true rfl⟩) ?_
  refine xAll_c (xs_callU C (m_X5_set l g) dX3_readWords_27 (rfl : vwCl[5]? = some (RX5, TX5, 1)) (by decide) rfl ⟨(by decide), (by decide), by decide +kernel⟩ wm291 wm292 wm293 wm3 wm294 ⟨Nat.le_of_ble_eq_true rfl, Nat.le_of_ble_eq_true rfl⟩) ?_
  refine xAll_c (xs_iinc C dX3_readWords_30 rfl) ?_
  refine xAll_c (xs_goto C dX3_readWords_33 (by decide)) ?_
  refine xAll_c (xs_iload_n C dX3_readWords_36 rfl) ?_
  refine xAll_c (xs_iconst C dX3_readWords_37 (by decide)) ?_
  refine xAll_c (xs_isub C dX3_readWords_38) ?_
  refine xAll_c (xs_callNV (host := "CodedColumn") C (m_X8_widthOf l g) dX3_readWords_39 ⟨(by decide), (by decide), by decide +kernel⟩ (by decide +kernel) wm296 wm1 wm297 ⟨Nat.le_of_ble_eq_true rfl, Nat.le_of_ble_eq_true rfl⟩) ?_
  refine xAll_c (xs_istore_n C dX3_readWords_42 rfl) ?_
  refine xAll_c (xs_iconst C dX3_readWords_43 (by decide)) ?_
  refine xAll_c (xs_istore_n C dX3_readWords_44 rfl) ?_
  refine xAll_c (xs_iload_n C dX3_readWords_45 rfl) ?_
  refine xAll_c (xs_aload_n C dX3_readWords_46 rfl) ?_
  refine xAll_c (xs_getI C dX3_readWords_47 (rfl : vwCl[3]? = some (RX3, TX3, 7)) win3 rfl (by decide) (by decide) rfl wm135) ?_
  refine xAll_c (xs_icmp_ge C dX3_readWords_50 (by decide)) ?_
  refine xAll_c (xs_aload_n C dX3_readWords_53 rfl) ?_
  refine xAll_c (xs_getR C dX3_readWords_54 (rfl : vwCl[3]? = some (RX3, TX3, 7)) win3 rfl (by decide) (by decide) rfl wm131) ?_
  refine xAll_c (xs_iload_n C dX3_readWords_57 rfl) ?_
  refine xAll_c (xs_aload_n C dX3_readWords_58 rfl) ?_
  refine xAll_c (xs_getR C dX3_readWords_59 (rfl : vwCl[3]? = some (RX3, TX3, 7)) win3 rfl (by decide) (by decide) rfl wm133) ?_
  refine xAll_c (xs_aload_n C dX3_readWords_62 rfl) ?_
  refine xAll_c (xs_iload_n C dX3_readWords_63 rfl) ?_
  refine xAll_c (xs_iconst C dX3_readWords_64 (by decide)) ?_
  refine xAll_c (xs_iload_n C dX3_readWords_65 rfl) ?_
  refine xAll_c (xs_iconst C dX3_readWords_66 (by decide)) ?_
  refine xAll_c (xs_isub C dX3_readWords_67) ?_
  refine xAll_c (xs_callV C (m_X3_readNumber l g) dX3_readWords_68 (rfl : vwCl[3]? = some (RX3, TX3, 7)) (by decide) rfl ⟨(by decide), (by decide), by decide +kernel⟩ wm271 wm273 wp0 wm5 wm274 ⟨Nat.le_of_ble_eq_true rfl, Nat.le_of_ble_eq_true rfl⟩) ?_
  refine xAll_c (xs_callV C (m_X5_get l g) dX3_readWords_71 (rfl : vwCl[5]? = some (RX5, TX5, 1)) (by decide) rfl ⟨(by decide), (by decide), by decide +kernel⟩ wm279 wm280 wm281 wm3 wm282 ⟨Nat.le_of_ble_eq_true rfl, Nat.le_of_ble_eq_true rfl⟩) ?_
  refine xAll_c (xs_callU C (m_X5_set l g) dX3_readWords_74 (rfl : vwCl[5]? = some (RX5, TX5, 1)) (by decide) rfl ⟨(by decide), (by decide), by decide +kernel⟩ wm291 wm292 wm293 wm3 wm294 ⟨Nat.le_of_ble_eq_true rfl, Nat.le_of_ble_eq_true rfl⟩) ?_
  refine xAll_c (xs_iinc C dX3_readWords_77 rfl) ?_
  refine xAll_c (xs_goto C dX3_readWords_80 (by decide)) ?_
  refine xAll_c (xs_vret C dX3_readWords_83 rfl) ?_
  exact trivial
noncomputable def k_X3_readRuns : xCode := [(0, oConst (nI 0) 1), (1, oIstore 1 4 2), (2, oConst (nI 0) 3), (3, oIstore 2 4 4), (4, oConst (nI 0) 5), (5, oIstore 3 4 6), (6, oIload 3 7), (7, oAload 0 8), (8, oGetI 3 4 11), (11, oIf2 (fun x y => decide (y ≤ x)) 54 14), (14, oIload 3 15), (15, oIload 2 16), (16, oIf2 (fun x y => !(decide (x = y))) 39 19), (19, oAload 0 20), (20, oCallV 3 0 f_X3_readValue 23), (23, oIstore 1 4 24), (24, oIload 3 25), (25, oAload 0 26), (26, oConst (nI 4) 27), (27, oConst (nI 1) 28), (28, oAload 0 29), (29, oGetI 3 4 32), (32, oIload 3 33), (33, oBin (fun x y => x - y) 34), (34, oCallV 3 3 f_X3_readNumber 37), (37, oBin (fun x y => x + y) 38), (38, oIstore 2 4 39), (39, oAload 0 40), (40, oGetR 3 1 43), (43, oIload 3 44), (44, oIload 1 45), (45, oCallU 5 2 f_X5_set 48), (48, oIinc 3 (nI 1) 4 51), (51, oGoto 6), (54, oVret)]
noncomputable def f_X3_readRuns : xRun := xrun k_X3_readRuns 4
set_option maxHeartbeats 4000000 in
set_option maxRecDepth 100000 in
theorem m_X3_readRuns (l : Launch) (g : xG) : xMet l g yX3_readRuns cX3_readRuns 4 none 4 90 f_X3_readRuns := by
  refine xmet_of (own := RX3) (by decide +kernel) rfl (fun p e s m args below meth c r0 C => ?_)
  refine xAll_c (xs_iconst C dX3_readRuns_0 (by decide)) ?_
  refine xAll_c (xs_istore_n C dX3_readRuns_1 rfl) ?_
  refine xAll_c (xs_iconst C dX3_readRuns_2 (by decide)) ?_
  refine xAll_c (xs_istore_n C dX3_readRuns_3 rfl) ?_
  refine xAll_c (xs_iconst C dX3_readRuns_4 (by decide)) ?_
  refine xAll_c (xs_istore_n C dX3_readRuns_5 rfl) ?_
  refine xAll_c (xs_iload_n C dX3_readRuns_6 rfl) ?_
  refine xAll_c (xs_aload_n C dX3_readRuns_7 rfl) ?_
  refine xAll_c (xs_getI C dX3_readRuns_8 (rfl : vwCl[3]? = some (RX3, TX3, 7)) win3 rfl (by decide) (by decide) rfl wm135) ?_
  refine xAll_c (xs_icmp_ge C dX3_readRuns_11 (by decide)) ?_
  refine xAll_c (xs_iload_n C dX3_readRuns_14 rfl) ?_
  refine xAll_c (xs_iload_n C dX3_readRuns_15 rfl) ?_
  refine xAll_c (xs_icmp_ne C dX3_readRuns_16 (by decide)) ?_
  refine xAll_c (xs_aload_n C dX3_readRuns_19 rfl) ?_
  refine xAll_c (xs_callV C (m_X3_readValue l g) dX3_readRuns_20 (rfl : vwCl[3]? = some (RX3, TX3, 7)) (by decide) rfl ⟨(by decide), (by decide), by decide +kernel⟩ wm287 wm289 wp3 wm5 wm290 ⟨Nat.le_of_ble_eq_true rfl, Nat.le_of_ble_eq_true rfl⟩) ?_
  refine xAll_c (xs_istore_n C dX3_readRuns_23 rfl) ?_
  refine xAll_c (xs_iload_n C dX3_readRuns_24 rfl) ?_
  refine xAll_c (xs_aload_n C dX3_readRuns_25 rfl) ?_
  refine xAll_c (xs_iconst C dX3_readRuns_26 (by decide)) ?_
  refine xAll_c (xs_iconst C dX3_readRuns_27 (by decide)) ?_
  refine xAll_c (xs_aload_n C dX3_readRuns_28 rfl) ?_
  refine xAll_c (xs_getI C dX3_readRuns_29 (rfl : vwCl[3]? = some (RX3, TX3, 7)) win3 rfl (by decide) (by decide) rfl wm135) ?_
  refine xAll_c (xs_iload_n C dX3_readRuns_32 rfl) ?_
  refine xAll_c (xs_isub C dX3_readRuns_33) ?_
  refine xAll_c (xs_callV C (m_X3_readNumber l g) dX3_readRuns_34 (rfl : vwCl[3]? = some (RX3, TX3, 7)) (by decide) rfl ⟨(by decide), (by decide), by decide +kernel⟩ wm271 wm273 wp0 wm5 wm274 ⟨Nat.le_of_ble_eq_true rfl, Nat.le_of_ble_eq_true rfl⟩) ?_
  refine xAll_c (xs_iadd C dX3_readRuns_37) ?_
  refine xAll_c (xs_istore_n C dX3_readRuns_38 rfl) ?_
  refine xAll_c (xs_aload_n C dX3_readRuns_39 rfl) ?_
  refine xAll_c (xs_getR C dX3_readRuns_40 (rfl : vwCl[3]? = some (RX3, TX3, 7)) win3 rfl (by decide) (by decide) rfl wm131) ?_
  refine xAll_c (xs_iload_n C dX3_readRuns_43 rfl) ?_
  refine xAll_c (xs_iload_n C dX3_readRuns_44 rfl) ?_
  refine xAll_c (xs_callU C (m_X5_set l g) dX3_readRuns_45 (rfl : vwCl[5]? = some (RX5, TX5, 1)) (by decide) rfl ⟨(by decide), (by decide), by decide +kernel⟩ wm291 wm292 wm293 wm3 wm294 ⟨Nat.le_of_ble_eq_true rfl, Nat.le_of_ble_eq_true rfl⟩) ?_
  refine xAll_c (xs_iinc C dX3_readRuns_48 rfl) ?_
  refine xAll_c (xs_goto C dX3_readRuns_51 (by decide)) ?_
  refine xAll_c (xs_vret C dX3_readRuns_54 rfl) ?_
  exact trivial
noncomputable def k_X3_readSmall : xCode := [(0, oAload 0 1), (1, oCallV 3 0 f_X3_readValue 4), (4, oIstore 1 4 5), (5, oAload 0 6), (6, oConst (nI 4) 7), (7, oConst (nI 0) 8), (8, oConst (nI 10) 10), (10, oCallV 3 3 f_X3_readNumber 13), (13, oIstore 2 4 14), (14, oConst (nI 0) 15), (15, oIstore 3 4 16), (16, oIload 3 17), (17, oAload 0 18), (18, oGetI 3 4 21), (21, oIf2 (fun x y => decide (y ≤ x)) 51 24), (24, oAload 0 25), (25, oGetR 3 1 28), (28, oIload 3 29), (29, oIload 1 30), (30, oAload 0 31), (31, oIload 2 32), (32, oConst (nI 0) 33), (33, oConst (nI 1023) 36), (36, oIload 1 37), (37, oBin (fun x y => x - y) 38), (38, oCallV 3 3 f_X3_readNumber 41), (41, oBin (fun x y => x + y) 42), (42, oCallU 5 2 f_X5_set 45), (45, oIinc 3 (nI 1) 4 48), (48, oGoto 16), (51, oVret)]
noncomputable def f_X3_readSmall : xRun := xrun k_X3_readSmall 4
set_option maxHeartbeats 4000000 in
set_option maxRecDepth 100000 in
theorem m_X3_readSmall (l : Launch) (g : xG) : xMet l g yX3_readSmall cX3_readSmall 4 none 4 90 f_X3_readSmall := by
  refine xmet_of (own := RX3) (by decide +kernel) rfl (fun p e s m args below meth c r0 C => ?_)
  refine xAll_c (xs_aload_n C dX3_readSmall_0 rfl) ?_
  refine xAll_c (xs_callV C (m_X3_readValue l g) dX3_readSmall_1 (rfl : vwCl[3]? = some (RX3, TX3, 7)) (by decide) rfl ⟨(by decide), (by decide), by decide +kernel⟩ wm287 wm289 wp3 wm5 wm290 ⟨Nat.le_of_ble_eq_true rfl, Nat.le_of_ble_eq_true rfl⟩) ?_
  refine xAll_c (xs_istore_n C dX3_readSmall_4 rfl) ?_
  refine xAll_c (xs_aload_n C dX3_readSmall_5 rfl) ?_
  refine xAll_c (xs_iconst C dX3_readSmall_6 (by decide)) ?_
  refine xAll_c (xs_iconst C dX3_readSmall_7 (by decide)) ?_
  refine xAll_c (xs_bipush C dX3_readSmall_8 (by decide)) ?_
  refine xAll_c (xs_callV C (m_X3_readNumber l g) dX3_readSmall_10 (rfl : vwCl[3]? = some (RX3, TX3, 7)) (by decide) rfl ⟨(by decide), (by decide), by decide +kernel⟩ wm271 wm273 wp0 wm5 wm274 ⟨Nat.le_of_ble_eq_true rfl, Nat.le_of_ble_eq_true rfl⟩) ?_
  refine xAll_c (xs_istore_n C dX3_readSmall_13 rfl) ?_
  refine xAll_c (xs_iconst C dX3_readSmall_14 (by decide)) ?_
  refine xAll_c (xs_istore_n C dX3_readSmall_15 rfl) ?_
  refine xAll_c (xs_iload_n C dX3_readSmall_16 rfl) ?_
  refine xAll_c (xs_aload_n C dX3_readSmall_17 rfl) ?_
  refine xAll_c (xs_getI C dX3_readSmall_18 (rfl : vwCl[3]? = some (RX3, TX3, 7)) win3 rfl (by decide) (by decide) rfl wm135) ?_
  refine xAll_c (xs_icmp_ge C dX3_readSmall_21 (by decide)) ?_
  refine xAll_c (xs_aload_n C dX3_readSmall_24 rfl) ?_
  refine xAll_c (xs_getR C dX3_readSmall_25 (rfl : vwCl[3]? = some (RX3, TX3, 7)) win3 rfl (by decide) (by decide) rfl wm131) ?_
  refine xAll_c (xs_iload_n C dX3_readSmall_28 rfl) ?_
  refine xAll_c (xs_iload_n C dX3_readSmall_29 rfl) ?_
  refine xAll_c (xs_aload_n C dX3_readSmall_30 rfl) ?_
  refine xAll_c (xs_iload_n C dX3_readSmall_31 rfl) ?_
  refine xAll_c (xs_iconst C dX3_readSmall_32 (by decide)) ?_
  refine xAll_c (xs_sipush C dX3_readSmall_33 (by decide)) ?_
  refine xAll_c (xs_iload_n C dX3_readSmall_36 rfl) ?_
  refine xAll_c (xs_isub C dX3_readSmall_37) ?_
  refine xAll_c (xs_callV C (m_X3_readNumber l g) dX3_readSmall_38 (rfl : vwCl[3]? = some (RX3, TX3, 7)) (by decide) rfl ⟨(by decide), (by decide), by decide +kernel⟩ wm271 wm273 wp0 wm5 wm274 ⟨Nat.le_of_ble_eq_true rfl, Nat.le_of_ble_eq_true rfl⟩) ?_
  refine xAll_c (xs_iadd C dX3_readSmall_41) ?_
  refine xAll_c (xs_callU C (m_X5_set l g) dX3_readSmall_42 (rfl : vwCl[5]? = some (RX5, TX5, 1)) (by decide) rfl ⟨(by decide), (by decide), by decide +kernel⟩ wm291 wm292 wm293 wm3 wm294 ⟨Nat.le_of_ble_eq_true rfl, Nat.le_of_ble_eq_true rfl⟩) ?_
  refine xAll_c (xs_iinc C dX3_readSmall_45 rfl) ?_
  refine xAll_c (xs_goto C dX3_readSmall_48 (by decide)) ?_
  refine xAll_c (xs_vret C dX3_readSmall_51 rfl) ?_
  exact trivial
noncomputable def k_X3_readStep : xCode := [(0, oConst (nI 1) 1), (1, oIload 1 2), (2, oConst (nI 1) 3), (3, oBin (fun x y => x - y) 4), (4, oBin (fun x y => x <<< (y &&& 31)) 5), (5, oIstore 3 5 6), (6, oAload 0 7), (7, oConst (nI 1) 8), (8, oConst (nI 0) 9), (9, oIload 2 10), (10, oIf1 (fun x => decide (x ≤ 0)) 17 13), (13, oConst (nI 1) 14), (14, oGoto 18), (17, oConst (nI 0) 18), (18, oCallV 3 3 f_X3_readNumber 21), (21, oConst (nI 1) 22), (22, oIf2 (fun x y => !(decide (x = y))) 29 25), (25, oConst (nI 1) 26), (26, oGoto 30), (29, oConst (nI 0) 30), (30, oIstore 4 5 32), (32, oIload 4 34), (34, oIf1 (fun x => decide (x = 0)) 57 37), (37, oAload 0 38), (38, oIload 1 39), (39, oConst (nI 1) 40), (40, oBin (fun x y => x - y) 41), (41, oIload 3 42), (42, oIload 2 43), (43, oBin (fun x y => x - y) 44), (44, oConst (nI 0) 45), (45, oMax 48), (48, oIload 3 49), (49, oConst (nI 1) 50), (50, oBin (fun x y => x - y) 51), (51, oCallV 3 3 f_X3_readNumber 54), (54, oIload 3 55), (55, oBin (fun x y => x - y) 56), (56, oIret), (57, oAload 0 58), (58, oIload 1 59), (59, oConst (nI 1) 60), (60, oBin (fun x y => x - y) 61), (61, oConst (nI 0) 62), (62, oConst (nI 1023) 65), (65, oIload 2 66), (66, oBin (fun x y => x - y) 67), (67, oCallV 3 3 f_X3_readNumber 70), (70, oIret)]
noncomputable def f_X3_readStep : xRun := xrun k_X3_readStep 5
set_option maxHeartbeats 4000000 in
set_option maxRecDepth 100000 in
theorem m_X3_readStep (l : Launch) (g : xG) : xMet l g yX3_readStep cX3_readStep 5 (some .int) 3 70 f_X3_readStep := by
  refine xmet_of (own := RX3) (by decide +kernel) rfl (fun p e s m args below meth c r0 C => ?_)
  refine xAll_c (xs_iconst C dX3_readStep_0 (by decide)) ?_
  refine xAll_c (xs_iload_n C dX3_readStep_1 rfl) ?_
  refine xAll_c (xs_iconst C dX3_readStep_2 (by decide)) ?_
  refine xAll_c (xs_isub C dX3_readStep_3) ?_
  refine xAll_c (xs_ishl C dX3_readStep_4) ?_
  refine xAll_c (xs_istore_n C dX3_readStep_5 rfl) ?_
  refine xAll_c (xs_aload_n C dX3_readStep_6 rfl) ?_
  refine xAll_c (xs_iconst C dX3_readStep_7 (by decide)) ?_
  refine xAll_c (xs_iconst C dX3_readStep_8 (by decide)) ?_
  refine xAll_c (xs_iload_n C dX3_readStep_9 rfl) ?_
  refine xAll_c (xs_if_le C dX3_readStep_10 (by decide)) ?_
  refine xAll_c (xs_iconst C dX3_readStep_13 (by decide)) ?_
  refine xAll_c (xs_goto C dX3_readStep_14 (by decide)) ?_
  refine xAll_c (xs_iconst C dX3_readStep_17 (by decide)) ?_
  refine xAll_c (xs_callV C (m_X3_readNumber l g) dX3_readStep_18 (rfl : vwCl[3]? = some (RX3, TX3, 7)) (by decide) rfl ⟨(by decide), (by decide), by decide +kernel⟩ wm271 wm273 wp0 wm5 wm274 ⟨Nat.le_of_ble_eq_true rfl, Nat.le_of_ble_eq_true rfl⟩) ?_
  refine xAll_c (xs_iconst C dX3_readStep_21 (by decide)) ?_
  refine xAll_c (xs_icmp_ne C dX3_readStep_22 (by decide)) ?_
  refine xAll_c (xs_iconst C dX3_readStep_25 (by decide)) ?_
  refine xAll_c (xs_goto C dX3_readStep_26 (by decide)) ?_
  refine xAll_c (xs_iconst C dX3_readStep_29 (by decide)) ?_
  refine xAll_c (xs_istore C dX3_readStep_30) ?_
  refine xAll_c (xs_iload C dX3_readStep_32) ?_
  refine xAll_c (xs_if_eq C dX3_readStep_34 (by decide)) ?_
  refine xAll_c (xs_aload_n C dX3_readStep_37 rfl) ?_
  refine xAll_c (xs_iload_n C dX3_readStep_38 rfl) ?_
  refine xAll_c (xs_iconst C dX3_readStep_39 (by decide)) ?_
  refine xAll_c (xs_isub C dX3_readStep_40) ?_
  refine xAll_c (xs_iload_n C dX3_readStep_41 rfl) ?_
  refine xAll_c (xs_iload_n C dX3_readStep_42 rfl) ?_
  refine xAll_c (xs_isub C dX3_readStep_43) ?_
  refine xAll_c (xs_iconst C dX3_readStep_44 (by decide)) ?_
  refine xAll_c (xs_max C dX3_readStep_45 wm314 wm315 wm16 wm316 ⟨Nat.le_of_ble_eq_true rfl, Nat.le_of_ble_eq_true rfl⟩) ?_
  refine xAll_c (xs_iload_n C dX3_readStep_48 rfl) ?_
  refine xAll_c (xs_iconst C dX3_readStep_49 (by decide)) ?_
  refine xAll_c (xs_isub C dX3_readStep_50) ?_
  refine xAll_c (xs_callV C (m_X3_readNumber l g) dX3_readStep_51 (rfl : vwCl[3]? = some (RX3, TX3, 7)) (by decide) rfl ⟨(by decide), (by decide), by decide +kernel⟩ wm271 wm273 wp0 wm5 wm274 ⟨Nat.le_of_ble_eq_true rfl, Nat.le_of_ble_eq_true rfl⟩) ?_
  refine xAll_c (xs_iload_n C dX3_readStep_54 rfl) ?_
  refine xAll_c (xs_isub C dX3_readStep_55) ?_
  refine xAll_c (xs_iret C dX3_readStep_56 rfl) ?_
  refine xAll_c (xs_aload_n C dX3_readStep_57 rfl) ?_
  refine xAll_c (xs_iload_n C dX3_readStep_58 rfl) ?_
  refine xAll_c (xs_iconst C dX3_readStep_59 (by decide)) ?_
  refine xAll_c (xs_isub C dX3_readStep_60) ?_
  refine xAll_c (xs_iconst C dX3_readStep_61 (by decide)) ?_
  refine xAll_c (xs_sipush C dX3_readStep_62 (by decide)) ?_
  refine xAll_c (xs_iload_n C dX3_readStep_65 rfl) ?_
  refine xAll_c (xs_isub C dX3_readStep_66) ?_
  refine xAll_c (xs_callV C (m_X3_readNumber l g) dX3_readStep_67 (rfl : vwCl[3]? = some (RX3, TX3, 7)) (by decide) rfl ⟨(by decide), (by decide), by decide +kernel⟩ wm271 wm273 wp0 wm5 wm274 ⟨Nat.le_of_ble_eq_true rfl, Nat.le_of_ble_eq_true rfl⟩) ?_
  refine xAll_c (xs_iret C dX3_readStep_70 rfl) ?_
  exact trivial
noncomputable def k_X3_readSteps : xCode := [(0, oAload 0 1), (1, oCallV 3 0 f_X3_readValue 4), (4, oIstore 1 4 5), (5, oAload 0 6), (6, oConst (nI 4) 7), (7, oConst (nI 1) 8), (8, oConst (nI 11) 10), (10, oCallV 3 3 f_X3_readNumber 13), (13, oIstore 2 4 14), (14, oAload 0 15), (15, oGetR 3 1 18), (18, oConst (nI 0) 19), (19, oIload 1 20), (20, oCallU 5 2 f_X5_set 23), (23, oConst (nI 1) 24), (24, oIstore 3 4 25), (25, oIload 3 26), (26, oAload 0 27), (27, oGetI 3 4 30), (30, oIf2 (fun x y => decide (y ≤ x)) 57 33), (33, oIload 1 34), (34, oAload 0 35), (35, oIload 2 36), (36, oIload 1 37), (37, oCallV 3 2 f_X3_readStep 40), (40, oBin (fun x y => x + y) 41), (41, oIstore 1 4 42), (42, oAload 0 43), (43, oGetR 3 1 46), (46, oIload 3 47), (47, oIload 1 48), (48, oCallU 5 2 f_X5_set 51), (51, oIinc 3 (nI 1) 4 54), (54, oGoto 25), (57, oVret)]
noncomputable def f_X3_readSteps : xRun := xrun k_X3_readSteps 4
set_option maxHeartbeats 4000000 in
set_option maxRecDepth 100000 in
theorem m_X3_readSteps (l : Launch) (g : xG) : xMet l g yX3_readSteps cX3_readSteps 4 none 4 94 f_X3_readSteps := by
  refine xmet_of (own := RX3) (by decide +kernel) rfl (fun p e s m args below meth c r0 C => ?_)
  refine xAll_c (xs_aload_n C dX3_readSteps_0 rfl) ?_
  refine xAll_c (xs_callV C (m_X3_readValue l g) dX3_readSteps_1 (rfl : vwCl[3]? = some (RX3, TX3, 7)) (by decide) rfl ⟨(by decide), (by decide), by decide +kernel⟩ wm287 wm289 wp3 wm5 wm290 ⟨Nat.le_of_ble_eq_true rfl, Nat.le_of_ble_eq_true rfl⟩) ?_
  refine xAll_c (xs_istore_n C dX3_readSteps_4 rfl) ?_
  refine xAll_c (xs_aload_n C dX3_readSteps_5 rfl) ?_
  refine xAll_c (xs_iconst C dX3_readSteps_6 (by decide)) ?_
  refine xAll_c (xs_iconst C dX3_readSteps_7 (by decide)) ?_
  refine xAll_c (xs_bipush C dX3_readSteps_8 (by decide)) ?_
  refine xAll_c (xs_callV C (m_X3_readNumber l g) dX3_readSteps_10 (rfl : vwCl[3]? = some (RX3, TX3, 7)) (by decide) rfl ⟨(by decide), (by decide), by decide +kernel⟩ wm271 wm273 wp0 wm5 wm274 ⟨Nat.le_of_ble_eq_true rfl, Nat.le_of_ble_eq_true rfl⟩) ?_
  refine xAll_c (xs_istore_n C dX3_readSteps_13 rfl) ?_
  refine xAll_c (xs_aload_n C dX3_readSteps_14 rfl) ?_
  refine xAll_c (xs_getR C dX3_readSteps_15 (rfl : vwCl[3]? = some (RX3, TX3, 7)) win3 rfl (by decide) (by decide) rfl wm131) ?_
  refine xAll_c (xs_iconst C dX3_readSteps_18 (by decide)) ?_
  refine xAll_c (xs_iload_n C dX3_readSteps_19 rfl) ?_
  refine xAll_c (xs_callU C (m_X5_set l g) dX3_readSteps_20 (rfl : vwCl[5]? = some (RX5, TX5, 1)) (by decide) rfl ⟨(by decide), (by decide), by decide +kernel⟩ wm291 wm292 wm293 wm3 wm294 ⟨Nat.le_of_ble_eq_true rfl, Nat.le_of_ble_eq_true rfl⟩) ?_
  refine xAll_c (xs_iconst C dX3_readSteps_23 (by decide)) ?_
  refine xAll_c (xs_istore_n C dX3_readSteps_24 rfl) ?_
  refine xAll_c (xs_iload_n C dX3_readSteps_25 rfl) ?_
  refine xAll_c (xs_aload_n C dX3_readSteps_26 rfl) ?_
  refine xAll_c (xs_getI C dX3_readSteps_27 (rfl : vwCl[3]? = some (RX3, TX3, 7)) win3 rfl (by decide) (by decide) rfl wm135) ?_
  refine xAll_c (xs_icmp_ge C dX3_readSteps_30 (by decide)) ?_
  refine xAll_c (xs_iload_n C dX3_readSteps_33 rfl) ?_
  refine xAll_c (xs_aload_n C dX3_readSteps_34 rfl) ?_
  refine xAll_c (xs_iload_n C dX3_readSteps_35 rfl) ?_
  refine xAll_c (xs_iload_n C dX3_readSteps_36 rfl) ?_
  refine xAll_c (xs_callV C (m_X3_readStep l g) dX3_readSteps_37 (rfl : vwCl[3]? = some (RX3, TX3, 7)) (by decide) rfl ⟨(by decide), (by decide), by decide +kernel⟩ wm310 wm312 wp7 wm5 wm313 ⟨Nat.le_of_ble_eq_true rfl, Nat.le_of_ble_eq_true rfl⟩) ?_
  refine xAll_c (xs_iadd C dX3_readSteps_40) ?_
  refine xAll_c (xs_istore_n C dX3_readSteps_41 rfl) ?_
  refine xAll_c (xs_aload_n C dX3_readSteps_42 rfl) ?_
  refine xAll_c (xs_getR C dX3_readSteps_43 (rfl : vwCl[3]? = some (RX3, TX3, 7)) win3 rfl (by decide) (by decide) rfl wm131) ?_
  refine xAll_c (xs_iload_n C dX3_readSteps_46 rfl) ?_
  refine xAll_c (xs_iload_n C dX3_readSteps_47 rfl) ?_
  refine xAll_c (xs_callU C (m_X5_set l g) dX3_readSteps_48 (rfl : vwCl[5]? = some (RX5, TX5, 1)) (by decide) rfl ⟨(by decide), (by decide), by decide +kernel⟩ wm291 wm292 wm293 wm3 wm294 ⟨Nat.le_of_ble_eq_true rfl, Nat.le_of_ble_eq_true rfl⟩) ?_
  refine xAll_c (xs_iinc C dX3_readSteps_51 rfl) ?_
  refine xAll_c (xs_goto C dX3_readSteps_54 (by decide)) ?_
  refine xAll_c (xs_vret C dX3_readSteps_57 rfl) ?_
  exact trivial
noncomputable def k_X3_readPlain : xCode := [(0, oConst (nI 0) 1), (1, oIstore 1 2 2), (2, oIload 1 3), (3, oAload 0 4), (4, oGetI 3 4 7), (7, oIf2 (fun x y => decide (y ≤ x)) 28 10), (10, oAload 0 11), (11, oGetR 3 1 14), (14, oIload 1 15), (15, oAload 0 16), (16, oCallV 3 0 f_X3_readValue 19), (19, oCallU 5 2 f_X5_set 22), (22, oIinc 1 (nI 1) 2 25), (25, oGoto 2), (28, oVret)]
noncomputable def f_X3_readPlain : xRun := xrun k_X3_readPlain 2
set_option maxHeartbeats 4000000 in
set_option maxRecDepth 100000 in
theorem m_X3_readPlain (l : Launch) (g : xG) : xMet l g yX3_readPlain cX3_readPlain 2 none 4 90 f_X3_readPlain := by
  refine xmet_of (own := RX3) (by decide +kernel) rfl (fun p e s m args below meth c r0 C => ?_)
  refine xAll_c (xs_iconst C dX3_readPlain_0 (by decide)) ?_
  refine xAll_c (xs_istore_n C dX3_readPlain_1 rfl) ?_
  refine xAll_c (xs_iload_n C dX3_readPlain_2 rfl) ?_
  refine xAll_c (xs_aload_n C dX3_readPlain_3 rfl) ?_
  refine xAll_c (xs_getI C dX3_readPlain_4 (rfl : vwCl[3]? = some (RX3, TX3, 7)) win3 rfl (by decide) (by decide) rfl wm135) ?_
  refine xAll_c (xs_icmp_ge C dX3_readPlain_7 (by decide)) ?_
  refine xAll_c (xs_aload_n C dX3_readPlain_10 rfl) ?_
  refine xAll_c (xs_getR C dX3_readPlain_11 (rfl : vwCl[3]? = some (RX3, TX3, 7)) win3 rfl (by decide) (by decide) rfl wm131) ?_
  refine xAll_c (xs_iload_n C dX3_readPlain_14 rfl) ?_
  refine xAll_c (xs_aload_n C dX3_readPlain_15 rfl) ?_
  refine xAll_c (xs_callV C (m_X3_readValue l g) dX3_readPlain_16 (rfl : vwCl[3]? = some (RX3, TX3, 7)) (by decide) rfl ⟨(by decide), (by decide), by decide +kernel⟩ wm287 wm289 wp3 wm5 wm290 ⟨Nat.le_of_ble_eq_true rfl, Nat.le_of_ble_eq_true rfl⟩) ?_
  refine xAll_c (xs_callU C (m_X5_set l g) dX3_readPlain_19 (rfl : vwCl[5]? = some (RX5, TX5, 1)) (by decide) rfl ⟨(by decide), (by decide), by decide +kernel⟩ wm291 wm292 wm293 wm3 wm294 ⟨Nat.le_of_ble_eq_true rfl, Nat.le_of_ble_eq_true rfl⟩) ?_
  refine xAll_c (xs_iinc C dX3_readPlain_22 rfl) ?_
  refine xAll_c (xs_goto C dX3_readPlain_25 (by decide)) ?_
  refine xAll_c (xs_vret C dX3_readPlain_28 rfl) ?_
  exact trivial
noncomputable def k_X3_readPage : xCode := [(0, oAload 0 1), (1, oConst (nI 0) 2), (2, oPutI 3 5 5), (5, oAload 0 6), (6, oConst (-9999) 9), (9, oPutI 3 6 12), (12, oAload 0 13), (13, oConst (nI 3) 14), (14, oConst (nI 0) 15), (15, oConst (nI 4) 16), (16, oCallV 3 3 f_X3_readNumber 19), (19, oIstore 1 2 20), (20, oAload 0 21), (21, oAload 0 22), (22, oConst (nI 4) 23), (23, oConst (nI 1) 24), (24, oConst (nI 12) 26), (26, oCallV 3 3 f_X3_readNumber 29), (29, oPutI 3 4 32), (32, oIload 1 33), (33, oTab 1 [64, 71, 78, 85] 92), (64, oAload 0 65), (65, oCallU 3 0 f_X3_readWords 68), (68, oGoto 96), (71, oAload 0 72), (72, oCallU 3 0 f_X3_readRuns 75), (75, oGoto 96), (78, oAload 0 79), (79, oCallU 3 0 f_X3_readSmall 82), (82, oGoto 96), (85, oAload 0 86), (86, oCallU 3 0 f_X3_readSteps 89), (89, oGoto 96), (92, oAload 0 93), (93, oCallU 3 0 f_X3_readPlain 96), (96, oAload 0 97), (97, oGetI 3 6 100), (100, oConst (-9999) 103), (103, oIf2 (fun x y => !(decide (x = y))) 125 106), (106, oAload 0 107), (107, oGetI 3 5 110), (110, oAload 0 111), (111, oGetI 3 3 114), (114, oIf2 (fun x y => decide (y ≤ x)) 125 117), (117, oAload 0 118), (118, oAload 0 119), (119, oGetI 3 5 122), (122, oPutI 3 6 125), (125, oAload 0 126), (126, oGetI 3 6 129), (129, oIret)]
noncomputable def f_X3_readPage : xRun := xrun k_X3_readPage 2
set_option maxHeartbeats 4000000 in
set_option maxRecDepth 100000 in
theorem m_X3_readPage (l : Launch) (g : xG) : xMet l g yX3_readPage cX3_readPage 2 (some .int) 5 117 f_X3_readPage := by
  refine xmet_of (own := RX3) (by decide +kernel) rfl (fun p e s m args below meth c r0 C => ?_)
  refine xAll_c (xs_aload_n C dX3_readPage_0 rfl) ?_
  refine xAll_c (xs_iconst C dX3_readPage_1 (by decide)) ?_
  refine xAll_c (xs_putI C dX3_readPage_2 (rfl : vwCl[3]? = some (RX3, TX3, 7)) win3 tyX3_ok nmX3 rfl (by decide) (by decide) rfl rfl (by decide) wm137) ?_
  refine xAll_c (xs_aload_n C dX3_readPage_5 rfl) ?_
  refine xAll_c (xs_sipush C dX3_readPage_6 (by decide)) ?_
  refine xAll_c (xs_putI C dX3_readPage_9 (rfl : vwCl[3]? = some (RX3, TX3, 7)) win3 tyX3_ok nmX3 rfl (by decide) (by decide) rfl rfl (by decide) wm138) ?_
  refine xAll_c (xs_aload_n C dX3_readPage_12 rfl) ?_
  refine xAll_c (xs_iconst C dX3_readPage_13 (by decide)) ?_
  refine xAll_c (xs_iconst C dX3_readPage_14 (by decide)) ?_
  refine xAll_c (xs_iconst C dX3_readPage_15 (by decide)) ?_
  refine xAll_c (xs_callV C (m_X3_readNumber l g) dX3_readPage_16 (rfl : vwCl[3]? = some (RX3, TX3, 7)) (by decide) rfl ⟨(by decide), (by decide), by decide +kernel⟩ wm271 wm273 wp0 wm5 wm274 ⟨Nat.le_of_ble_eq_true rfl, Nat.le_of_ble_eq_true rfl⟩) ?_
  refine xAll_c (xs_istore_n C dX3_readPage_19 rfl) ?_
  refine xAll_c (xs_aload_n C dX3_readPage_20 rfl) ?_
  refine xAll_c (xs_aload_n C dX3_readPage_21 rfl) ?_
  refine xAll_c (xs_iconst C dX3_readPage_22 (by decide)) ?_
  refine xAll_c (xs_iconst C dX3_readPage_23 (by decide)) ?_
  refine xAll_c (xs_bipush C dX3_readPage_24 (by decide)) ?_
  refine xAll_c (xs_callV C (m_X3_readNumber l g) dX3_readPage_26 (rfl : vwCl[3]? = some (RX3, TX3, 7)) (by decide) rfl ⟨(by decide), (by decide), by decide +kernel⟩ wm271 wm273 wp0 wm5 wm274 ⟨Nat.le_of_ble_eq_true rfl, Nat.le_of_ble_eq_true rfl⟩) ?_
  refine xAll_c (xs_putI C dX3_readPage_29 (rfl : vwCl[3]? = some (RX3, TX3, 7)) win3 tyX3_ok nmX3 rfl (by decide) (by decide) rfl rfl (by decide) wm135) ?_
  refine xAll_c (xs_iload_n C dX3_readPage_32 rfl) ?_
  refine xAll_c (xs_tab C dX3_readPage_33 (by decide) (by decide) (by decide)) ?_
  refine xAll_c (xs_aload_n C dX3_readPage_64 rfl) ?_
  refine xAll_c (xs_callU C (m_X3_readWords l g) dX3_readPage_65 (rfl : vwCl[3]? = some (RX3, TX3, 7)) (by decide) rfl ⟨(by decide), (by decide), by decide +kernel⟩ wm283 wm285 wp2 wm5 wm286 ⟨Nat.le_of_ble_eq_true rfl, Nat.le_of_ble_eq_true rfl⟩) ?_
  refine xAll_c (xs_goto C dX3_readPage_68 (by decide)) ?_
  refine xAll_c (xs_aload_n C dX3_readPage_71 rfl) ?_
  refine xAll_c (xs_callU C (m_X3_readRuns l g) dX3_readPage_72 (rfl : vwCl[3]? = some (RX3, TX3, 7)) (by decide) rfl ⟨(by decide), (by decide), by decide +kernel⟩ wm298 wm300 wp4 wm5 wm301 ⟨Nat.le_of_ble_eq_true rfl, Nat.le_of_ble_eq_true rfl⟩) ?_
  refine xAll_c (xs_goto C dX3_readPage_75 (by decide)) ?_
  refine xAll_c (xs_aload_n C dX3_readPage_78 rfl) ?_
  refine xAll_c (xs_callU C (m_X3_readSmall l g) dX3_readPage_79 (rfl : vwCl[3]? = some (RX3, TX3, 7)) (by decide) rfl ⟨(by decide), (by decide), by decide +kernel⟩ wm302 wm304 wp5 wm5 wm305 ⟨Nat.le_of_ble_eq_true rfl, Nat.le_of_ble_eq_true rfl⟩) ?_
  refine xAll_c (xs_goto C dX3_readPage_82 (by decide)) ?_
  refine xAll_c (xs_aload_n C dX3_readPage_85 rfl) ?_
  refine xAll_c (xs_callU C (m_X3_readSteps l g) dX3_readPage_86 (rfl : vwCl[3]? = some (RX3, TX3, 7)) (by decide) rfl ⟨(by decide), (by decide), by decide +kernel⟩ wm306 wm308 wp6 wm5 wm309 ⟨Nat.le_of_ble_eq_true rfl, Nat.le_of_ble_eq_true rfl⟩) ?_
  refine xAll_c (xs_goto C dX3_readPage_89 (by decide)) ?_
  refine xAll_c (xs_aload_n C dX3_readPage_92 rfl) ?_
  refine xAll_c (xs_callU C (m_X3_readPlain l g) dX3_readPage_93 (rfl : vwCl[3]? = some (RX3, TX3, 7)) (by decide) rfl ⟨(by decide), (by decide), by decide +kernel⟩ wm317 wm319 wp8 wm5 wm320 ⟨Nat.le_of_ble_eq_true rfl, Nat.le_of_ble_eq_true rfl⟩) ?_
  refine xAll_c (xs_aload_n C dX3_readPage_96 rfl) ?_
  refine xAll_c (xs_getI C dX3_readPage_97 (rfl : vwCl[3]? = some (RX3, TX3, 7)) win3 rfl (by decide) (by decide) rfl wm138) ?_
  refine xAll_c (xs_sipush C dX3_readPage_100 (by decide)) ?_
  refine xAll_c (xs_icmp_ne C dX3_readPage_103 (by decide)) ?_
  refine xAll_c (xs_aload_n C dX3_readPage_106 rfl) ?_
  refine xAll_c (xs_getI C dX3_readPage_107 (rfl : vwCl[3]? = some (RX3, TX3, 7)) win3 rfl (by decide) (by decide) rfl wm137) ?_
  refine xAll_c (xs_aload_n C dX3_readPage_110 rfl) ?_
  refine xAll_c (xs_getI C dX3_readPage_111 (rfl : vwCl[3]? = some (RX3, TX3, 7)) win3 rfl (by decide) (by decide) rfl wm134) ?_
  refine xAll_c (xs_icmp_ge C dX3_readPage_114 (by decide)) ?_
  refine xAll_c (xs_aload_n C dX3_readPage_117 rfl) ?_
  refine xAll_c (xs_aload_n C dX3_readPage_118 rfl) ?_
  refine xAll_c (xs_getI C dX3_readPage_119 (rfl : vwCl[3]? = some (RX3, TX3, 7)) win3 rfl (by decide) (by decide) rfl wm137) ?_
  refine xAll_c (xs_putI C dX3_readPage_122 (rfl : vwCl[3]? = some (RX3, TX3, 7)) win3 tyX3_ok nmX3 rfl (by decide) (by decide) rfl rfl (by decide) wm138) ?_
  refine xAll_c (xs_aload_n C dX3_readPage_125 rfl) ?_
  refine xAll_c (xs_getI C dX3_readPage_126 (rfl : vwCl[3]? = some (RX3, TX3, 7)) win3 rfl (by decide) (by decide) rfl wm138) ?_
  refine xAll_c (xs_iret C dX3_readPage_129 rfl) ?_
  exact trivial
noncomputable def k_X4_writeNumber : xCode := [(0, oIload 2 1), (1, oConst (nI 1) 2), (2, oBin (fun x y => x - y) 3), (3, oIstore 3 4 4), (4, oIload 3 5), (5, oIf1 (fun x => decide (x < 0)) 40 8), (8, oAload 0 9), (9, oGetR 4 0 12), (12, oAload 0 13), (13, oGetI 4 1 16), (16, oIload 1 17), (17, oIload 3 18), (18, oBin (fun x y => x >>> (y &&& 31)) 19), (19, oConst (nI 1) 20), (20, oBin (fun x y => x &&& y) 21), (21, oCallU 5 2 f_X5_set 24), (24, oAload 0 25), (25, oDup 26), (26, oGetI 4 1 29), (29, oConst (nI 1) 30), (30, oBin (fun x y => x + y) 31), (31, oPutI 4 1 34), (34, oIinc 3 (-1) 4 37), (37, oGoto 4), (40, oVret)]
noncomputable def f_X4_writeNumber : xRun := xrun k_X4_writeNumber 4
set_option maxHeartbeats 4000000 in
set_option maxRecDepth 100000 in
theorem m_X4_writeNumber (l : Launch) (g : xG) : xMet l g yX4_writeNumber cX4_writeNumber 4 none 1 22 f_X4_writeNumber := by
  refine xmet_of (own := RX4) (by decide +kernel) rfl (fun p e s m args below meth c r0 C => ?_)
  refine xAll_c (xs_iload_n C dX4_writeNumber_0 rfl) ?_
  refine xAll_c (xs_iconst C dX4_writeNumber_1 (by decide)) ?_
  refine xAll_c (xs_isub C dX4_writeNumber_2) ?_
  refine xAll_c (xs_istore_n C dX4_writeNumber_3 rfl) ?_
  refine xAll_c (xs_iload_n C dX4_writeNumber_4 rfl) ?_
  refine xAll_c (xs_if_lt C dX4_writeNumber_5 (by decide)) ?_
  refine xAll_c (xs_aload_n C dX4_writeNumber_8 rfl) ?_
  refine xAll_c (xs_getR C dX4_writeNumber_9 (rfl : vwCl[4]? = some (RX4, TX4, 2)) win4 rfl (by decide) (by decide) rfl wm162) ?_
  refine xAll_c (xs_aload_n C dX4_writeNumber_12 rfl) ?_
  refine xAll_c (xs_getI C dX4_writeNumber_13 (rfl : vwCl[4]? = some (RX4, TX4, 2)) win4 rfl (by decide) (by decide) rfl wm164) ?_
  refine xAll_c (xs_iload_n C dX4_writeNumber_16 rfl) ?_
  refine xAll_c (xs_iload_n C dX4_writeNumber_17 rfl) ?_
  refine xAll_c (xs_ishr C dX4_writeNumber_18) ?_
  refine xAll_c (xs_iconst C dX4_writeNumber_19 (by decide)) ?_
  refine xAll_c (xs_iand C dX4_writeNumber_20) ?_
  refine xAll_c (xs_callU C (m_X5_set l g) dX4_writeNumber_21 (rfl : vwCl[5]? = some (RX5, TX5, 1)) (by decide) rfl ⟨(by decide), (by decide), by decide +kernel⟩ wm648 wm292 wm293 wm3 wm294 ⟨Nat.le_of_ble_eq_true rfl, Nat.le_of_ble_eq_true rfl⟩) ?_
  refine xAll_c (xs_aload_n C dX4_writeNumber_24 rfl) ?_
  refine xAll_c (xs_dup C dX4_writeNumber_25) ?_
  refine xAll_c (xs_getI C dX4_writeNumber_26 (rfl : vwCl[4]? = some (RX4, TX4, 2)) win4 rfl (by decide) (by decide) rfl wm164) ?_
  refine xAll_c (xs_iconst C dX4_writeNumber_29 (by decide)) ?_
  refine xAll_c (xs_iadd C dX4_writeNumber_30) ?_
  refine xAll_c (xs_putI C dX4_writeNumber_31 (rfl : vwCl[4]? = some (RX4, TX4, 2)) win4 tyX4_ok nmX4 rfl (by decide) (by decide) rfl rfl (by decide) wm164) ?_
  refine xAll_c (xs_iinc C dX4_writeNumber_34 rfl) ?_
  refine xAll_c (xs_goto C dX4_writeNumber_37 (by decide)) ?_
  refine xAll_c (xs_vret C dX4_writeNumber_40 rfl) ?_
  exact trivial
noncomputable def k_X4_writeWords : xCode := [(0, oAload 0 1), (1, oAload 3 2), (2, oGetI 2 1 5), (5, oConst (nI 4) 6), (6, oCallU 4 2 f_X4_writeNumber 9), (9, oConst (nI 0) 10), (10, oIstore 4 6 12), (12, oIload 4 14), (14, oAload 3 15), (15, oGetI 2 1 18), (18, oIf2 (fun x y => decide (y ≤ x)) 39 21), (21, oAload 0 22), (22, oAload 3 23), (23, oIload 4 25), (25, oCallV 2 1 f_X2_wordAt 28), (28, oConst (nI 10) 30), (30, oCallU 4 2 f_X4_writeNumber 33), (33, oIinc 4 (nI 1) 6 36), (36, oGoto 12), (39, oConst (nI 0) 40), (40, oIstore 4 6 42), (42, oIload 4 44), (44, oAload 3 45), (45, oGetI 2 2 48), (48, oIf2 (fun x y => decide (y ≤ x)) 81 51), (51, oAload 3 52), (52, oAload 1 53), (53, oIload 2 54), (54, oIload 4 56), (56, oBin (fun x y => x + y) 57), (57, oCallV 0 1 f_X0_valueAt 60), (60, oCallV 2 1 f_X2_numberOfWord 63), (63, oIstore 5 6 65), (65, oAload 0 66), (66, oIload 5 68), (68, oAload 3 69), (69, oGetI 2 7 72), (72, oCallU 4 2 f_X4_writeNumber 75), (75, oIinc 4 (nI 1) 6 78), (78, oGoto 42), (81, oVret)]
noncomputable def f_X4_writeWords : xRun := xrun k_X4_writeWords 6
set_option maxHeartbeats 4000000 in
set_option maxRecDepth 100000 in
theorem m_X4_writeWords (l : Launch) (g : xG) : xMet l g yX4_writeWords cX4_writeWords 6 none 2 45 f_X4_writeWords := by
  refine xmet_of (own := RX4) (by decide +kernel) rfl (fun p e s m args below meth c r0 C => ?_)
  refine xAll_c (xs_aload_n C dX4_writeWords_0 rfl) ?_
  refine xAll_c (xs_aload_n C dX4_writeWords_1 rfl) ?_
  refine xAll_c (xs_getIN (host := "CodedColumn") C dX4_writeWords_2 (rfl : vwCl[2]? = some (RX2, TX2, 10)) win2 rfl (by decide) (by decide) rfl (by decide +kernel)) ?_
  refine xAll_c (xs_iconst C dX4_writeWords_5 (by decide)) ?_
  refine xAll_c (xs_callU C (m_X4_writeNumber l g) dX4_writeWords_6 (rfl : vwCl[4]? = some (RX4, TX4, 2)) (by decide) rfl ⟨(by decide), (by decide), by decide +kernel⟩ wm644 wm646 wp15 wm6 wm647 ⟨Nat.le_of_ble_eq_true rfl, Nat.le_of_ble_eq_true rfl⟩) ?_
  refine xAll_c (xs_iconst C dX4_writeWords_9 (by decide)) ?_
  refine xAll_c (xs_istore C dX4_writeWords_10) ?_
  refine xAll_c (xs_iload C dX4_writeWords_12) ?_
  refine xAll_c (xs_aload_n C dX4_writeWords_14 rfl) ?_
  refine xAll_c (xs_getIN (host := "CodedColumn") C dX4_writeWords_15 (rfl : vwCl[2]? = some (RX2, TX2, 10)) win2 rfl (by decide) (by decide) rfl (by decide +kernel)) ?_
  refine xAll_c (xs_icmp_ge C dX4_writeWords_18 (by decide)) ?_
  refine xAll_c (xs_aload_n C dX4_writeWords_21 rfl) ?_
  refine xAll_c (xs_aload_n C dX4_writeWords_22 rfl) ?_
  refine xAll_c (xs_iload C dX4_writeWords_23) ?_
  refine xAll_c (xs_callV C (m_X2_wordAt l g) dX4_writeWords_25 (rfl : vwCl[2]? = some (RX2, TX2, 10)) (by decide) rfl ⟨(by decide), (by decide), by decide +kernel⟩ wm653 wm654 wm655 wm4 wm656 ⟨Nat.le_of_ble_eq_true rfl, Nat.le_of_ble_eq_true rfl⟩) ?_
  refine xAll_c (xs_bipush C dX4_writeWords_28 (by decide)) ?_
  refine xAll_c (xs_callU C (m_X4_writeNumber l g) dX4_writeWords_30 (rfl : vwCl[4]? = some (RX4, TX4, 2)) (by decide) rfl ⟨(by decide), (by decide), by decide +kernel⟩ wm644 wm646 wp15 wm6 wm647 ⟨Nat.le_of_ble_eq_true rfl, Nat.le_of_ble_eq_true rfl⟩) ?_
  refine xAll_c (xs_iinc C dX4_writeWords_33 rfl) ?_
  refine xAll_c (xs_goto C dX4_writeWords_36 (by decide)) ?_
  refine xAll_c (xs_iconst C dX4_writeWords_39 (by decide)) ?_
  refine xAll_c (xs_istore C dX4_writeWords_40) ?_
  refine xAll_c (xs_iload C dX4_writeWords_42) ?_
  refine xAll_c (xs_aload_n C dX4_writeWords_44 rfl) ?_
  refine xAll_c (xs_getIN (host := "CodedColumn") C dX4_writeWords_45 (rfl : vwCl[2]? = some (RX2, TX2, 10)) win2 rfl (by decide) (by decide) rfl (by decide +kernel)) ?_
  refine xAll_c (xs_icmp_ge C dX4_writeWords_48 (by decide)) ?_
  refine xAll_c (xs_aload_n C dX4_writeWords_51 rfl) ?_
  refine xAll_c (xs_aload_n C dX4_writeWords_52 rfl) ?_
  refine xAll_c (xs_iload_n C dX4_writeWords_53 rfl) ?_
  refine xAll_c (xs_iload C dX4_writeWords_54) ?_
  refine xAll_c (xs_iadd C dX4_writeWords_56) ?_
  refine xAll_c (xs_callV C (m_X0_valueAt l g) dX4_writeWords_57 (rfl : vwCl[0]? = some (RX0, TX0, 7)) (by decide) rfl ⟨(by decide), (by decide), by decide +kernel⟩ wm657 wm439 wm440 wm2 wm441 ⟨Nat.le_of_ble_eq_true rfl, Nat.le_of_ble_eq_true rfl⟩) ?_
  refine xAll_c (xs_callV C (m_X2_numberOfWord l g) dX4_writeWords_60 (rfl : vwCl[2]? = some (RX2, TX2, 10)) (by decide) rfl ⟨(by decide), (by decide), by decide +kernel⟩ wm658 wm388 wm389 wm4 wm390 ⟨Nat.le_of_ble_eq_true rfl, Nat.le_of_ble_eq_true rfl⟩) ?_
  refine xAll_c (xs_istore C dX4_writeWords_63) ?_
  refine xAll_c (xs_aload_n C dX4_writeWords_65 rfl) ?_
  refine xAll_c (xs_iload C dX4_writeWords_66) ?_
  refine xAll_c (xs_aload_n C dX4_writeWords_68 rfl) ?_
  refine xAll_c (xs_getIN (host := "CodedColumn") C dX4_writeWords_69 (rfl : vwCl[2]? = some (RX2, TX2, 10)) win2 rfl (by decide) (by decide) rfl (by decide +kernel)) ?_
  refine xAll_c (xs_callU C (m_X4_writeNumber l g) dX4_writeWords_72 (rfl : vwCl[4]? = some (RX4, TX4, 2)) (by decide) rfl ⟨(by decide), (by decide), by decide +kernel⟩ wm644 wm646 wp15 wm6 wm647 ⟨Nat.le_of_ble_eq_true rfl, Nat.le_of_ble_eq_true rfl⟩) ?_
  refine xAll_c (xs_iinc C dX4_writeWords_75 rfl) ?_
  refine xAll_c (xs_goto C dX4_writeWords_78 (by decide)) ?_
  refine xAll_c (xs_vret C dX4_writeWords_81 rfl) ?_
  exact trivial
