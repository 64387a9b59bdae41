noncomputable def k_X5_get : xCode := [(0, oIload 1 1), (1, oIf1 (fun x => decide (x < 0)) 22 4), (4, oIload 1 5), (5, oAload 0 6), (6, oGetR 5 0 9), (9, oAlen 10 10), (10, oIf2 (fun x y => decide (y ≤ x)) 22 13), (13, oAload 0 14), (14, oGetR 5 0 17), (17, oIload 1 18), (18, oIald 19), (19, oGoto 23), (22, oConst (nI 0) 23), (23, oIret)]
noncomputable def f_X5_get : xRun := xrun k_X5_get 2
set_option maxHeartbeats 4000000 in
set_option maxRecDepth 100000 in
theorem m_X5_get (l : Launch) (g : xG) : xMet l g yX5_get cX5_get 2 (some .int) 0 0 f_X5_get := by
  refine xmet_of (own := RX5) (by decide +kernel) rfl (fun p e s m args below meth c r0 C => ?_)
  refine xAll_c (xs_iload_n C dX5_get_0 rfl) ?_
  refine xAll_c (xs_if_lt C dX5_get_1 (by decide)) ?_
  refine xAll_c (xs_iload_n C dX5_get_4 rfl) ?_
  refine xAll_c (xs_aload_n C dX5_get_5 rfl) ?_
  refine xAll_c (xs_getR C dX5_get_6 (rfl : vwCl[5]? = some (RX5, TX5, 1)) win5 rfl (by decide) (by decide) rfl wm39) ?_
  refine xAll_c (xs_alen C dX5_get_9 (Or.inl rfl)) ?_
  refine xAll_c (xs_icmp_ge C dX5_get_10 (by decide)) ?_
  refine xAll_c (xs_aload_n C dX5_get_13 rfl) ?_
  refine xAll_c (xs_getR C dX5_get_14 (rfl : vwCl[5]? = some (RX5, TX5, 1)) win5 rfl (by decide) (by decide) rfl wm39) ?_
  refine xAll_c (xs_iload_n C dX5_get_17 rfl) ?_
  refine xAll_c (xs_iald C dX5_get_18) ?_
  refine xAll_c (xs_goto C dX5_get_19 (by decide)) ?_
  refine xAll_c (xs_iconst C dX5_get_22 (by decide)) ?_
  refine xAll_c (xs_iret C dX5_get_23 rfl) ?_
  exact trivial
noncomputable def k_X5_copyFrom : xCode := [(0, oConst (nI 0) 1), (1, oIstore 2 3 2), (2, oIload 2 3), (3, oAload 0 4), (4, oGetR 5 0 7), (7, oAlen 10 8), (8, oIf2 (fun x y => decide (y ≤ x)) 28 11), (11, oAload 0 12), (12, oGetR 5 0 15), (15, oIload 2 16), (16, oAload 1 17), (17, oIload 2 18), (18, oCallV 5 1 f_X5_get 21), (21, oIast 22), (22, oIinc 2 (nI 1) 3 25), (25, oGoto 2), (28, oVret)]
noncomputable def f_X5_copyFrom : xRun := xrun k_X5_copyFrom 3
set_option maxHeartbeats 4000000 in
set_option maxRecDepth 100000 in
theorem m_X5_copyFrom (l : Launch) (g : xG) : xMet l g yX5_copyFrom cX5_copyFrom 3 none 1 21 f_X5_copyFrom := by
  refine xmet_of (own := RX5) (by decide +kernel) rfl (fun p e s m args below meth c r0 C => ?_)
  refine xAll_c (xs_iconst C dX5_copyFrom_0 (by decide)) ?_
  refine xAll_c (xs_istore_n C dX5_copyFrom_1 rfl) ?_
  refine xAll_c (xs_iload_n C dX5_copyFrom_2 rfl) ?_
  refine xAll_c (xs_aload_n C dX5_copyFrom_3 rfl) ?_
  refine xAll_c (xs_getR C dX5_copyFrom_4 (rfl : vwCl[5]? = some (RX5, TX5, 1)) win5 rfl (by decide) (by decide) rfl wm39) ?_
  refine xAll_c (xs_alen C dX5_copyFrom_7 (Or.inl rfl)) ?_
  refine xAll_c (xs_icmp_ge C dX5_copyFrom_8 (by decide)) ?_
  refine xAll_c (xs_aload_n C dX5_copyFrom_11 rfl) ?_
  refine xAll_c (xs_getR C dX5_copyFrom_12 (rfl : vwCl[5]? = some (RX5, TX5, 1)) win5 rfl (by decide) (by decide) rfl wm39) ?_
  refine xAll_c (xs_iload_n C dX5_copyFrom_15 rfl) ?_
  refine xAll_c (xs_aload_n C dX5_copyFrom_16 rfl) ?_
  refine xAll_c (xs_iload_n C dX5_copyFrom_17 rfl) ?_
  refine xAll_c (xs_callV C (m_X5_get l g) dX5_copyFrom_18 (rfl : vwCl[5]? = some (RX5, TX5, 1)) (by decide) rfl ⟨(by decide), (by decide), by decide +kernel⟩ wm345 wm280 wm281 wm3 wm282 ⟨Nat.le_of_ble_eq_true rfl, Nat.le_of_ble_eq_true rfl⟩) ?_
  refine xAll_c (xs_iast C dX5_copyFrom_21) ?_
  refine xAll_c (xs_iinc C dX5_copyFrom_22 rfl) ?_
  refine xAll_c (xs_goto C dX5_copyFrom_25 (by decide)) ?_
  refine xAll_c (xs_vret C dX5_copyFrom_28 rfl) ?_
  exact trivial
noncomputable def k_X0_copyFrom : xCode := [(0, oAload 0 1), (1, oGetR 0 0 4), (4, oAload 1 5), (5, oGetR 0 0 8), (8, oCallU 5 1 f_X5_copyFrom 11), (11, oAload 0 12), (12, oGetR 0 1 15), (15, oAload 1 16), (16, oGetR 0 1 19), (19, oCallU 5 1 f_X5_copyFrom 22), (22, oAload 0 23), (23, oGetR 0 2 26), (26, oAload 1 27), (27, oGetR 0 2 30), (30, oCallU 5 1 f_X5_copyFrom 33), (33, oAload 0 34), (34, oAload 1 35), (35, oGetI 0 4 38), (38, oPutI 0 4 41), (41, oAload 0 42), (42, oAload 1 43), (43, oGetI 0 5 46), (46, oPutI 0 5 49), (49, oAload 0 50), (50, oAload 1 51), (51, oGetI 0 6 54), (54, oPutI 0 6 57), (57, oVret)]
noncomputable def f_X0_copyFrom : xRun := xrun k_X0_copyFrom 2
set_option maxHeartbeats 4000000 in
set_option maxRecDepth 100000 in
theorem m_X0_copyFrom (l : Launch) (g : xG) : xMet l g yX0_copyFrom cX0_copyFrom 2 none 2 43 f_X0_copyFrom := by
  refine xmet_of (own := RX0) (by decide +kernel) rfl (fun p e s m args below meth c r0 C => ?_)
  refine xAll_c (xs_aload_n C dX0_copyFrom_0 rfl) ?_
  refine xAll_c (xs_getR C dX0_copyFrom_1 (rfl : vwCl[0]? = some (RX0, TX0, 7)) win0 rfl (by decide) (by decide) rfl wm97) ?_
  refine xAll_c (xs_aload_n C dX0_copyFrom_4 rfl) ?_
  refine xAll_c (xs_getR C dX0_copyFrom_5 (rfl : vwCl[0]? = some (RX0, TX0, 7)) win0 rfl (by decide) (by decide) rfl wm97) ?_
  refine xAll_c (xs_callU C (m_X5_copyFrom l g) dX0_copyFrom_8 (rfl : vwCl[5]? = some (RX5, TX5, 1)) (by decide) rfl ⟨(by decide), (by decide), by decide +kernel⟩ wm341 wm342 wm343 wm3 wm344 ⟨Nat.le_of_ble_eq_true rfl, Nat.le_of_ble_eq_true rfl⟩) ?_
  refine xAll_c (xs_aload_n C dX0_copyFrom_11 rfl) ?_
  refine xAll_c (xs_getR C dX0_copyFrom_12 (rfl : vwCl[0]? = some (RX0, TX0, 7)) win0 rfl (by decide) (by decide) rfl wm98) ?_
  refine xAll_c (xs_aload_n C dX0_copyFrom_15 rfl) ?_
  refine xAll_c (xs_getR C dX0_copyFrom_16 (rfl : vwCl[0]? = some (RX0, TX0, 7)) win0 rfl (by decide) (by decide) rfl wm98) ?_
  refine xAll_c (xs_callU C (m_X5_copyFrom l g) dX0_copyFrom_19 (rfl : vwCl[5]? = some (RX5, TX5, 1)) (by decide) rfl ⟨(by decide), (by decide), by decide +kernel⟩ wm341 wm342 wm343 wm3 wm344 ⟨Nat.le_of_ble_eq_true rfl, Nat.le_of_ble_eq_true rfl⟩) ?_
  refine xAll_c (xs_aload_n C dX0_copyFrom_22 rfl) ?_
  refine xAll_c (xs_getR C dX0_copyFrom_23 (rfl : vwCl[0]? = some (RX0, TX0, 7)) win0 rfl (by decide) (by decide) rfl wm99) ?_
  refine xAll_c (xs_aload_n C dX0_copyFrom_26 rfl) ?_
  refine xAll_c (xs_getR C dX0_copyFrom_27 (rfl : vwCl[0]? = some (RX0, TX0, 7)) win0 rfl (by decide) (by decide) rfl wm99) ?_
  refine xAll_c (xs_callU C (m_X5_copyFrom l g) dX0_copyFrom_30 (rfl : vwCl[5]? = some (RX5, TX5, 1)) (by decide) rfl ⟨(by decide), (by decide), by decide +kernel⟩ wm341 wm342 wm343 wm3 wm344 ⟨Nat.le_of_ble_eq_true rfl, Nat.le_of_ble_eq_true rfl⟩) ?_
  refine xAll_c (xs_aload_n C dX0_copyFrom_33 rfl) ?_
  refine xAll_c (xs_aload_n C dX0_copyFrom_34 rfl) ?_
  refine xAll_c (xs_getI C dX0_copyFrom_35 (rfl : vwCl[0]? = some (RX0, TX0, 7)) win0 rfl (by decide) (by decide) rfl wm101) ?_
  refine xAll_c (xs_putI C dX0_copyFrom_38 (rfl : vwCl[0]? = some (RX0, TX0, 7)) win0 tyX0_ok nmX0 rfl (by decide) (by decide) rfl rfl (by decide) wm101) ?_
  refine xAll_c (xs_aload_n C dX0_copyFrom_41 rfl) ?_
  refine xAll_c (xs_aload_n C dX0_copyFrom_42 rfl) ?_
  refine xAll_c (xs_getI C dX0_copyFrom_43 (rfl : vwCl[0]? = some (RX0, TX0, 7)) win0 rfl (by decide) (by decide) rfl wm103) ?_
  refine xAll_c (xs_putI C dX0_copyFrom_46 (rfl : vwCl[0]? = some (RX0, TX0, 7)) win0 tyX0_ok nmX0 rfl (by decide) (by decide) rfl rfl (by decide) wm103) ?_
  refine xAll_c (xs_aload_n C dX0_copyFrom_49 rfl) ?_
  refine xAll_c (xs_aload_n C dX0_copyFrom_50 rfl) ?_
  refine xAll_c (xs_getI C dX0_copyFrom_51 (rfl : vwCl[0]? = some (RX0, TX0, 7)) win0 rfl (by decide) (by decide) rfl wm105) ?_
  refine xAll_c (xs_putI C dX0_copyFrom_54 (rfl : vwCl[0]? = some (RX0, TX0, 7)) win0 tyX0_ok nmX0 rfl (by decide) (by decide) rfl rfl (by decide) wm105) ?_
  refine xAll_c (xs_vret C dX0_copyFrom_57 rfl) ?_
  exact trivial
noncomputable def k_X0_hasValue : xCode := [(0, oIload 1 1), (1, oIf1 (fun x => decide (x < 0)) 16 4), (4, oIload 1 5), (5, oAload 0 6), (6, oGetI 0 4 9), (9, oIf2 (fun x y => decide (y ≤ x)) 16 12), (12, oConst (nI 1) 13), (13, oGoto 17), (16, oConst (nI 0) 17), (17, oZret)]
noncomputable def f_X0_hasValue : xRun := xrun k_X0_hasValue 2
set_option maxHeartbeats 4000000 in
set_option maxRecDepth 100000 in
theorem m_X0_hasValue (l : Launch) (g : xG) : xMet l g yX0_hasValue cX0_hasValue 2 (some .boolean) 0 0 f_X0_hasValue := by
  refine xmet_of (own := RX0) (by decide +kernel) rfl (fun p e s m args below meth c r0 C => ?_)
  refine xAll_c (xs_iload_n C dX0_hasValue_0 rfl) ?_
  refine xAll_c (xs_if_lt C dX0_hasValue_1 (by decide)) ?_
  refine xAll_c (xs_iload_n C dX0_hasValue_4 rfl) ?_
  refine xAll_c (xs_aload_n C dX0_hasValue_5 rfl) ?_
  refine xAll_c (xs_getI C dX0_hasValue_6 (rfl : vwCl[0]? = some (RX0, TX0, 7)) win0 rfl (by decide) (by decide) rfl wm101) ?_
  refine xAll_c (xs_icmp_ge C dX0_hasValue_9 (by decide)) ?_
  refine xAll_c (xs_iconst C dX0_hasValue_12 (by decide)) ?_
  refine xAll_c (xs_goto C dX0_hasValue_13 (by decide)) ?_
  refine xAll_c (xs_iconst C dX0_hasValue_16 (by decide)) ?_
  refine xAll_c (xs_zret C dX0_hasValue_17 rfl) ?_
  exact trivial
noncomputable def k_X0_hasPage : xCode := [(0, oIload 1 1), (1, oIf1 (fun x => decide (x < 0)) 16 4), (4, oIload 1 5), (5, oAload 0 6), (6, oGetI 0 5 9), (9, oIf2 (fun x y => decide (y ≤ x)) 16 12), (12, oConst (nI 1) 13), (13, oGoto 17), (16, oConst (nI 0) 17), (17, oZret)]
noncomputable def f_X0_hasPage : xRun := xrun k_X0_hasPage 2
set_option maxHeartbeats 4000000 in
set_option maxRecDepth 100000 in
theorem m_X0_hasPage (l : Launch) (g : xG) : xMet l g yX0_hasPage cX0_hasPage 2 (some .boolean) 0 0 f_X0_hasPage := by
  refine xmet_of (own := RX0) (by decide +kernel) rfl (fun p e s m args below meth c r0 C => ?_)
  refine xAll_c (xs_iload_n C dX0_hasPage_0 rfl) ?_
  refine xAll_c (xs_if_lt C dX0_hasPage_1 (by decide)) ?_
  refine xAll_c (xs_iload_n C dX0_hasPage_4 rfl) ?_
  refine xAll_c (xs_aload_n C dX0_hasPage_5 rfl) ?_
  refine xAll_c (xs_getI C dX0_hasPage_6 (rfl : vwCl[0]? = some (RX0, TX0, 7)) win0 rfl (by decide) (by decide) rfl wm103) ?_
  refine xAll_c (xs_icmp_ge C dX0_hasPage_9 (by decide)) ?_
  refine xAll_c (xs_iconst C dX0_hasPage_12 (by decide)) ?_
  refine xAll_c (xs_goto C dX0_hasPage_13 (by decide)) ?_
  refine xAll_c (xs_iconst C dX0_hasPage_16 (by decide)) ?_
  refine xAll_c (xs_zret C dX0_hasPage_17 rfl) ?_
  exact trivial
noncomputable def k_X0_hasNext : xCode := [(0, oIload 1 1), (1, oIf1 (fun x => decide (x < 0)) 18 4), (4, oIload 1 5), (5, oAload 0 6), (6, oGetI 0 5 9), (9, oConst (nI 1) 10), (10, oBin (fun x y => x - y) 11), (11, oIf2 (fun x y => decide (y ≤ x)) 18 14), (14, oConst (nI 1) 15), (15, oGoto 19), (18, oConst (nI 0) 19), (19, oZret)]
noncomputable def f_X0_hasNext : xRun := xrun k_X0_hasNext 2
set_option maxHeartbeats 4000000 in
set_option maxRecDepth 100000 in
theorem m_X0_hasNext (l : Launch) (g : xG) : xMet l g yX0_hasNext cX0_hasNext 2 (some .boolean) 0 0 f_X0_hasNext := by
  refine xmet_of (own := RX0) (by decide +kernel) rfl (fun p e s m args below meth c r0 C => ?_)
  refine xAll_c (xs_iload_n C dX0_hasNext_0 rfl) ?_
  refine xAll_c (xs_if_lt C dX0_hasNext_1 (by decide)) ?_
  refine xAll_c (xs_iload_n C dX0_hasNext_4 rfl) ?_
  refine xAll_c (xs_aload_n C dX0_hasNext_5 rfl) ?_
  refine xAll_c (xs_getI C dX0_hasNext_6 (rfl : vwCl[0]? = some (RX0, TX0, 7)) win0 rfl (by decide) (by decide) rfl wm103) ?_
  refine xAll_c (xs_iconst C dX0_hasNext_9 (by decide)) ?_
  refine xAll_c (xs_isub C dX0_hasNext_10) ?_
  refine xAll_c (xs_icmp_ge C dX0_hasNext_11 (by decide)) ?_
  refine xAll_c (xs_iconst C dX0_hasNext_14 (by decide)) ?_
  refine xAll_c (xs_goto C dX0_hasNext_15 (by decide)) ?_
  refine xAll_c (xs_iconst C dX0_hasNext_18 (by decide)) ?_
  refine xAll_c (xs_zret C dX0_hasNext_19 rfl) ?_
  exact trivial
noncomputable def k_X0_lengthOf : xCode := [(0, oAload 0 1), (1, oGetR 0 1 4), (4, oIload 1 5), (5, oCallV 5 1 f_X5_get 8), (8, oIret)]
noncomputable def f_X0_lengthOf : xRun := xrun k_X0_lengthOf 2
set_option maxHeartbeats 4000000 in
set_option maxRecDepth 100000 in
theorem m_X0_lengthOf (l : Launch) (g : xG) : xMet l g yX0_lengthOf cX0_lengthOf 2 (some .int) 1 21 f_X0_lengthOf := by
  refine xmet_of (own := RX0) (by decide +kernel) rfl (fun p e s m args below meth c r0 C => ?_)
  refine xAll_c (xs_aload_n C dX0_lengthOf_0 rfl) ?_
  refine xAll_c (xs_getR C dX0_lengthOf_1 (rfl : vwCl[0]? = some (RX0, TX0, 7)) win0 rfl (by decide) (by decide) rfl wm98) ?_
  refine xAll_c (xs_iload_n C dX0_lengthOf_4 rfl) ?_
  refine xAll_c (xs_callV C (m_X5_get l g) dX0_lengthOf_5 (rfl : vwCl[5]? = some (RX5, TX5, 1)) (by decide) rfl ⟨(by decide), (by decide), by decide +kernel⟩ wm370 wm280 wm281 wm3 wm282 ⟨Nat.le_of_ble_eq_true rfl, Nat.le_of_ble_eq_true rfl⟩) ?_
  refine xAll_c (xs_iret C dX0_lengthOf_8 rfl) ?_
  exact trivial
noncomputable def k_X0_hasCut : xCode := [(0, oIload 2 1), (1, oConst (nI 1) 2), (2, oIf2 (fun x y => decide (x < y)) 18 5), (5, oIload 2 6), (6, oAload 0 7), (7, oIload 1 8), (8, oCallV 0 1 f_X0_lengthOf 11), (11, oIf2 (fun x y => decide (y ≤ x)) 18 14), (14, oConst (nI 1) 15), (15, oGoto 19), (18, oConst (nI 0) 19), (19, oZret)]
noncomputable def f_X0_hasCut : xRun := xrun k_X0_hasCut 3
set_option maxHeartbeats 4000000 in
set_option maxRecDepth 100000 in
theorem m_X0_hasCut (l : Launch) (g : xG) : xMet l g yX0_hasCut cX0_hasCut 3 (some .boolean) 2 42 f_X0_hasCut := by
  refine xmet_of (own := RX0) (by decide +kernel) rfl (fun p e s m args below meth c r0 C => ?_)
  refine xAll_c (xs_iload_n C dX0_hasCut_0 rfl) ?_
  refine xAll_c (xs_iconst C dX0_hasCut_1 (by decide)) ?_
  refine xAll_c (xs_icmp_lt C dX0_hasCut_2 (by decide)) ?_
  refine xAll_c (xs_iload_n C dX0_hasCut_5 rfl) ?_
  refine xAll_c (xs_aload_n C dX0_hasCut_6 rfl) ?_
  refine xAll_c (xs_iload_n C dX0_hasCut_7 rfl) ?_
  refine xAll_c (xs_callV C (m_X0_lengthOf l g) dX0_hasCut_8 (rfl : vwCl[0]? = some (RX0, TX0, 7)) (by decide) rfl ⟨(by decide), (by decide), by decide +kernel⟩ wm366 wm367 wm368 wm2 wm369 ⟨Nat.le_of_ble_eq_true rfl, Nat.le_of_ble_eq_true rfl⟩) ?_
  refine xAll_c (xs_icmp_ge C dX0_hasCut_11 (by decide)) ?_
  refine xAll_c (xs_iconst C dX0_hasCut_14 (by decide)) ?_
  refine xAll_c (xs_goto C dX0_hasCut_15 (by decide)) ?_
  refine xAll_c (xs_iconst C dX0_hasCut_18 (by decide)) ?_
  refine xAll_c (xs_zret C dX0_hasCut_19 rfl) ?_
  exact trivial
noncomputable def k_X0_isFull : xCode := [(0, oAload 0 1), (1, oGetI 0 5 4), (4, oConst (nI 10) 6), (6, oIf2 (fun x y => decide (x < y)) 13 9), (9, oConst (nI 1) 10), (10, oGoto 14), (13, oConst (nI 0) 14), (14, oZret)]
noncomputable def f_X0_isFull : xRun := xrun k_X0_isFull 1
set_option maxHeartbeats 4000000 in
set_option maxRecDepth 100000 in
theorem m_X0_isFull (l : Launch) (g : xG) : xMet l g yX0_isFull cX0_isFull 1 (some .boolean) 0 0 f_X0_isFull := by
  refine xmet_of (own := RX0) (by decide +kernel) rfl (fun p e s m args below meth c r0 C => ?_)
  refine xAll_c (xs_aload_n C dX0_isFull_0 rfl) ?_
  refine xAll_c (xs_getI C dX0_isFull_1 (rfl : vwCl[0]? = some (RX0, TX0, 7)) win0 rfl (by decide) (by decide) rfl wm103) ?_
  refine xAll_c (xs_bipush C dX0_isFull_4 (by decide)) ?_
  refine xAll_c (xs_icmp_lt C dX0_isFull_6 (by decide)) ?_
  refine xAll_c (xs_iconst C dX0_isFull_9 (by decide)) ?_
  refine xAll_c (xs_goto C dX0_isFull_10 (by decide)) ?_
  refine xAll_c (xs_iconst C dX0_isFull_13 (by decide)) ?_
  refine xAll_c (xs_zret C dX0_isFull_14 rfl) ?_
  exact trivial
noncomputable def k_X0_valueAt : xCode := [(0, oAload 0 1), (1, oGetR 0 0 4), (4, oIload 1 5), (5, oCallV 5 1 f_X5_get 8), (8, oIret)]
noncomputable def f_X0_valueAt : xRun := xrun k_X0_valueAt 2
set_option maxHeartbeats 4000000 in
set_option maxRecDepth 100000 in
theorem m_X0_valueAt (l : Launch) (g : xG) : xMet l g yX0_valueAt cX0_valueAt 2 (some .int) 1 21 f_X0_valueAt := by
  refine xmet_of (own := RX0) (by decide +kernel) rfl (fun p e s m args below meth c r0 C => ?_)
  refine xAll_c (xs_aload_n C dX0_valueAt_0 rfl) ?_
  refine xAll_c (xs_getR C dX0_valueAt_1 (rfl : vwCl[0]? = some (RX0, TX0, 7)) win0 rfl (by decide) (by decide) rfl wm97) ?_
  refine xAll_c (xs_iload_n C dX0_valueAt_4 rfl) ?_
  refine xAll_c (xs_callV C (m_X5_get l g) dX0_valueAt_5 (rfl : vwCl[5]? = some (RX5, TX5, 1)) (by decide) rfl ⟨(by decide), (by decide), by decide +kernel⟩ wm370 wm280 wm281 wm3 wm282 ⟨Nat.le_of_ble_eq_true rfl, Nat.le_of_ble_eq_true rfl⟩) ?_
  refine xAll_c (xs_iret C dX0_valueAt_8 rfl) ?_
  exact trivial
noncomputable def k_X0_lastValue : xCode := [(0, oAload 0 1), (1, oGetI 0 4 4), (4, oIf1 (fun x => decide (x ≤ 0)) 23 7), (7, oAload 0 8), (8, oGetR 0 0 11), (11, oAload 0 12), (12, oGetI 0 4 15), (15, oConst (nI 1) 16), (16, oBin (fun x y => x - y) 17), (17, oCallV 5 1 f_X5_get 20), (20, oGoto 24), (23, oConst (nI 0) 24), (24, oIret)]
noncomputable def f_X0_lastValue : xRun := xrun k_X0_lastValue 1
set_option maxHeartbeats 4000000 in
set_option maxRecDepth 100000 in
theorem m_X0_lastValue (l : Launch) (g : xG) : xMet l g yX0_lastValue cX0_lastValue 1 (some .int) 1 21 f_X0_lastValue := by
  refine xmet_of (own := RX0) (by decide +kernel) rfl (fun p e s m args below meth c r0 C => ?_)
  refine xAll_c (xs_aload_n C dX0_lastValue_0 rfl) ?_
  refine xAll_c (xs_getI C dX0_lastValue_1 (rfl : vwCl[0]? = some (RX0, TX0, 7)) win0 rfl (by decide) (by decide) rfl wm101) ?_
  refine xAll_c (xs_if_le C dX0_lastValue_4 (by decide)) ?_
  refine xAll_c (xs_aload_n C dX0_lastValue_7 rfl) ?_
  refine xAll_c (xs_getR C dX0_lastValue_8 (rfl : vwCl[0]? = some (RX0, TX0, 7)) win0 rfl (by decide) (by decide) rfl wm97) ?_
  refine xAll_c (xs_aload_n C dX0_lastValue_11 rfl) ?_
  refine xAll_c (xs_getI C dX0_lastValue_12 (rfl : vwCl[0]? = some (RX0, TX0, 7)) win0 rfl (by decide) (by decide) rfl wm101) ?_
  refine xAll_c (xs_iconst C dX0_lastValue_15 (by decide)) ?_
  refine xAll_c (xs_isub C dX0_lastValue_16) ?_
  refine xAll_c (xs_callV C (m_X5_get l g) dX0_lastValue_17 (rfl : vwCl[5]? = some (RX5, TX5, 1)) (by decide) rfl ⟨(by decide), (by decide), by decide +kernel⟩ wm370 wm280 wm281 wm3 wm282 ⟨Nat.le_of_ble_eq_true rfl, Nat.le_of_ble_eq_true rfl⟩) ?_
  refine xAll_c (xs_goto C dX0_lastValue_20 (by decide)) ?_
  refine xAll_c (xs_iconst C dX0_lastValue_23 (by decide)) ?_
  refine xAll_c (xs_iret C dX0_lastValue_24 rfl) ?_
  exact trivial
noncomputable def k_X0_pinOf : xCode := [(0, oAload 0 1), (1, oGetR 0 2 4), (4, oIload 1 5), (5, oCallV 5 1 f_X5_get 8), (8, oIret)]
noncomputable def f_X0_pinOf : xRun := xrun k_X0_pinOf 2
set_option maxHeartbeats 4000000 in
set_option maxRecDepth 100000 in
theorem m_X0_pinOf (l : Launch) (g : xG) : xMet l g yX0_pinOf cX0_pinOf 2 (some .int) 1 21 f_X0_pinOf := by
  refine xmet_of (own := RX0) (by decide +kernel) rfl (fun p e s m args below meth c r0 C => ?_)
  refine xAll_c (xs_aload_n C dX0_pinOf_0 rfl) ?_
  refine xAll_c (xs_getR C dX0_pinOf_1 (rfl : vwCl[0]? = some (RX0, TX0, 7)) win0 rfl (by decide) (by decide) rfl wm99) ?_
  refine xAll_c (xs_iload_n C dX0_pinOf_4 rfl) ?_
  refine xAll_c (xs_callV C (m_X5_get l g) dX0_pinOf_5 (rfl : vwCl[5]? = some (RX5, TX5, 1)) (by decide) rfl ⟨(by decide), (by decide), by decide +kernel⟩ wm370 wm280 wm281 wm3 wm282 ⟨Nat.le_of_ble_eq_true rfl, Nat.le_of_ble_eq_true rfl⟩) ?_
  refine xAll_c (xs_iret C dX0_pinOf_8 rfl) ?_
  exact trivial
noncomputable def k_X0_firstOf : xCode := [(0, oConst (nI 0) 1), (1, oIstore 2 4 2), (2, oConst (nI 0) 3), (3, oIstore 3 4 4), (4, oIload 3 5), (5, oIload 1 6), (6, oIf2 (fun x y => decide (y ≤ x)) 34 9), (9, oIload 3 10), (10, oAload 0 11), (11, oGetI 0 5 14), (14, oIf2 (fun x y => decide (y ≤ x)) 34 17), (17, oIload 2 18), (18, oAload 0 19), (19, oGetR 0 1 22), (22, oIload 3 23), (23, oCallV 5 1 f_X5_get 26), (26, oBin (fun x y => x + y) 27), (27, oIstore 2 4 28), (28, oIinc 3 (nI 1) 4 31), (31, oGoto 4), (34, oIload 2 35), (35, oIret)]
noncomputable def f_X0_firstOf : xRun := xrun k_X0_firstOf 4
set_option maxHeartbeats 4000000 in
set_option maxRecDepth 100000 in
theorem m_X0_firstOf (l : Launch) (g : xG) : xMet l g yX0_firstOf cX0_firstOf 4 (some .int) 1 21 f_X0_firstOf := by
  refine xmet_of (own := RX0) (by decide +kernel) rfl (fun p e s m args below meth c r0 C => ?_)
  refine xAll_c (xs_iconst C dX0_firstOf_0 (by decide)) ?_
  refine xAll_c (xs_istore_n C dX0_firstOf_1 rfl) ?_
  refine xAll_c (xs_iconst C dX0_firstOf_2 (by decide)) ?_
  refine xAll_c (xs_istore_n C dX0_firstOf_3 rfl) ?_
  refine xAll_c (xs_iload_n C dX0_firstOf_4 rfl) ?_
  refine xAll_c (xs_iload_n C dX0_firstOf_5 rfl) ?_
  refine xAll_c (xs_icmp_ge C dX0_firstOf_6 (by decide)) ?_
  refine xAll_c (xs_iload_n C dX0_firstOf_9 rfl) ?_
  refine xAll_c (xs_aload_n C dX0_firstOf_10 rfl) ?_
  refine xAll_c (xs_getI C dX0_firstOf_11 (rfl : vwCl[0]? = some (RX0, TX0, 7)) win0 rfl (by decide) (by decide) rfl wm103) ?_
  refine xAll_c (xs_icmp_ge C dX0_firstOf_14 (by decide)) ?_
  refine xAll_c (xs_iload_n C dX0_firstOf_17 rfl) ?_
  refine xAll_c (xs_aload_n C dX0_firstOf_18 rfl) ?_
  refine xAll_c (xs_getR C dX0_firstOf_19 (rfl : vwCl[0]? = some (RX0, TX0, 7)) win0 rfl (by decide) (by decide) rfl wm98) ?_
  refine xAll_c (xs_iload_n C dX0_firstOf_22 rfl) ?_
  refine xAll_c (xs_callV C (m_X5_get l g) dX0_firstOf_23 (rfl : vwCl[5]? = some (RX5, TX5, 1)) (by decide) rfl ⟨(by decide), (by decide), by decide +kernel⟩ wm370 wm280 wm281 wm3 wm282 ⟨Nat.le_of_ble_eq_true rfl, Nat.le_of_ble_eq_true rfl⟩) ?_
  refine xAll_c (xs_iadd C dX0_firstOf_26) ?_
  refine xAll_c (xs_istore_n C dX0_firstOf_27 rfl) ?_
  refine xAll_c (xs_iinc C dX0_firstOf_28 rfl) ?_
  refine xAll_c (xs_goto C dX0_firstOf_31 (by decide)) ?_
  refine xAll_c (xs_iload_n C dX0_firstOf_34 rfl) ?_
  refine xAll_c (xs_iret C dX0_firstOf_35 rfl) ?_
  exact trivial
noncomputable def k_X0_pageOf : xCode := [(0, oConst (nI 0) 1), (1, oIstore 2 4 2), (2, oConst (nI 0) 3), (3, oIstore 3 4 4), (4, oIload 3 5), (5, oAload 0 6), (6, oGetI 0 5 9), (9, oIf2 (fun x y => decide (y ≤ x)) 36 12), (12, oIload 2 13), (13, oAload 0 14), (14, oGetR 0 1 17), (17, oIload 3 18), (18, oCallV 5 1 f_X5_get 21), (21, oBin (fun x y => x + y) 22), (22, oIstore 2 4 23), (23, oIload 1 24), (24, oIload 2 25), (25, oIf2 (fun x y => decide (y ≤ x)) 30 28), (28, oIload 3 29), (29, oIret), (30, oIinc 3 (nI 1) 4 33), (33, oGoto 4), (36, oConst (-9999) 39), (39, oIret)]
noncomputable def f_X0_pageOf : xRun := xrun k_X0_pageOf 4
set_option maxHeartbeats 4000000 in
set_option maxRecDepth 100000 in
theorem m_X0_pageOf (l : Launch) (g : xG) : xMet l g yX0_pageOf cX0_pageOf 4 (some .int) 1 21 f_X0_pageOf := by
  refine xmet_of (own := RX0) (by decide +kernel) rfl (fun p e s m args below meth c r0 C => ?_)
  refine xAll_c (xs_iconst C dX0_pageOf_0 (by decide)) ?_
  refine xAll_c (xs_istore_n C dX0_pageOf_1 rfl) ?_
  refine xAll_c (xs_iconst C dX0_pageOf_2 (by decide)) ?_
  refine xAll_c (xs_istore_n C dX0_pageOf_3 rfl) ?_
  refine xAll_c (xs_iload_n C dX0_pageOf_4 rfl) ?_
  refine xAll_c (xs_aload_n C dX0_pageOf_5 rfl) ?_
  refine xAll_c (xs_getI C dX0_pageOf_6 (rfl : vwCl[0]? = some (RX0, TX0, 7)) win0 rfl (by decide) (by decide) rfl wm103) ?_
  refine xAll_c (xs_icmp_ge C dX0_pageOf_9 (by decide)) ?_
  refine xAll_c (xs_iload_n C dX0_pageOf_12 rfl) ?_
  refine xAll_c (xs_aload_n C dX0_pageOf_13 rfl) ?_
  refine xAll_c (xs_getR C dX0_pageOf_14 (rfl : vwCl[0]? = some (RX0, TX0, 7)) win0 rfl (by decide) (by decide) rfl wm98) ?_
  refine xAll_c (xs_iload_n C dX0_pageOf_17 rfl) ?_
  refine xAll_c (xs_callV C (m_X5_get l g) dX0_pageOf_18 (rfl : vwCl[5]? = some (RX5, TX5, 1)) (by decide) rfl ⟨(by decide), (by decide), by decide +kernel⟩ wm370 wm280 wm281 wm3 wm282 ⟨Nat.le_of_ble_eq_true rfl, Nat.le_of_ble_eq_true rfl⟩) ?_
  refine xAll_c (xs_iadd C dX0_pageOf_21) ?_
  refine xAll_c (xs_istore_n C dX0_pageOf_22 rfl) ?_
  refine xAll_c (xs_iload_n C dX0_pageOf_23 rfl) ?_
  refine xAll_c (xs_iload_n C dX0_pageOf_24 rfl) ?_
  refine xAll_c (xs_icmp_ge C dX0_pageOf_25 (by decide)) ?_
  refine xAll_c (xs_iload_n C dX0_pageOf_28 rfl) ?_
  refine xAll_c (xs_iret C dX0_pageOf_29 rfl) ?_
  refine xAll_c (xs_iinc C dX0_pageOf_30 rfl) ?_
  refine xAll_c (xs_goto C dX0_pageOf_33 (by decide)) ?_
  refine xAll_c (xs_sipush C dX0_pageOf_36 (by decide)) ?_
  refine xAll_c (xs_iret C dX0_pageOf_39 rfl) ?_
  exact trivial
noncomputable def k_X0_pinnedPages : xCode := [(0, oConst (nI 0) 1), (1, oIstore 1 3 2), (2, oConst (nI 0) 3), (3, oIstore 2 3 4), (4, oIload 2 5), (5, oAload 0 6), (6, oGetI 0 5 9), (9, oIf2 (fun x y => decide (y ≤ x)) 40 12), (12, oIload 1 13), (13, oAload 0 14), (14, oGetR 0 2 17), (17, oIload 2 18), (18, oCallV 5 1 f_X5_get 21), (21, oConst (-9999) 24), (24, oIf2 (fun x y => !(decide (x = y))) 31 27), (27, oConst (nI 0) 28), (28, oGoto 32), (31, oConst (nI 1) 32), (32, oBin (fun x y => x + y) 33), (33, oIstore 1 3 34), (34, oIinc 2 (nI 1) 3 37), (37, oGoto 4), (40, oIload 1 41), (41, oIret)]
noncomputable def f_X0_pinnedPages : xRun := xrun k_X0_pinnedPages 3
set_option maxHeartbeats 4000000 in
set_option maxRecDepth 100000 in
theorem m_X0_pinnedPages (l : Launch) (g : xG) : xMet l g yX0_pinnedPages cX0_pinnedPages 3 (some .int) 1 21 f_X0_pinnedPages := by
  refine xmet_of (own := RX0) (by decide +kernel) rfl (fun p e s m args below meth c r0 C => ?_)
  refine xAll_c (xs_iconst C dX0_pinnedPages_0 (by decide)) ?_
  refine xAll_c (xs_istore_n C dX0_pinnedPages_1 rfl) ?_
  refine xAll_c (xs_iconst C dX0_pinnedPages_2 (by decide)) ?_
  refine xAll_c (xs_istore_n C dX0_pinnedPages_3 rfl) ?_
  refine xAll_c (xs_iload_n C dX0_pinnedPages_4 rfl) ?_
  refine xAll_c (xs_aload_n C dX0_pinnedPages_5 rfl) ?_
  refine xAll_c (xs_getI C dX0_pinnedPages_6 (rfl : vwCl[0]? = some (RX0, TX0, 7)) win0 rfl (by decide) (by decide) rfl wm103) ?_
  refine xAll_c (xs_icmp_ge C dX0_pinnedPages_9 (by decide)) ?_
  refine xAll_c (xs_iload_n C dX0_pinnedPages_12 rfl) ?_
  refine xAll_c (xs_aload_n C dX0_pinnedPages_13 rfl) ?_
  refine xAll_c (xs_getR C dX0_pinnedPages_14 (rfl : vwCl[0]? = some (RX0, TX0, 7)) win0 rfl (by decide) (by decide) rfl wm99) ?_
  refine xAll_c (xs_iload_n C dX0_pinnedPages_17 rfl) ?_
  refine xAll_c (xs_callV C (m_X5_get l g) dX0_pinnedPages_18 (rfl : vwCl[5]? = some (RX5, TX5, 1)) (by decide) rfl ⟨(by decide), (by decide), by decide +kernel⟩ wm370 wm280 wm281 wm3 wm282 ⟨Nat.le_of_ble_eq_true rfl, Nat.le_of_ble_eq_true rfl⟩) ?_
  refine xAll_c (xs_sipush C dX0_pinnedPages_21 (by decide)) ?_
  refine xAll_c (xs_icmp_ne C dX0_pinnedPages_24 (by decide)) ?_
  refine xAll_c (xs_iconst C dX0_pinnedPages_27 (by decide)) ?_
  refine xAll_c (xs_goto C dX0_pinnedPages_28 (by decide)) ?_
  refine xAll_c (xs_iconst C dX0_pinnedPages_31 (by decide)) ?_
  refine xAll_c (xs_iadd C dX0_pinnedPages_32) ?_
  refine xAll_c (xs_istore_n C dX0_pinnedPages_33 rfl) ?_
  refine xAll_c (xs_iinc C dX0_pinnedPages_34 rfl) ?_
  refine xAll_c (xs_goto C dX0_pinnedPages_37 (by decide)) ?_
  refine xAll_c (xs_iload_n C dX0_pinnedPages_40 rfl) ?_
  refine xAll_c (xs_iret C dX0_pinnedPages_41 rfl) ?_
  exact trivial
noncomputable def k_X0_smallestValue : xCode := [(0, oConst (-9999) 3), (3, oIstore 1 3 4), (4, oConst (nI 0) 5), (5, oIstore 2 3 6), (6, oIload 2 7), (7, oAload 0 8), (8, oGetI 0 4 11), (11, oIf2 (fun x y => decide (y ≤ x)) 48 14), (14, oIload 2 15), (15, oIf1 (fun x => !(decide (x = 0))) 29 18), (18, oAload 0 19), (19, oGetR 0 0 22), (22, oIload 2 23), (23, oCallV 5 1 f_X5_get 26), (26, oGoto 41), (29, oIload 1 30), (30, oAload 0 31), (31, oGetR 0 0 34), (34, oIload 2 35), (35, oCallV 5 1 f_X5_get 38), (38, oMin 41), (41, oIstore 1 3 42), (42, oIinc 2 (nI 1) 3 45), (45, oGoto 6), (48, oIload 1 49), (49, oIret)]
noncomputable def f_X0_smallestValue : xRun := xrun k_X0_smallestValue 3
set_option maxHeartbeats 4000000 in
set_option maxRecDepth 100000 in
theorem m_X0_smallestValue (l : Launch) (g : xG) : xMet l g yX0_smallestValue cX0_smallestValue 3 (some .int) 1 21 f_X0_smallestValue := by
  refine xmet_of (own := RX0) (by decide +kernel) rfl (fun p e s m args below meth c r0 C => ?_)
  refine xAll_c (xs_sipush C dX0_smallestValue_0 (by decide)) ?_
  refine xAll_c (xs_istore_n C dX0_smallestValue_3 rfl) ?_
  refine xAll_c (xs_iconst C dX0_smallestValue_4 (by decide)) ?_
  refine xAll_c (xs_istore_n C dX0_smallestValue_5 rfl) ?_
  refine xAll_c (xs_iload_n C dX0_smallestValue_6 rfl) ?_
  refine xAll_c (xs_aload_n C dX0_smallestValue_7 rfl) ?_
  refine xAll_c (xs_getI C dX0_smallestValue_8 (rfl : vwCl[0]? = some (RX0, TX0, 7)) win0 rfl (by decide) (by decide) rfl wm101) ?_
  refine xAll_c (xs_icmp_ge C dX0_smallestValue_11 (by decide)) ?_
  refine xAll_c (xs_iload_n C dX0_smallestValue_14 rfl) ?_
  refine xAll_c (xs_if_ne C dX0_smallestValue_15 (by decide)) ?_
  refine xAll_c (xs_aload_n C dX0_smallestValue_18 rfl) ?_
  refine xAll_c (xs_getR C dX0_smallestValue_19 (rfl : vwCl[0]? = some (RX0, TX0, 7)) win0 rfl (by decide) (by decide) rfl wm97) ?_
  refine xAll_c (xs_iload_n C dX0_smallestValue_22 rfl) ?_
  refine xAll_c (xs_callV C (m_X5_get l g) dX0_smallestValue_23 (rfl : vwCl[5]? = some (RX5, TX5, 1)) (by decide) rfl ⟨(by decide), (by decide), by decide +kernel⟩ wm370 wm280 wm281 wm3 wm282 ⟨Nat.le_of_ble_eq_true rfl, Nat.le_of_ble_eq_true rfl⟩) ?_
  refine xAll_c (xs_goto C dX0_smallestValue_26 (by decide)) ?_
  refine xAll_c (xs_iload_n C dX0_smallestValue_29 rfl) ?_
  refine xAll_c (xs_aload_n C dX0_smallestValue_30 rfl) ?_
  refine xAll_c (xs_getR C dX0_smallestValue_31 (rfl : vwCl[0]? = some (RX0, TX0, 7)) win0 rfl (by decide) (by decide) rfl wm97) ?_
  refine xAll_c (xs_iload_n C dX0_smallestValue_34 rfl) ?_
  refine xAll_c (xs_callV C (m_X5_get l g) dX0_smallestValue_35 (rfl : vwCl[5]? = some (RX5, TX5, 1)) (by decide) rfl ⟨(by decide), (by decide), by decide +kernel⟩ wm370 wm280 wm281 wm3 wm282 ⟨Nat.le_of_ble_eq_true rfl, Nat.le_of_ble_eq_true rfl⟩) ?_
  refine xAll_c (xs_min C dX0_smallestValue_38 wm566 wm348 wm16 wm349 ⟨Nat.le_of_ble_eq_true rfl, Nat.le_of_ble_eq_true rfl⟩) ?_
  refine xAll_c (xs_istore_n C dX0_smallestValue_41 rfl) ?_
  refine xAll_c (xs_iinc C dX0_smallestValue_42 rfl) ?_
  refine xAll_c (xs_goto C dX0_smallestValue_45 (by decide)) ?_
  refine xAll_c (xs_iload_n C dX0_smallestValue_48 rfl) ?_
  refine xAll_c (xs_iret C dX0_smallestValue_49 rfl) ?_
  exact trivial
noncomputable def k_X0_greatestValue : xCode := [(0, oConst (-9999) 3), (3, oIstore 1 3 4), (4, oConst (nI 0) 5), (5, oIstore 2 3 6), (6, oIload 2 7), (7, oAload 0 8), (8, oGetI 0 4 11), (11, oIf2 (fun x y => decide (y ≤ x)) 33 14), (14, oIload 1 15), (15, oAload 0 16), (16, oGetR 0 0 19), (19, oIload 2 20), (20, oCallV 5 1 f_X5_get 23), (23, oMax 26), (26, oIstore 1 3 27), (27, oIinc 2 (nI 1) 3 30), (30, oGoto 6), (33, oIload 1 34), (34, oIret)]
noncomputable def f_X0_greatestValue : xRun := xrun k_X0_greatestValue 3
set_option maxHeartbeats 4000000 in
set_option maxRecDepth 100000 in
theorem m_X0_greatestValue (l : Launch) (g : xG) : xMet l g yX0_greatestValue cX0_greatestValue 3 (some .int) 1 21 f_X0_greatestValue := by
  refine xmet_of (own := RX0) (by decide +kernel) rfl (fun p e s m args below meth c r0 C => ?_)
  refine xAll_c (xs_sipush C dX0_greatestValue_0 (by decide)) ?_
  refine xAll_c (xs_istore_n C dX0_greatestValue_3 rfl) ?_
  refine xAll_c (xs_iconst C dX0_greatestValue_4 (by decide)) ?_
  refine xAll_c (xs_istore_n C dX0_greatestValue_5 rfl) ?_
  refine xAll_c (xs_iload_n C dX0_greatestValue_6 rfl) ?_
  refine xAll_c (xs_aload_n C dX0_greatestValue_7 rfl) ?_
  refine xAll_c (xs_getI C dX0_greatestValue_8 (rfl : vwCl[0]? = some (RX0, TX0, 7)) win0 rfl (by decide) (by decide) rfl wm101) ?_
  refine xAll_c (xs_icmp_ge C dX0_greatestValue_11 (by decide)) ?_
  refine xAll_c (xs_iload_n C dX0_greatestValue_14 rfl) ?_
  refine xAll_c (xs_aload_n C dX0_greatestValue_15 rfl) ?_
  refine xAll_c (xs_getR C dX0_greatestValue_16 (rfl : vwCl[0]? = some (RX0, TX0, 7)) win0 rfl (by decide) (by decide) rfl wm97) ?_
  refine xAll_c (xs_iload_n C dX0_greatestValue_19 rfl) ?_
  refine xAll_c (xs_callV C (m_X5_get l g) dX0_greatestValue_20 (rfl : vwCl[5]? = some (RX5, TX5, 1)) (by decide) rfl ⟨(by decide), (by decide), by decide +kernel⟩ wm370 wm280 wm281 wm3 wm282 ⟨Nat.le_of_ble_eq_true rfl, Nat.le_of_ble_eq_true rfl⟩) ?_
  refine xAll_c (xs_max C dX0_greatestValue_23 wm571 wm315 wm16 wm316 ⟨Nat.le_of_ble_eq_true rfl, Nat.le_of_ble_eq_true rfl⟩) ?_
  refine xAll_c (xs_istore_n C dX0_greatestValue_26 rfl) ?_
  refine xAll_c (xs_iinc C dX0_greatestValue_27 rfl) ?_
  refine xAll_c (xs_goto C dX0_greatestValue_30 (by decide)) ?_
  refine xAll_c (xs_iload_n C dX0_greatestValue_33 rfl) ?_
  refine xAll_c (xs_iret C dX0_greatestValue_34 rfl) ?_
  exact trivial
noncomputable def k_X0_placeOf : xCode := [(0, oConst (nI 0) 1), (1, oIstore 2 3 2), (2, oIload 2 3), (3, oAload 0 4), (4, oGetI 0 4 7), (7, oIf2 (fun x y => decide (y ≤ x)) 30 10), (10, oAload 0 11), (11, oGetR 0 0 14), (14, oIload 2 15), (15, oCallV 5 1 f_X5_get 18), (18, oIload 1 19), (19, oIf2 (fun x y => !(decide (x = y))) 24 22), (22, oIload 2 23), (23, oIret), (24, oIinc 2 (nI 1) 3 27), (27, oGoto 2), (30, oConst (-9999) 33), (33, oIret)]
noncomputable def f_X0_placeOf : xRun := xrun k_X0_placeOf 3
set_option maxHeartbeats 4000000 in
set_option maxRecDepth 100000 in
theorem m_X0_placeOf (l : Launch) (g : xG) : xMet l g yX0_placeOf cX0_placeOf 3 (some .int) 1 21 f_X0_placeOf := by
  refine xmet_of (own := RX0) (by decide +kernel) rfl (fun p e s m args below meth c r0 C => ?_)
  refine xAll_c (xs_iconst C dX0_placeOf_0 (by decide)) ?_
  refine xAll_c (xs_istore_n C dX0_placeOf_1 rfl) ?_
  refine xAll_c (xs_iload_n C dX0_placeOf_2 rfl) ?_
  refine xAll_c (xs_aload_n C dX0_placeOf_3 rfl) ?_
  refine xAll_c (xs_getI C dX0_placeOf_4 (rfl : vwCl[0]? = some (RX0, TX0, 7)) win0 rfl (by decide) (by decide) rfl wm101) ?_
  refine xAll_c (xs_icmp_ge C dX0_placeOf_7 (by decide)) ?_
  refine xAll_c (xs_aload_n C dX0_placeOf_10 rfl) ?_
  refine xAll_c (xs_getR C dX0_placeOf_11 (rfl : vwCl[0]? = some (RX0, TX0, 7)) win0 rfl (by decide) (by decide) rfl wm97) ?_
  refine xAll_c (xs_iload_n C dX0_placeOf_14 rfl) ?_
  refine xAll_c (xs_callV C (m_X5_get l g) dX0_placeOf_15 (rfl : vwCl[5]? = some (RX5, TX5, 1)) (by decide) rfl ⟨(by decide), (by decide), by decide +kernel⟩ wm370 wm280 wm281 wm3 wm282 ⟨Nat.le_of_ble_eq_true rfl, Nat.le_of_ble_eq_true rfl⟩) ?_
  refine xAll_c (xs_iload_n C dX0_placeOf_18 rfl) ?_
  refine xAll_c (xs_icmp_ne C dX0_placeOf_19 (by decide)) ?_
  refine xAll_c (xs_iload_n C dX0_placeOf_22 rfl) ?_
  refine xAll_c (xs_iret C dX0_placeOf_23 rfl) ?_
  refine xAll_c (xs_iinc C dX0_placeOf_24 rfl) ?_
  refine xAll_c (xs_goto C dX0_placeOf_27 (by decide)) ?_
  refine xAll_c (xs_sipush C dX0_placeOf_30 (by decide)) ?_
  refine xAll_c (xs_iret C dX0_placeOf_33 rfl) ?_
  exact trivial
noncomputable def k_X0_differentValues : xCode := [(0, oConst (nI 0) 1), (1, oIstore 1 3 2), (2, oConst (nI 0) 3), (3, oIstore 2 3 4), (4, oIload 2 5), (5, oAload 0 6), (6, oGetI 0 4 9), (9, oIf2 (fun x y => decide (y ≤ x)) 42 12), (12, oIload 1 13), (13, oAload 0 14), (14, oAload 0 15), (15, oGetR 0 0 18), (18, oIload 2 19), (19, oCallV 5 1 f_X5_get 22), (22, oCallV 0 1 f_X0_placeOf 25), (25, oIload 2 26), (26, oIf2 (fun x y => !(decide (x = y))) 33 29), (29, oConst (nI 1) 30), (30, oGoto 34), (33, oConst (nI 0) 34), (34, oBin (fun x y => x + y) 35), (35, oIstore 1 3 36), (36, oIinc 2 (nI 1) 3 39), (39, oGoto 4), (42, oIload 1 43), (43, oIret)]
noncomputable def f_X0_differentValues : xRun := xrun k_X0_differentValues 3
set_option maxHeartbeats 4000000 in
set_option maxRecDepth 100000 in
theorem m_X0_differentValues (l : Launch) (g : xG) : xMet l g yX0_differentValues cX0_differentValues 3 (some .int) 2 43 f_X0_differentValues := by
  refine xmet_of (own := RX0) (by decide +kernel) rfl (fun p e s m args below meth c r0 C => ?_)
  refine xAll_c (xs_iconst C dX0_differentValues_0 (by decide)) ?_
  refine xAll_c (xs_istore_n C dX0_differentValues_1 rfl) ?_
  refine xAll_c (xs_iconst C dX0_differentValues_2 (by decide)) ?_
  refine xAll_c (xs_istore_n C dX0_differentValues_3 rfl) ?_
  refine xAll_c (xs_iload_n C dX0_differentValues_4 rfl) ?_
  refine xAll_c (xs_aload_n C dX0_differentValues_5 rfl) ?_
  refine xAll_c (xs_getI C dX0_differentValues_6 (rfl : vwCl[0]? = some (RX0, TX0, 7)) win0 rfl (by decide) (by decide) rfl wm101) ?_
  refine xAll_c (xs_icmp_ge C dX0_differentValues_9 (by decide)) ?_
  refine xAll_c (xs_iload_n C dX0_differentValues_12 rfl) ?_
  refine xAll_c (xs_aload_n C dX0_differentValues_13 rfl) ?_
  refine xAll_c (xs_aload_n C dX0_differentValues_14 rfl) ?_
  refine xAll_c (xs_getR C dX0_differentValues_15 (rfl : vwCl[0]? = some (RX0, TX0, 7)) win0 rfl (by decide) (by decide) rfl wm97) ?_
  refine xAll_c (xs_iload_n C dX0_differentValues_18 rfl) ?_
  refine xAll_c (xs_callV C (m_X5_get l g) dX0_differentValues_19 (rfl : vwCl[5]? = some (RX5, TX5, 1)) (by decide) rfl ⟨(by decide), (by decide), by decide +kernel⟩ wm370 wm280 wm281 wm3 wm282 ⟨Nat.le_of_ble_eq_true rfl, Nat.le_of_ble_eq_true rfl⟩) ?_
  refine xAll_c (xs_callV C (m_X0_placeOf l g) dX0_differentValues_22 (rfl : vwCl[0]? = some (RX0, TX0, 7)) (by decide) rfl ⟨(by decide), (by decide), by decide +kernel⟩ wm576 wm577 wm578 wm2 wm579 ⟨Nat.le_of_ble_eq_true rfl, Nat.le_of_ble_eq_true rfl⟩) ?_
  refine xAll_c (xs_iload_n C dX0_differentValues_25 rfl) ?_
  refine xAll_c (xs_icmp_ne C dX0_differentValues_26 (by decide)) ?_
  refine xAll_c (xs_iconst C dX0_differentValues_29 (by decide)) ?_
  refine xAll_c (xs_goto C dX0_differentValues_30 (by decide)) ?_
  refine xAll_c (xs_iconst C dX0_differentValues_33 (by decide)) ?_
  refine xAll_c (xs_iadd C dX0_differentValues_34) ?_
  refine xAll_c (xs_istore_n C dX0_differentValues_35 rfl) ?_
  refine xAll_c (xs_iinc C dX0_differentValues_36 rfl) ?_
  refine xAll_c (xs_goto C dX0_differentValues_39 (by decide)) ?_
  refine xAll_c (xs_iload_n C dX0_differentValues_42 rfl) ?_
  refine xAll_c (xs_iret C dX0_differentValues_43 rfl) ?_
  exact trivial
noncomputable def k_X0_timesOf : xCode := [(0, oConst (nI 0) 1), (1, oIstore 2 4 2), (2, oConst (nI 0) 3), (3, oIstore 3 4 4), (4, oIload 3 5), (5, oAload 0 6), (6, oGetI 0 4 9), (9, oIf2 (fun x y => decide (y ≤ x)) 38 12), (12, oIload 2 13), (13, oAload 0 14), (14, oGetR 0 0 17), (17, oIload 3 18), (18, oCallV 5 1 f_X5_get 21), (21, oIload 1 22), (22, oIf2 (fun x y => !(decide (x = y))) 29 25), (25, oConst (nI 1) 26), (26, oGoto 30), (29, oConst (nI 0) 30), (30, oBin (fun x y => x + y) 31), (31, oIstore 2 4 32), (32, oIinc 3 (nI 1) 4 35), (35, oGoto 4), (38, oIload 2 39), (39, oIret)]
noncomputable def f_X0_timesOf : xRun := xrun k_X0_timesOf 4
set_option maxHeartbeats 4000000 in
set_option maxRecDepth 100000 in
theorem m_X0_timesOf (l : Launch) (g : xG) : xMet l g yX0_timesOf cX0_timesOf 4 (some .int) 1 21 f_X0_timesOf := by
  refine xmet_of (own := RX0) (by decide +kernel) rfl (fun p e s m args below meth c r0 C => ?_)
  refine xAll_c (xs_iconst C dX0_timesOf_0 (by decide)) ?_
  refine xAll_c (xs_istore_n C dX0_timesOf_1 rfl) ?_
  refine xAll_c (xs_iconst C dX0_timesOf_2 (by decide)) ?_
  refine xAll_c (xs_istore_n C dX0_timesOf_3 rfl) ?_
  refine xAll_c (xs_iload_n C dX0_timesOf_4 rfl) ?_
  refine xAll_c (xs_aload_n C dX0_timesOf_5 rfl) ?_
  refine xAll_c (xs_getI C dX0_timesOf_6 (rfl : vwCl[0]? = some (RX0, TX0, 7)) win0 rfl (by decide) (by decide) rfl wm101) ?_
  refine xAll_c (xs_icmp_ge C dX0_timesOf_9 (by decide)) ?_
  refine xAll_c (xs_iload_n C dX0_timesOf_12 rfl) ?_
  refine xAll_c (xs_aload_n C dX0_timesOf_13 rfl) ?_
  refine xAll_c (xs_getR C dX0_timesOf_14 (rfl : vwCl[0]? = some (RX0, TX0, 7)) win0 rfl (by decide) (by decide) rfl wm97) ?_
  refine xAll_c (xs_iload_n C dX0_timesOf_17 rfl) ?_
  refine xAll_c (xs_callV C (m_X5_get l g) dX0_timesOf_18 (rfl : vwCl[5]? = some (RX5, TX5, 1)) (by decide) rfl ⟨(by decide), (by decide), by decide +kernel⟩ wm370 wm280 wm281 wm3 wm282 ⟨Nat.le_of_ble_eq_true rfl, Nat.le_of_ble_eq_true rfl⟩) ?_
  refine xAll_c (xs_iload_n C dX0_timesOf_21 rfl) ?_
  refine xAll_c (xs_icmp_ne C dX0_timesOf_22 (by decide)) ?_
  refine xAll_c (xs_iconst C dX0_timesOf_25 (by decide)) ?_
  refine xAll_c (xs_goto C dX0_timesOf_26 (by decide)) ?_
  refine xAll_c (xs_iconst C dX0_timesOf_29 (by decide)) ?_
  refine xAll_c (xs_iadd C dX0_timesOf_30) ?_
  refine xAll_c (xs_istore_n C dX0_timesOf_31 rfl) ?_
  refine xAll_c (xs_iinc C dX0_timesOf_32 rfl) ?_
  refine xAll_c (xs_goto C dX0_timesOf_35 (by decide)) ?_
  refine xAll_c (xs_iload_n C dX0_timesOf_38 rfl) ?_
  refine xAll_c (xs_iret C dX0_timesOf_39 rfl) ?_
  exact trivial
noncomputable def k_X2_start : xCode := [(0, oAload 0 1), (1, oConst (nI 0) 2), (2, oPutI 2 2 5), (5, oAload 0 6), (6, oConst (nI 0) 7), (7, oPutI 2 1 10), (10, oAload 0 11), (11, oConst (nI 1) 12), (12, oPutI 2 9 15), (15, oVret)]
noncomputable def f_X2_start : xRun := xrun k_X2_start 1
set_option maxHeartbeats 4000000 in
set_option maxRecDepth 100000 in
theorem m_X2_start (l : Launch) (g : xG) : xMet l g yX2_start cX2_start 1 none 0 0 f_X2_start := by
  refine xmet_of (own := RX2) (by decide +kernel) rfl (fun p e s m args below meth c r0 C => ?_)
  refine xAll_c (xs_aload_n C dX2_start_0 rfl) ?_
  refine xAll_c (xs_iconst C dX2_start_1 (by decide)) ?_
  refine xAll_c (xs_putI C dX2_start_2 (rfl : vwCl[2]? = some (RX2, TX2, 10)) win2 tyX2_ok nmX2 rfl (by decide) (by decide) rfl rfl (by decide) wm55) ?_
  refine xAll_c (xs_aload_n C dX2_start_5 rfl) ?_
  refine xAll_c (xs_iconst C dX2_start_6 (by decide)) ?_
  refine xAll_c (xs_putI C dX2_start_7 (rfl : vwCl[2]? = some (RX2, TX2, 10)) win2 tyX2_ok nmX2 rfl (by decide) (by decide) rfl rfl (by decide) wm51) ?_
  refine xAll_c (xs_aload_n C dX2_start_10 rfl) ?_
  refine xAll_c (xs_iconst C dX2_start_11 (by decide)) ?_
  refine xAll_c (xs_putI C dX2_start_12 (rfl : vwCl[2]? = some (RX2, TX2, 10)) win2 tyX2_ok nmX2 rfl (by decide) (by decide) rfl rfl (by decide) wm74) ?_
  refine xAll_c (xs_vret C dX2_start_15 rfl) ?_
  exact trivial
noncomputable def k_X2_numberOfWord : xCode := [(0, oConst (nI 0) 1), (1, oIstore 2 3 2), (2, oIload 2 3), (3, oAload 0 4), (4, oGetI 2 1 7), (7, oIf2 (fun x y => decide (y ≤ x)) 37 10), (10, oIload 2 11), (11, oAload 0 12), (12, oGetR 2 0 15), (15, oAlen 10 16), (16, oIf2 (fun x y => decide (y ≤ x)) 37 19), (19, oAload 0 20), (20, oGetR 2 0 23), (23, oIload 2 24), (24, oIald 25), (25, oIload 1 26), (26, oIf2 (fun x y => !(decide (x = y))) 31 29), (29, oIload 2 30), (30, oIret), (31, oIinc 2 (nI 1) 3 34), (34, oGoto 2), (37, oConst (-9999) 40), (40, oIret)]
noncomputable def f_X2_numberOfWord : xRun := xrun k_X2_numberOfWord 3
set_option maxHeartbeats 4000000 in
set_option maxRecDepth 100000 in
theorem m_X2_numberOfWord (l : Launch) (g : xG) : xMet l g yX2_numberOfWord cX2_numberOfWord 3 (some .int) 0 0 f_X2_numberOfWord := by
  refine xmet_of (own := RX2) (by decide +kernel) rfl (fun p e s m args below meth c r0 C => ?_)
  refine xAll_c (xs_iconst C dX2_numberOfWord_0 (by decide)) ?_
  refine xAll_c (xs_istore_n C dX2_numberOfWord_1 rfl) ?_
  refine xAll_c (xs_iload_n C dX2_numberOfWord_2 rfl) ?_
  refine xAll_c (xs_aload_n C dX2_numberOfWord_3 rfl) ?_
  refine xAll_c (xs_getI C dX2_numberOfWord_4 (rfl : vwCl[2]? = some (RX2, TX2, 10)) win2 rfl (by decide) (by decide) rfl wm51) ?_
  refine xAll_c (xs_icmp_ge C dX2_numberOfWord_7 (by decide)) ?_
  refine xAll_c (xs_iload_n C dX2_numberOfWord_10 rfl) ?_
  refine xAll_c (xs_aload_n C dX2_numberOfWord_11 rfl) ?_
  refine xAll_c (xs_getR C dX2_numberOfWord_12 (rfl : vwCl[2]? = some (RX2, TX2, 10)) win2 rfl (by decide) (by decide) rfl wm50) ?_
  refine xAll_c (xs_alen C dX2_numberOfWord_15 (Or.inl rfl)) ?_
  refine xAll_c (xs_icmp_ge C dX2_numberOfWord_16 (by decide)) ?_
  refine xAll_c (xs_aload_n C dX2_numberOfWord_19 rfl) ?_
  refine xAll_c (xs_getR C dX2_numberOfWord_20 (rfl : vwCl[2]? = some (RX2, TX2, 10)) win2 rfl (by decide) (by decide) rfl wm50) ?_
  refine xAll_c (xs_iload_n C dX2_numberOfWord_23 rfl) ?_
  refine xAll_c (xs_iald C dX2_numberOfWord_24) ?_
  refine xAll_c (xs_iload_n C dX2_numberOfWord_25 rfl) ?_
  refine xAll_c (xs_icmp_ne C dX2_numberOfWord_26 (by decide)) ?_
  refine xAll_c (xs_iload_n C dX2_numberOfWord_29 rfl) ?_
  refine xAll_c (xs_iret C dX2_numberOfWord_30 rfl) ?_
  refine xAll_c (xs_iinc C dX2_numberOfWord_31 rfl) ?_
  refine xAll_c (xs_goto C dX2_numberOfWord_34 (by decide)) ?_
  refine xAll_c (xs_sipush C dX2_numberOfWord_37 (by decide)) ?_
  refine xAll_c (xs_iret C dX2_numberOfWord_40 rfl) ?_
  exact trivial
noncomputable def k_X8_widthOf : xCode := [(0, oConst (nI 0) 1), (1, oIstore 1 2 2), (2, oIload 1 3), (3, oConst (nI 11) 5), (5, oIf2 (fun x y => decide (y ≤ x)) 20 8), (8, oIload 0 9), (9, oIload 1 10), (10, oBin (fun x y => x >>> (y &&& 31)) 11), (11, oIf1 (fun x => decide (x ≤ 0)) 20 14), (14, oIinc 1 (nI 1) 2 17), (17, oGoto 2), (20, oIload 1 21), (21, oIret)]
noncomputable def f_X8_widthOf : xRun := xrun k_X8_widthOf 2
set_option maxHeartbeats 4000000 in
set_option maxRecDepth 100000 in
theorem m_X8_widthOf (l : Launch) (g : xG) : xMet l g yX8_widthOf cX8_widthOf 2 (some .int) 0 0 f_X8_widthOf := by
  refine xmet_of (own := RX8) (by decide +kernel) rfl (fun p e s m args below meth c r0 C => ?_)
  refine xAll_c (xs_iconst C dX8_widthOf_0 (by decide)) ?_
  refine xAll_c (xs_istore_n C dX8_widthOf_1 rfl) ?_
  refine xAll_c (xs_iload_n C dX8_widthOf_2 rfl) ?_
  refine xAll_c (xs_bipush C dX8_widthOf_3 (by decide)) ?_
  refine xAll_c (xs_icmp_ge C dX8_widthOf_5 (by decide)) ?_
  refine xAll_c (xs_iload_n C dX8_widthOf_8 rfl) ?_
  refine xAll_c (xs_iload_n C dX8_widthOf_9 rfl) ?_
  refine xAll_c (xs_ishr C dX8_widthOf_10) ?_
  refine xAll_c (xs_if_le C dX8_widthOf_11 (by decide)) ?_
  refine xAll_c (xs_iinc C dX8_widthOf_14 rfl) ?_
  refine xAll_c (xs_goto C dX8_widthOf_17 (by decide)) ?_
  refine xAll_c (xs_iload_n C dX8_widthOf_20 rfl) ?_
  refine xAll_c (xs_iret C dX8_widthOf_21 rfl) ?_
  exact trivial
noncomputable def k_X2_include : xCode := [(0, oAload 0 1), (1, oIload 1 2), (2, oCallV 2 1 f_X2_numberOfWord 5), (5, oConst (-9999) 8), (8, oIf2 (fun x y => !(decide (x = y))) 43 11), (11, oAload 0 12), (12, oGetI 2 1 15), (15, oAload 0 16), (16, oGetR 2 0 19), (19, oAlen 10 20), (20, oIf2 (fun x y => decide (y ≤ x)) 43 23), (23, oAload 0 24), (24, oGetR 2 0 27), (27, oAload 0 28), (28, oGetI 2 1 31), (31, oIload 1 32), (32, oIast 33), (33, oAload 0 34), (34, oDup 35), (35, oGetI 2 1 38), (38, oConst (nI 1) 39), (39, oBin (fun x y => x + y) 40), (40, oPutI 2 1 43), (43, oAload 0 44), (44, oGetI 2 2 47), (47, oIf1 (fun x => !(decide (x = 0))) 68 50), (50, oAload 0 51), (51, oIload 1 52), (52, oPutI 2 4 55), (55, oAload 0 56), (56, oIload 1 57), (57, oPutI 2 5 60), (60, oAload 0 61), (61, oConst (nI 1) 62), (62, oPutI 2 6 65), (65, oGoto 148), (68, oAload 0 69), (69, oAload 0 70), (70, oGetI 2 4 73), (73, oIload 1 74), (74, oMin 77), (77, oPutI 2 4 80), (80, oAload 0 81), (81, oAload 0 82), (82, oGetI 2 5 85), (85, oIload 1 86), (86, oMax 89), (89, oPutI 2 5 92), (92, oAload 0 93), (93, oDup 94), (94, oGetI 2 6 97), (97, oIload 1 98), (98, oAload 0 99), (99, oGetI 2 3 102), (102, oIf2 (fun x y => !(decide (x = y))) 109 105), (105, oConst (nI 0) 106), (106, oGoto 110), (109, oConst (nI 1) 110), (110, oBin (fun x y => x + y) 111), (111, oPutI 2 6 114), (114, oIload 1 115), (115, oAload 0 116), (116, oGetI 2 3 119), (119, oBin (fun x y => x - y) 120), (120, oIstore 2 3 121), (121, oAload 0 122), (122, oAload 0 123), (123, oGetI 2 9 126), (126, oConst (nI 1) 127), (127, oIload 2 128), (128, oIf1 (fun x => decide (0 ≤ x)) 137 131), (131, oConst (-1) 132), (132, oIload 2 133), (133, oBin (fun x y => x - y) 134), (134, oGoto 138), (137, oIload 2 138), (138, oCallSV 1 f_X8_widthOf 141), (141, oBin (fun x y => x + y) 142), (142, oMax 145), (145, oPutI 2 9 148), (148, oAload 0 149), (149, oAload 0 150), (150, oGetI 2 1 153), (153, oConst (nI 1) 154), (154, oBin (fun x y => x - y) 155), (155, oCallSV 1 f_X8_widthOf 158), (158, oPutI 2 7 161), (161, oAload 0 162), (162, oAload 0 163), (163, oGetI 2 5 166), (166, oAload 0 167), (167, oGetI 2 4 170), (170, oBin (fun x y => x - y) 171), (171, oCallSV 1 f_X8_widthOf 174), (174, oPutI 2 8 177), (177, oAload 0 178), (178, oIload 1 179), (179, oPutI 2 3 182), (182, oAload 0 183), (183, oDup 184), (184, oGetI 2 2 187), (187, oConst (nI 1) 188), (188, oBin (fun x y => x + y) 189), (189, oPutI 2 2 192), (192, oVret)]
noncomputable def f_X2_include : xRun := xrun k_X2_include 3
set_option maxHeartbeats 4000000 in
set_option maxRecDepth 100000 in
theorem m_X2_include (l : Launch) (g : xG) : xMet l g yX2_include cX2_include 3 none 1 22 f_X2_include := by
  refine xmet_of (own := RX2) (by decide +kernel) rfl (fun p e s m args below meth c r0 C => ?_)
  refine xAll_c (xs_aload_n C dX2_include_0 rfl) ?_
  refine xAll_c (xs_iload_n C dX2_include_1 rfl) ?_
  refine xAll_c (xs_callV C (m_X2_numberOfWord l g) dX2_include_2 (rfl : vwCl[2]? = some (RX2, TX2, 10)) (by decide) rfl ⟨(by decide), (by decide), by decide +kernel⟩ wm387 wm388 wm389 wm4 wm390 ⟨Nat.le_of_ble_eq_true rfl, Nat.le_of_ble_eq_true rfl⟩) ?_
  refine xAll_c (xs_sipush C dX2_include_5 (by decide)) ?_
  refine xAll_c (xs_icmp_ne C dX2_include_8 (by decide)) ?_
  refine xAll_c (xs_aload_n C dX2_include_11 rfl) ?_
  refine xAll_c (xs_getI C dX2_include_12 (rfl : vwCl[2]? = some (RX2, TX2, 10)) win2 rfl (by decide) (by decide) rfl wm51) ?_
  refine xAll_c (xs_aload_n C dX2_include_15 rfl) ?_
  refine xAll_c (xs_getR C dX2_include_16 (rfl : vwCl[2]? = some (RX2, TX2, 10)) win2 rfl (by decide) (by decide) rfl wm50) ?_
  refine xAll_c (xs_alen C dX2_include_19 (Or.inl rfl)) ?_
  refine xAll_c (xs_icmp_ge C dX2_include_20 (by decide)) ?_
  refine xAll_c (xs_aload_n C dX2_include_23 rfl) ?_
  refine xAll_c (xs_getR C dX2_include_24 (rfl : vwCl[2]? = some (RX2, TX2, 10)) win2 rfl (by decide) (by decide) rfl wm50) ?_
  refine xAll_c (xs_aload_n C dX2_include_27 rfl) ?_
  refine xAll_c (xs_getI C dX2_include_28 (rfl : vwCl[2]? = some (RX2, TX2, 10)) win2 rfl (by decide) (by decide) rfl wm51) ?_
  refine xAll_c (xs_iload_n C dX2_include_31 rfl) ?_
  refine xAll_c (xs_iast C dX2_include_32) ?_
  refine xAll_c (xs_aload_n C dX2_include_33 rfl) ?_
  refine xAll_c (xs_dup C dX2_include_34) ?_
  refine xAll_c (xs_getI C dX2_include_35 (rfl : vwCl[2]? = some (RX2, TX2, 10)) win2 rfl (by decide) (by decide) rfl wm51) ?_
  refine xAll_c (xs_iconst C dX2_include_38 (by decide)) ?_
  refine xAll_c (xs_iadd C dX2_include_39) ?_
  refine xAll_c (xs_putI C dX2_include_40 (rfl : vwCl[2]? = some (RX2, TX2, 10)) win2 tyX2_ok nmX2 rfl (by decide) (by decide) rfl rfl (by decide) wm51) ?_
  refine xAll_c (xs_aload_n C dX2_include_43 rfl) ?_
  refine xAll_c (xs_getI C dX2_include_44 (rfl : vwCl[2]? = some (RX2, TX2, 10)) win2 rfl (by decide) (by decide) rfl wm55) ?_
  refine xAll_c (xs_if_ne C dX2_include_47 (by decide)) ?_
  refine xAll_c (xs_aload_n C dX2_include_50 rfl) ?_
  refine xAll_c (xs_iload_n C dX2_include_51 rfl) ?_
  refine xAll_c (xs_putI C dX2_include_52 (rfl : vwCl[2]? = some (RX2, TX2, 10)) win2 tyX2_ok nmX2 rfl (by decide) (by decide) rfl rfl (by decide) wm60) ?_
  refine xAll_c (xs_aload_n C dX2_include_55 rfl) ?_
  refine xAll_c (xs_iload_n C dX2_include_56 rfl) ?_
  refine xAll_c (xs_putI C dX2_include_57 (rfl : vwCl[2]? = some (RX2, TX2, 10)) win2 tyX2_ok nmX2 rfl (by decide) (by decide) rfl rfl (by decide) wm64) ?_
  refine xAll_c (xs_aload_n C dX2_include_60 rfl) ?_
  refine xAll_c (xs_iconst C dX2_include_61 (by decide)) ?_
  refine xAll_c (xs_putI C dX2_include_62 (rfl : vwCl[2]? = some (RX2, TX2, 10)) win2 tyX2_ok nmX2 rfl (by decide) (by decide) rfl rfl (by decide) wm67) ?_
  refine xAll_c (xs_goto C dX2_include_65 (by decide)) ?_
  refine xAll_c (xs_aload_n C dX2_include_68 rfl) ?_
  refine xAll_c (xs_aload_n C dX2_include_69 rfl) ?_
  refine xAll_c (xs_getI C dX2_include_70 (rfl : vwCl[2]? = some (RX2, TX2, 10)) win2 rfl (by decide) (by decide) rfl wm60) ?_
  refine xAll_c (xs_iload_n C dX2_include_73 rfl) ?_
  refine xAll_c (xs_min C dX2_include_74 wm391 wm348 wm16 wm349 ⟨Nat.le_of_ble_eq_true rfl, Nat.le_of_ble_eq_true rfl⟩) ?_
  refine xAll_c (xs_putI C dX2_include_77 (rfl : vwCl[2]? = some (RX2, TX2, 10)) win2 tyX2_ok nmX2 rfl (by decide) (by decide) rfl rfl (by decide) wm60) ?_
  refine xAll_c (xs_aload_n C dX2_include_80 rfl) ?_
  refine xAll_c (xs_aload_n C dX2_include_81 rfl) ?_
  refine xAll_c (xs_getI C dX2_include_82 (rfl : vwCl[2]? = some (RX2, TX2, 10)) win2 rfl (by decide) (by decide) rfl wm64) ?_
  refine xAll_c (xs_iload_n C dX2_include_85 rfl) ?_
  refine xAll_c (xs_max C dX2_include_86 wm392 wm315 wm16 wm316 ⟨Nat.le_of_ble_eq_true rfl, Nat.le_of_ble_eq_true rfl⟩) ?_
  refine xAll_c (xs_putI C dX2_include_89 (rfl : vwCl[2]? = some (RX2, TX2, 10)) win2 tyX2_ok nmX2 rfl (by decide) (by decide) rfl rfl (by decide) wm64) ?_
  refine xAll_c (xs_aload_n C dX2_include_92 rfl) ?_
  refine xAll_c (xs_dup C dX2_include_93) ?_
  refine xAll_c (xs_getI C dX2_include_94 (rfl : vwCl[2]? = some (RX2, TX2, 10)) win2 rfl (by decide) (by decide) rfl wm67) ?_
  refine xAll_c (xs_iload_n C dX2_include_97 rfl) ?_
  refine xAll_c (xs_aload_n C dX2_include_98 rfl) ?_
  refine xAll_c (xs_getI C dX2_include_99 (rfl : vwCl[2]? = some (RX2, TX2, 10)) win2 rfl (by decide) (by decide) rfl wm59) ?_
  refine xAll_c (xs_icmp_ne C dX2_include_102 (by decide)) ?_
  refine xAll_c (xs_iconst C dX2_include_105 (by decide)) ?_
  refine xAll_c (xs_goto C dX2_include_106 (by decide)) ?_
  refine xAll_c (xs_iconst C dX2_include_109 (by decide)) ?_
  refine xAll_c (xs_iadd C dX2_include_110) ?_
  refine xAll_c (xs_putI C dX2_include_111 (rfl : vwCl[2]? = some (RX2, TX2, 10)) win2 tyX2_ok nmX2 rfl (by decide) (by decide) rfl rfl (by decide) wm67) ?_
  refine xAll_c (xs_iload_n C dX2_include_114 rfl) ?_
  refine xAll_c (xs_aload_n C dX2_include_115 rfl) ?_
  refine xAll_c (xs_getI C dX2_include_116 (rfl : vwCl[2]? = some (RX2, TX2, 10)) win2 rfl (by decide) (by decide) rfl wm59) ?_
  refine xAll_c (xs_isub C dX2_include_119) ?_
  refine xAll_c (xs_istore_n C dX2_include_120 rfl) ?_
  refine xAll_c (xs_aload_n C dX2_include_121 rfl) ?_
  refine xAll_c (xs_aload_n C dX2_include_122 rfl) ?_
  refine xAll_c (xs_getI C dX2_include_123 (rfl : vwCl[2]? = some (RX2, TX2, 10)) win2 rfl (by decide) (by decide) rfl wm74) ?_
  refine xAll_c (xs_iconst C dX2_include_126 (by decide)) ?_
  refine xAll_c (xs_iload_n C dX2_include_127 rfl) ?_
  refine xAll_c (xs_if_ge C dX2_include_128 (by decide)) ?_
  refine xAll_c (xs_iconst C dX2_include_131 (by decide)) ?_
  refine xAll_c (xs_iload_n C dX2_include_132 rfl) ?_
  refine xAll_c (xs_isub C dX2_include_133) ?_
  refine xAll_c (xs_goto C dX2_include_134 (by decide)) ?_
  refine xAll_c (xs_iload_n C dX2_include_137 rfl) ?_
  refine xAll_c (xs_callNV (host := "CodedColumn") C (m_X8_widthOf l g) dX2_include_138 ⟨(by decide), (by decide), by decide +kernel⟩ (by decide +kernel) wm296 wm1 wm297 ⟨Nat.le_of_ble_eq_true rfl, Nat.le_of_ble_eq_true rfl⟩) ?_
  refine xAll_c (xs_iadd C dX2_include_141) ?_
  refine xAll_c (xs_max C dX2_include_142 wm392 wm315 wm16 wm316 ⟨Nat.le_of_ble_eq_true rfl, Nat.le_of_ble_eq_true rfl⟩) ?_
  refine xAll_c (xs_putI C dX2_include_145 (rfl : vwCl[2]? = some (RX2, TX2, 10)) win2 tyX2_ok nmX2 rfl (by decide) (by decide) rfl rfl (by decide) wm74) ?_
  refine xAll_c (xs_aload_n C dX2_include_148 rfl) ?_
  refine xAll_c (xs_aload_n C dX2_include_149 rfl) ?_
  refine xAll_c (xs_getI C dX2_include_150 (rfl : vwCl[2]? = some (RX2, TX2, 10)) win2 rfl (by decide) (by decide) rfl wm51) ?_
  refine xAll_c (xs_iconst C dX2_include_153 (by decide)) ?_
  refine xAll_c (xs_isub C dX2_include_154) ?_
  refine xAll_c (xs_callNV (host := "CodedColumn") C (m_X8_widthOf l g) dX2_include_155 ⟨(by decide), (by decide), by decide +kernel⟩ (by decide +kernel) wm296 wm1 wm297 ⟨Nat.le_of_ble_eq_true rfl, Nat.le_of_ble_eq_true rfl⟩) ?_
  refine xAll_c (xs_putI C dX2_include_158 (rfl : vwCl[2]? = some (RX2, TX2, 10)) win2 tyX2_ok nmX2 rfl (by decide) (by decide) rfl rfl (by decide) wm70) ?_
  refine xAll_c (xs_aload_n C dX2_include_161 rfl) ?_
  refine xAll_c (xs_aload_n C dX2_include_162 rfl) ?_
  refine xAll_c (xs_getI C dX2_include_163 (rfl : vwCl[2]? = some (RX2, TX2, 10)) win2 rfl (by decide) (by decide) rfl wm64) ?_
  refine xAll_c (xs_aload_n C dX2_include_166 rfl) ?_
  refine xAll_c (xs_getI C dX2_include_167 (rfl : vwCl[2]? = some (RX2, TX2, 10)) win2 rfl (by decide) (by decide) rfl wm60) ?_
  refine xAll_c (xs_isub C dX2_include_170) ?_
  refine xAll_c (xs_callNV (host := "CodedColumn") C (m_X8_widthOf l g) dX2_include_171 ⟨(by decide), (by decide), by decide +kernel⟩ (by decide +kernel) wm296 wm1 wm297 ⟨Nat.le_of_ble_eq_true rfl, Nat.le_of_ble_eq_true rfl⟩) ?_
  refine xAll_c (xs_putI C dX2_include_174 (rfl : vwCl[2]? = some (RX2, TX2, 10)) win2 tyX2_ok nmX2 rfl (by decide) (by decide) rfl rfl (by decide) wm72) ?_
  refine xAll_c (xs_aload_n C dX2_include_177 rfl) ?_
  refine xAll_c (xs_iload_n C dX2_include_178 rfl) ?_
  refine xAll_c (xs_putI C dX2_include_179 (rfl : vwCl[2]? = some (RX2, TX2, 10)) win2 tyX2_ok nmX2 rfl (by decide) (by decide) rfl rfl (by decide) wm59) ?_
  refine xAll_c (xs_aload_n C dX2_include_182 rfl) ?_
  refine xAll_c (xs_dup C dX2_include_183) ?_
  refine xAll_c (xs_getI C dX2_include_184 (rfl : vwCl[2]? = some (RX2, TX2, 10)) win2 rfl (by decide) (by decide) rfl wm55) ?_
  refine xAll_c (xs_iconst C dX2_include_187 (by decide)) ?_
  refine xAll_c (xs_iadd C dX2_include_188) ?_
  refine xAll_c (xs_putI C dX2_include_189 (rfl : vwCl[2]? = some (RX2, TX2, 10)) win2 tyX2_ok nmX2 rfl (by decide) (by decide) rfl rfl (by decide) wm55) ?_
  refine xAll_c (xs_vret C dX2_include_192 rfl) ?_
  exact trivial
noncomputable def k_X0_measureValues : xCode := [(0, oAload 0 1), (1, oGetR 0 3 4), (4, oCallU 2 0 f_X2_start 7), (7, oConst (nI 0) 8), (8, oIstore 3 4 9), (9, oIload 3 10), (10, oIload 2 11), (11, oIf2 (fun x y => decide (y ≤ x)) 43 14), (14, oIload 3 15), (15, oConst (nI 12) 17), (17, oIf2 (fun x y => decide (y ≤ x)) 43 20), (20, oAload 0 21), (21, oGetR 0 3 24), (24, oAload 0 25), (25, oGetR 0 0 28), (28, oIload 1 29), (29, oIload 3 30), (30, oBin (fun x y => x + y) 31), (31, oCallV 5 1 f_X5_get 34), (34, oCallU 2 1 f_X2_include 37), (37, oIinc 3 (nI 1) 4 40), (40, oGoto 9), (43, oAload 0 44), (44, oGetR 0 3 47), (47, oAret)]
noncomputable def f_X0_measureValues : xRun := xrun k_X0_measureValues 4
set_option maxHeartbeats 4000000 in
set_option maxRecDepth 100000 in
theorem m_X0_measureValues (l : Launch) (g : xG) : xMet l g yX0_measureValues cX0_measureValues 4 (some (.object "CodedColumn$PageMeasure")) 2 44 f_X0_measureValues := by
  refine xmet_of (own := RX0) (by decide +kernel) rfl (fun p e s m args below meth c r0 C => ?_)
  refine xAll_c (xs_aload_n C dX0_measureValues_0 rfl) ?_
  refine xAll_c (xs_getR C dX0_measureValues_1 (rfl : vwCl[0]? = some (RX0, TX0, 7)) win0 rfl (by decide) (by decide) rfl wm100) ?_
  refine xAll_c (xs_callU C (m_X2_start l g) dX0_measureValues_4 (rfl : vwCl[2]? = some (RX2, TX2, 10)) (by decide) rfl ⟨(by decide), (by decide), by decide +kernel⟩ wm379 wm380 wm381 wm4 wm382 ⟨Nat.le_of_ble_eq_true rfl, Nat.le_of_ble_eq_true rfl⟩) ?_
  refine xAll_c (xs_iconst C dX0_measureValues_7 (by decide)) ?_
  refine xAll_c (xs_istore_n C dX0_measureValues_8 rfl) ?_
  refine xAll_c (xs_iload_n C dX0_measureValues_9 rfl) ?_
  refine xAll_c (xs_iload_n C dX0_measureValues_10 rfl) ?_
  refine xAll_c (xs_icmp_ge C dX0_measureValues_11 (by decide)) ?_
  refine xAll_c (xs_iload_n C dX0_measureValues_14 rfl) ?_
  refine xAll_c (xs_bipush C dX0_measureValues_15 (by decide)) ?_
  refine xAll_c (xs_icmp_ge C dX0_measureValues_17 (by decide)) ?_
  refine xAll_c (xs_aload_n C dX0_measureValues_20 rfl) ?_
  refine xAll_c (xs_getR C dX0_measureValues_21 (rfl : vwCl[0]? = some (RX0, TX0, 7)) win0 rfl (by decide) (by decide) rfl wm100) ?_
  refine xAll_c (xs_aload_n C dX0_measureValues_24 rfl) ?_
  refine xAll_c (xs_getR C dX0_measureValues_25 (rfl : vwCl[0]? = some (RX0, TX0, 7)) win0 rfl (by decide) (by decide) rfl wm97) ?_
  refine xAll_c (xs_iload_n C dX0_measureValues_28 rfl) ?_
  refine xAll_c (xs_iload_n C dX0_measureValues_29 rfl) ?_
  refine xAll_c (xs_iadd C dX0_measureValues_30) ?_
  refine xAll_c (xs_callV C (m_X5_get l g) dX0_measureValues_31 (rfl : vwCl[5]? = some (RX5, TX5, 1)) (by decide) rfl ⟨(by decide), (by decide), by decide +kernel⟩ wm370 wm280 wm281 wm3 wm282 ⟨Nat.le_of_ble_eq_true rfl, Nat.le_of_ble_eq_true rfl⟩) ?_
  refine xAll_c (xs_callU C (m_X2_include l g) dX0_measureValues_34 (rfl : vwCl[2]? = some (RX2, TX2, 10)) (by decide) rfl ⟨(by decide), (by decide), by decide +kernel⟩ wm383 wm384 wm385 wm4 wm386 ⟨Nat.le_of_ble_eq_true rfl, Nat.le_of_ble_eq_true rfl⟩) ?_
  refine xAll_c (xs_iinc C dX0_measureValues_37 rfl) ?_
  refine xAll_c (xs_goto C dX0_measureValues_40 (by decide)) ?_
  refine xAll_c (xs_aload_n C dX0_measureValues_43 rfl) ?_
  refine xAll_c (xs_getR C dX0_measureValues_44 (rfl : vwCl[0]? = some (RX0, TX0, 7)) win0 rfl (by decide) (by decide) rfl wm100) ?_
  refine xAll_c (xs_aret C dX0_measureValues_47 rfl ⟨_, rfl⟩) ?_
  exact trivial
noncomputable def k_X0_measurePage : xCode := [(0, oAload 0 1), (1, oAload 0 2), (2, oIload 1 3), (3, oCallV 0 1 f_X0_firstOf 6), (6, oAload 0 7), (7, oIload 1 8), (8, oCallV 0 1 f_X0_lengthOf 11), (11, oCallV 0 2 f_X0_measureValues 14), (14, oAret)]
noncomputable def f_X0_measurePage : xRun := xrun k_X0_measurePage 2
set_option maxHeartbeats 4000000 in
set_option maxRecDepth 100000 in
theorem m_X0_measurePage (l : Launch) (g : xG) : xMet l g yX0_measurePage cX0_measurePage 2 (some (.object "CodedColumn$PageMeasure")) 3 67 f_X0_measurePage := by
  refine xmet_of (own := RX0) (by decide +kernel) rfl (fun p e s m args below meth c r0 C => ?_)
  refine xAll_c (xs_aload_n C dX0_measurePage_0 rfl) ?_
  refine xAll_c (xs_aload_n C dX0_measurePage_1 rfl) ?_
  refine xAll_c (xs_iload_n C dX0_measurePage_2 rfl) ?_
  refine xAll_c (xs_callV C (m_X0_firstOf l g) dX0_measurePage_3 (rfl : vwCl[0]? = some (RX0, TX0, 7)) (by decide) rfl ⟨(by decide), (by decide), by decide +kernel⟩ wm371 wm372 wm373 wm2 wm374 ⟨Nat.le_of_ble_eq_true rfl, Nat.le_of_ble_eq_true rfl⟩) ?_
  refine xAll_c (xs_aload_n C dX0_measurePage_6 rfl) ?_
  refine xAll_c (xs_iload_n C dX0_measurePage_7 rfl) ?_
  refine xAll_c (xs_callV C (m_X0_lengthOf l g) dX0_measurePage_8 (rfl : vwCl[0]? = some (RX0, TX0, 7)) (by decide) rfl ⟨(by decide), (by decide), by decide +kernel⟩ wm366 wm367 wm368 wm2 wm369 ⟨Nat.le_of_ble_eq_true rfl, Nat.le_of_ble_eq_true rfl⟩) ?_
  refine xAll_c (xs_callV C (m_X0_measureValues l g) dX0_measurePage_11 (rfl : vwCl[0]? = some (RX0, TX0, 7)) (by decide) rfl ⟨(by decide), (by decide), by decide +kernel⟩ wm375 wm377 wp10 wm2 wm378 ⟨Nat.le_of_ble_eq_true rfl, Nat.le_of_ble_eq_true rfl⟩) ?_
  refine xAll_c (xs_aret C dX0_measurePage_14 rfl ⟨_, rfl⟩) ?_
  exact trivial
noncomputable def k_X2_sizeBy : xCode := [(0, oConst (nI 7) 2), (2, oIstore 2 3 3), (3, oIload 1 4), (4, oTab 1 [36, 58, 68, 85] 104), (36, oIload 2 37), (37, oConst (nI 4) 38), (38, oBin (fun x y => x + y) 39), (39, oConst (nI 10) 41), (41, oAload 0 42), (42, oGetI 2 1 45), (45, oBin (fun x y => x * y) 46), (46, oBin (fun x y => x + y) 47), (47, oAload 0 48), (48, oGetI 2 7 51), (51, oAload 0 52), (52, oGetI 2 2 55), (55, oBin (fun x y => x * y) 56), (56, oBin (fun x y => x + y) 57), (57, oIret), (58, oIload 2 59), (59, oConst (nI 14) 61), (61, oAload 0 62), (62, oGetI 2 6 65), (65, oBin (fun x y => x * y) 66), (66, oBin (fun x y => x + y) 67), (67, oIret), (68, oIload 2 69), (69, oConst (nI 10) 71), (71, oBin (fun x y => x + y) 72), (72, oConst (nI 4) 73), (73, oBin (fun x y => x + y) 74), (74, oAload 0 75), (75, oGetI 2 8 78), (78, oAload 0 79), (79, oGetI 2 2 82), (82, oBin (fun x y => x * y) 83), (83, oBin (fun x y => x + y) 84), (84, oIret), (85, oIload 2 86), (86, oConst (nI 10) 88), (88, oBin (fun x y => x + y) 89), (89, oConst (nI 4) 90), (90, oBin (fun x y => x + y) 91), (91, oAload 0 92), (92, oGetI 2 9 95), (95, oAload 0 96), (96, oGetI 2 2 99), (99, oConst (nI 1) 100), (100, oBin (fun x y => x - y) 101), (101, oBin (fun x y => x * y) 102), (102, oBin (fun x y => x + y) 103), (103, oIret), (104, oIload 2 105), (105, oConst (nI 10) 107), (107, oAload 0 108), (108, oGetI 2 2 111), (111, oBin (fun x y => x * y) 112), (112, oBin (fun x y => x + y) 113), (113, oIret)]
noncomputable def f_X2_sizeBy : xRun := xrun k_X2_sizeBy 3
set_option maxHeartbeats 4000000 in
set_option maxRecDepth 100000 in
theorem m_X2_sizeBy (l : Launch) (g : xG) : xMet l g yX2_sizeBy cX2_sizeBy 3 (some .int) 0 0 f_X2_sizeBy := by
  refine xmet_of (own := RX2) (by decide +kernel) rfl (fun p e s m args below meth c r0 C => ?_)
  refine xAll_c (xs_bipush C dX2_sizeBy_0 (by decide)) ?_
  refine xAll_c (xs_istore_n C dX2_sizeBy_2 rfl) ?_
  refine xAll_c (xs_iload_n C dX2_sizeBy_3 rfl) ?_
  refine xAll_c (xs_tab C dX2_sizeBy_4 (by decide) (by decide) (by decide)) ?_
  refine xAll_c (xs_iload_n C dX2_sizeBy_36 rfl) ?_
  refine xAll_c (xs_iconst C dX2_sizeBy_37 (by decide)) ?_
  refine xAll_c (xs_iadd C dX2_sizeBy_38) ?_
  refine xAll_c (xs_bipush C dX2_sizeBy_39 (by decide)) ?_
  refine xAll_c (xs_aload_n C dX2_sizeBy_41 rfl) ?_
  refine xAll_c (xs_getI C dX2_sizeBy_42 (rfl : vwCl[2]? = some (RX2, TX2, 10)) win2 rfl (by decide) (by decide) rfl wm51) ?_
  refine xAll_c (xs_imul C dX2_sizeBy_45) ?_
  refine xAll_c (xs_iadd C dX2_sizeBy_46) ?_
  refine xAll_c (xs_aload_n C dX2_sizeBy_47 rfl) ?_
  refine xAll_c (xs_getI C dX2_sizeBy_48 (rfl : vwCl[2]? = some (RX2, TX2, 10)) win2 rfl (by decide) (by decide) rfl wm70) ?_
  refine xAll_c (xs_aload_n C dX2_sizeBy_51 rfl) ?_
  refine xAll_c (xs_getI C dX2_sizeBy_52 (rfl : vwCl[2]? = some (RX2, TX2, 10)) win2 rfl (by decide) (by decide) rfl wm55) ?_
  refine xAll_c (xs_imul C dX2_sizeBy_55) ?_
  refine xAll_c (xs_iadd C dX2_sizeBy_56) ?_
  refine xAll_c (xs_iret C dX2_sizeBy_57 rfl) ?_
  refine xAll_c (xs_iload_n C dX2_sizeBy_58 rfl) ?_
  refine xAll_c (xs_bipush C dX2_sizeBy_59 (by decide)) ?_
  refine xAll_c (xs_aload_n C dX2_sizeBy_61 rfl) ?_
  refine xAll_c (xs_getI C dX2_sizeBy_62 (rfl : vwCl[2]? = some (RX2, TX2, 10)) win2 rfl (by decide) (by decide) rfl wm67) ?_
  refine xAll_c (xs_imul C dX2_sizeBy_65) ?_
  refine xAll_c (xs_iadd C dX2_sizeBy_66) ?_
  refine xAll_c (xs_iret C dX2_sizeBy_67 rfl) ?_
  refine xAll_c (xs_iload_n C dX2_sizeBy_68 rfl) ?_
  refine xAll_c (xs_bipush C dX2_sizeBy_69 (by decide)) ?_
  refine xAll_c (xs_iadd C dX2_sizeBy_71) ?_
  refine xAll_c (xs_iconst C dX2_sizeBy_72 (by decide)) ?_
  refine xAll_c (xs_iadd C dX2_sizeBy_73) ?_
  refine xAll_c (xs_aload_n C dX2_sizeBy_74 rfl) ?_
  refine xAll_c (xs_getI C dX2_sizeBy_75 (rfl : vwCl[2]? = some (RX2, TX2, 10)) win2 rfl (by decide) (by decide) rfl wm72) ?_
  refine xAll_c (xs_aload_n C dX2_sizeBy_78 rfl) ?_
  refine xAll_c (xs_getI C dX2_sizeBy_79 (rfl : vwCl[2]? = some (RX2, TX2, 10)) win2 rfl (by decide) (by decide) rfl wm55) ?_
  refine xAll_c (xs_imul C dX2_sizeBy_82) ?_
  refine xAll_c (xs_iadd C dX2_sizeBy_83) ?_
  refine xAll_c (xs_iret C dX2_sizeBy_84 rfl) ?_
  refine xAll_c (xs_iload_n C dX2_sizeBy_85 rfl) ?_
  refine xAll_c (xs_bipush C dX2_sizeBy_86 (by decide)) ?_
  refine xAll_c (xs_iadd C dX2_sizeBy_88) ?_
  refine xAll_c (xs_iconst C dX2_sizeBy_89 (by decide)) ?_
  refine xAll_c (xs_iadd C dX2_sizeBy_90) ?_
  refine xAll_c (xs_aload_n C dX2_sizeBy_91 rfl) ?_
  refine xAll_c (xs_getI C dX2_sizeBy_92 (rfl : vwCl[2]? = some (RX2, TX2, 10)) win2 rfl (by decide) (by decide) rfl wm74) ?_
  refine xAll_c (xs_aload_n C dX2_sizeBy_95 rfl) ?_
  refine xAll_c (xs_getI C dX2_sizeBy_96 (rfl : vwCl[2]? = some (RX2, TX2, 10)) win2 rfl (by decide) (by decide) rfl wm55) ?_
  refine xAll_c (xs_iconst C dX2_sizeBy_99 (by decide)) ?_
  refine xAll_c (xs_isub C dX2_sizeBy_100) ?_
  refine xAll_c (xs_imul C dX2_sizeBy_101) ?_
  refine xAll_c (xs_iadd C dX2_sizeBy_102) ?_
  refine xAll_c (xs_iret C dX2_sizeBy_103 rfl) ?_
  refine xAll_c (xs_iload_n C dX2_sizeBy_104 rfl) ?_
  refine xAll_c (xs_bipush C dX2_sizeBy_105 (by decide)) ?_
  refine xAll_c (xs_aload_n C dX2_sizeBy_107 rfl) ?_
  refine xAll_c (xs_getI C dX2_sizeBy_108 (rfl : vwCl[2]? = some (RX2, TX2, 10)) win2 rfl (by decide) (by decide) rfl wm55) ?_
  refine xAll_c (xs_imul C dX2_sizeBy_111) ?_
  refine xAll_c (xs_iadd C dX2_sizeBy_112) ?_
  refine xAll_c (xs_iret C dX2_sizeBy_113 rfl) ?_
  exact trivial
noncomputable def k_X2_codingWhen : xCode := [(0, oIload 1 1), (1, oConst (-9999) 4), (4, oIf2 (fun x y => decide (x = y)) 9 7), (7, oIload 1 8), (8, oIret), (9, oConst (nI 0) 10), (10, oIstore 2 6 11), (11, oAload 0 12), (12, oConst (nI 0) 13), (13, oCallV 2 1 f_X2_sizeBy 16), (16, oIstore 3 6 17), (17, oConst (nI 1) 18), (18, oIstore 4 6 20), (20, oIload 4 22), (22, oConst (nI 4) 23), (23, oIf2 (fun x y => decide (y < x)) 52 26), (26, oAload 0 27), (27, oIload 4 29), (29, oCallV 2 1 f_X2_sizeBy 32), (32, oIstore 5 6 34), (34, oIload 5 36), (36, oIload 3 37), (37, oIf2 (fun x y => decide (y ≤ x)) 46 40), (40, oIload 4 42), (42, oIstore 2 6 43), (43, oIload 5 45), (45, oIstore 3 6 46), (46, oIinc 4 (nI 1) 6 49), (49, oGoto 20), (52, oIload 2 53), (53, oIret)]
noncomputable def f_X2_codingWhen : xRun := xrun k_X2_codingWhen 6
set_option maxHeartbeats 4000000 in
set_option maxRecDepth 100000 in
theorem m_X2_codingWhen (l : Launch) (g : xG) : xMet l g yX2_codingWhen cX2_codingWhen 6 (some .int) 1 22 f_X2_codingWhen := by
  refine xmet_of (own := RX2) (by decide +kernel) rfl (fun p e s m args below meth c r0 C => ?_)
  refine xAll_c (xs_iload_n C dX2_codingWhen_0 rfl) ?_
  refine xAll_c (xs_sipush C dX2_codingWhen_1 (by decide)) ?_
  refine xAll_c (xs_icmp_eq C dX2_codingWhen_4 (by decide)) ?_
  refine xAll_c (xs_iload_n C dX2_codingWhen_7 rfl) ?_
  refine xAll_c (xs_iret C dX2_codingWhen_8 rfl) ?_
  refine xAll_c (xs_iconst C dX2_codingWhen_9 (by decide)) ?_
  refine xAll_c (xs_istore_n C dX2_codingWhen_10 rfl) ?_
  refine xAll_c (xs_aload_n C dX2_codingWhen_11 rfl) ?_
  refine xAll_c (xs_iconst C dX2_codingWhen_12 (by decide)) ?_
  refine xAll_c (xs_callV C (m_X2_sizeBy l g) dX2_codingWhen_13 (rfl : vwCl[2]? = some (RX2, TX2, 10)) (by decide) rfl ⟨(by decide), (by decide), by decide +kernel⟩ wm406 wm407 wm408 wm4 wm409 ⟨Nat.le_of_ble_eq_true rfl, Nat.le_of_ble_eq_true rfl⟩) ?_
  refine xAll_c (xs_istore_n C dX2_codingWhen_16 rfl) ?_
  refine xAll_c (xs_iconst C dX2_codingWhen_17 (by decide)) ?_
  refine xAll_c (xs_istore C dX2_codingWhen_18) ?_
  refine xAll_c (xs_iload C dX2_codingWhen_20) ?_
  refine xAll_c (xs_iconst C dX2_codingWhen_22 (by decide)) ?_
  refine xAll_c (xs_icmp_gt C dX2_codingWhen_23 (by decide)) ?_
  refine xAll_c (xs_aload_n C dX2_codingWhen_26 rfl) ?_
  refine xAll_c (xs_iload C dX2_codingWhen_27) ?_
  refine xAll_c (xs_callV C (m_X2_sizeBy l g) dX2_codingWhen_29 (rfl : vwCl[2]? = some (RX2, TX2, 10)) (by decide) rfl ⟨(by decide), (by decide), by decide +kernel⟩ wm406 wm407 wm408 wm4 wm409 ⟨Nat.le_of_ble_eq_true rfl, Nat.le_of_ble_eq_true rfl⟩) ?_
  refine xAll_c (xs_istore C dX2_codingWhen_32) ?_
  refine xAll_c (xs_iload C dX2_codingWhen_34) ?_
  refine xAll_c (xs_iload_n C dX2_codingWhen_36 rfl) ?_
  refine xAll_c (xs_icmp_ge C dX2_codingWhen_37 (by decide)) ?_
  refine xAll_c (xs_iload C dX2_codingWhen_40) ?_
  refine xAll_c (xs_istore_n C dX2_codingWhen_42 rfl) ?_
  refine xAll_c (xs_iload C dX2_codingWhen_43) ?_
  refine xAll_c (xs_istore_n C dX2_codingWhen_45 rfl) ?_
  refine xAll_c (xs_iinc C dX2_codingWhen_46 rfl) ?_
  refine xAll_c (xs_goto C dX2_codingWhen_49 (by decide)) ?_
  refine xAll_c (xs_iload_n C dX2_codingWhen_52 rfl) ?_
  refine xAll_c (xs_iret C dX2_codingWhen_53 rfl) ?_
  exact trivial
noncomputable def k_X0_codingOf : xCode := [(0, oAload 0 1), (1, oIload 1 2), (2, oCallV 0 1 f_X0_measurePage 5), (5, oAload 0 6), (6, oIload 1 7), (7, oCallV 0 1 f_X0_pinOf 10), (10, oCallV 2 1 f_X2_codingWhen 13), (13, oIret)]
noncomputable def f_X0_codingOf : xRun := xrun k_X0_codingOf 2
set_option maxHeartbeats 4000000 in
set_option maxRecDepth 100000 in
theorem m_X0_codingOf (l : Launch) (g : xG) : xMet l g yX0_codingOf cX0_codingOf 2 (some .int) 4 88 f_X0_codingOf := by
  refine xmet_of (own := RX0) (by decide +kernel) rfl (fun p e s m args below meth c r0 C => ?_)
  refine xAll_c (xs_aload_n C dX0_codingOf_0 rfl) ?_
  refine xAll_c (xs_iload_n C dX0_codingOf_1 rfl) ?_
  refine xAll_c (xs_callV C (m_X0_measurePage l g) dX0_codingOf_2 (rfl : vwCl[0]? = some (RX0, TX0, 7)) (by decide) rfl ⟨(by decide), (by decide), by decide +kernel⟩ wm706 wm622 wm623 wm2 wm624 ⟨Nat.le_of_ble_eq_true rfl, Nat.le_of_ble_eq_true rfl⟩) ?_
  refine xAll_c (xs_aload_n C dX0_codingOf_5 rfl) ?_
  refine xAll_c (xs_iload_n C dX0_codingOf_6 rfl) ?_
  refine xAll_c (xs_callV C (m_X0_pinOf l g) dX0_codingOf_7 (rfl : vwCl[0]? = some (RX0, TX0, 7)) (by decide) rfl ⟨(by decide), (by decide), by decide +kernel⟩ wm394 wm395 wm396 wm2 wm397 ⟨Nat.le_of_ble_eq_true rfl, Nat.le_of_ble_eq_true rfl⟩) ?_
  refine xAll_c (xs_callV C (m_X2_codingWhen l g) dX0_codingOf_10 (rfl : vwCl[2]? = some (RX2, TX2, 10)) (by decide) rfl ⟨(by decide), (by decide), by decide +kernel⟩ wm711 wm403 wm404 wm4 wm405 ⟨Nat.le_of_ble_eq_true rfl, Nat.le_of_ble_eq_true rfl⟩) ?_
  refine xAll_c (xs_iret C dX0_codingOf_13 rfl) ?_
  exact trivial
noncomputable def k_X2_sizeWhen : xCode := [(0, oAload 0 1), (1, oAload 0 2), (2, oIload 1 3), (3, oCallV 2 1 f_X2_codingWhen 6), (6, oCallV 2 1 f_X2_sizeBy 9), (9, oIret)]
noncomputable def f_X2_sizeWhen : xRun := xrun k_X2_sizeWhen 2
set_option maxHeartbeats 4000000 in
set_option maxRecDepth 100000 in
theorem m_X2_sizeWhen (l : Launch) (g : xG) : xMet l g yX2_sizeWhen cX2_sizeWhen 2 (some .int) 2 47 f_X2_sizeWhen := by
  refine xmet_of (own := RX2) (by decide +kernel) rfl (fun p e s m args below meth c r0 C => ?_)
  refine xAll_c (xs_aload_n C dX2_sizeWhen_0 rfl) ?_
  refine xAll_c (xs_aload_n C dX2_sizeWhen_1 rfl) ?_
  refine xAll_c (xs_iload_n C dX2_sizeWhen_2 rfl) ?_
  refine xAll_c (xs_callV C (m_X2_codingWhen l g) dX2_sizeWhen_3 (rfl : vwCl[2]? = some (RX2, TX2, 10)) (by decide) rfl ⟨(by decide), (by decide), by decide +kernel⟩ wm402 wm403 wm404 wm4 wm405 ⟨Nat.le_of_ble_eq_true rfl, Nat.le_of_ble_eq_true rfl⟩) ?_
  refine xAll_c (xs_callV C (m_X2_sizeBy l g) dX2_sizeWhen_6 (rfl : vwCl[2]? = some (RX2, TX2, 10)) (by decide) rfl ⟨(by decide), (by decide), by decide +kernel⟩ wm406 wm407 wm408 wm4 wm409 ⟨Nat.le_of_ble_eq_true rfl, Nat.le_of_ble_eq_true rfl⟩) ?_
  refine xAll_c (xs_iret C dX2_sizeWhen_9 rfl) ?_
  exact trivial
noncomputable def k_X0_sizeOf : xCode := [(0, oAload 0 1), (1, oIload 1 2), (2, oCallV 0 1 f_X0_measurePage 5), (5, oAload 0 6), (6, oIload 1 7), (7, oCallV 0 1 f_X0_pinOf 10), (10, oCallV 2 1 f_X2_sizeWhen 13), (13, oIret)]
noncomputable def f_X0_sizeOf : xRun := xrun k_X0_sizeOf 2
set_option maxHeartbeats 4000000 in
set_option maxRecDepth 100000 in
theorem m_X0_sizeOf (l : Launch) (g : xG) : xMet l g yX0_sizeOf cX0_sizeOf 2 (some .int) 4 88 f_X0_sizeOf := by
  refine xmet_of (own := RX0) (by decide +kernel) rfl (fun p e s m args below meth c r0 C => ?_)
  refine xAll_c (xs_aload_n C dX0_sizeOf_0 rfl) ?_
  refine xAll_c (xs_iload_n C dX0_sizeOf_1 rfl) ?_
  refine xAll_c (xs_callV C (m_X0_measurePage l g) dX0_sizeOf_2 (rfl : vwCl[0]? = some (RX0, TX0, 7)) (by decide) rfl ⟨(by decide), (by decide), by decide +kernel⟩ wm706 wm622 wm623 wm2 wm624 ⟨Nat.le_of_ble_eq_true rfl, Nat.le_of_ble_eq_true rfl⟩) ?_
  refine xAll_c (xs_aload_n C dX0_sizeOf_5 rfl) ?_
  refine xAll_c (xs_iload_n C dX0_sizeOf_6 rfl) ?_
  refine xAll_c (xs_callV C (m_X0_pinOf l g) dX0_sizeOf_7 (rfl : vwCl[0]? = some (RX0, TX0, 7)) (by decide) rfl ⟨(by decide), (by decide), by decide +kernel⟩ wm394 wm395 wm396 wm2 wm397 ⟨Nat.le_of_ble_eq_true rfl, Nat.le_of_ble_eq_true rfl⟩) ?_
  refine xAll_c (xs_callV C (m_X2_sizeWhen l g) dX0_sizeOf_10 (rfl : vwCl[2]? = some (RX2, TX2, 10)) (by decide) rfl ⟨(by decide), (by decide), by decide +kernel⟩ wm398 wm399 wm400 wm4 wm401 ⟨Nat.le_of_ble_eq_true rfl, Nat.le_of_ble_eq_true rfl⟩) ?_
  refine xAll_c (xs_iret C dX0_sizeOf_13 rfl) ?_
  exact trivial
noncomputable def k_X0_totalSize : xCode := [(0, oConst (nI 0) 1), (1, oIstore 1 4 2), (2, oConst (nI 0) 3), (3, oIstore 2 4 4), (4, oConst (nI 0) 5), (5, oIstore 3 4 6), (6, oIload 3 7), (7, oAload 0 8), (8, oGetI 0 5 11), (11, oIf2 (fun x y => decide (y ≤ x)) 49 14), (14, oIload 1 15), (15, oAload 0 16), (16, oIload 2 17), (17, oAload 0 18), (18, oIload 3 19), (19, oCallV 0 1 f_X0_lengthOf 22), (22, oCallV 0 2 f_X0_measureValues 25), (25, oAload 0 26), (26, oIload 3 27), (27, oCallV 0 1 f_X0_pinOf 30), (30, oCallV 2 1 f_X2_sizeWhen 33), (33, oBin (fun x y => x + y) 34), (34, oIstore 1 4 35), (35, oIload 2 36), (36, oAload 0 37), (37, oIload 3 38), (38, oCallV 0 1 f_X0_lengthOf 41), (41, oBin (fun x y => x + y) 42), (42, oIstore 2 4 43), (43, oIinc 3 (nI 1) 4 46), (46, oGoto 6), (49, oIload 1 50), (50, oIret)]
noncomputable def f_X0_totalSize : xRun := xrun k_X0_totalSize 4
set_option maxHeartbeats 4000000 in
set_option maxRecDepth 100000 in
theorem m_X0_totalSize (l : Launch) (g : xG) : xMet l g yX0_totalSize cX0_totalSize 4 (some .int) 3 68 f_X0_totalSize := by
  refine xmet_of (own := RX0) (by decide +kernel) rfl (fun p e s m args below meth c r0 C => ?_)
  refine xAll_c (xs_iconst C dX0_totalSize_0 (by decide)) ?_
  refine xAll_c (xs_istore_n C dX0_totalSize_1 rfl) ?_
  refine xAll_c (xs_iconst C dX0_totalSize_2 (by decide)) ?_
  refine xAll_c (xs_istore_n C dX0_totalSize_3 rfl) ?_
  refine xAll_c (xs_iconst C dX0_totalSize_4 (by decide)) ?_
  refine xAll_c (xs_istore_n C dX0_totalSize_5 rfl) ?_
  refine xAll_c (xs_iload_n C dX0_totalSize_6 rfl) ?_
  refine xAll_c (xs_aload_n C dX0_totalSize_7 rfl) ?_
  refine xAll_c (xs_getI C dX0_totalSize_8 (rfl : vwCl[0]? = some (RX0, TX0, 7)) win0 rfl (by decide) (by decide) rfl wm103) ?_
  refine xAll_c (xs_icmp_ge C dX0_totalSize_11 (by decide)) ?_
  refine xAll_c (xs_iload_n C dX0_totalSize_14 rfl) ?_
  refine xAll_c (xs_aload_n C dX0_totalSize_15 rfl) ?_
  refine xAll_c (xs_iload_n C dX0_totalSize_16 rfl) ?_
  refine xAll_c (xs_aload_n C dX0_totalSize_17 rfl) ?_
  refine xAll_c (xs_iload_n C dX0_totalSize_18 rfl) ?_
  refine xAll_c (xs_callV C (m_X0_lengthOf l g) dX0_totalSize_19 (rfl : vwCl[0]? = some (RX0, TX0, 7)) (by decide) rfl ⟨(by decide), (by decide), by decide +kernel⟩ wm366 wm367 wm368 wm2 wm369 ⟨Nat.le_of_ble_eq_true rfl, Nat.le_of_ble_eq_true rfl⟩) ?_
  refine xAll_c (xs_callV C (m_X0_measureValues l g) dX0_totalSize_22 (rfl : vwCl[0]? = some (RX0, TX0, 7)) (by decide) rfl ⟨(by decide), (by decide), by decide +kernel⟩ wm375 wm377 wp10 wm2 wm378 ⟨Nat.le_of_ble_eq_true rfl, Nat.le_of_ble_eq_true rfl⟩) ?_
  refine xAll_c (xs_aload_n C dX0_totalSize_25 rfl) ?_
  refine xAll_c (xs_iload_n C dX0_totalSize_26 rfl) ?_
  refine xAll_c (xs_callV C (m_X0_pinOf l g) dX0_totalSize_27 (rfl : vwCl[0]? = some (RX0, TX0, 7)) (by decide) rfl ⟨(by decide), (by decide), by decide +kernel⟩ wm394 wm395 wm396 wm2 wm397 ⟨Nat.le_of_ble_eq_true rfl, Nat.le_of_ble_eq_true rfl⟩) ?_
  refine xAll_c (xs_callV C (m_X2_sizeWhen l g) dX0_totalSize_30 (rfl : vwCl[2]? = some (RX2, TX2, 10)) (by decide) rfl ⟨(by decide), (by decide), by decide +kernel⟩ wm398 wm399 wm400 wm4 wm401 ⟨Nat.le_of_ble_eq_true rfl, Nat.le_of_ble_eq_true rfl⟩) ?_
  refine xAll_c (xs_iadd C dX0_totalSize_33) ?_
  refine xAll_c (xs_istore_n C dX0_totalSize_34 rfl) ?_
  refine xAll_c (xs_iload_n C dX0_totalSize_35 rfl) ?_
  refine xAll_c (xs_aload_n C dX0_totalSize_36 rfl) ?_
  refine xAll_c (xs_iload_n C dX0_totalSize_37 rfl) ?_
  refine xAll_c (xs_callV C (m_X0_lengthOf l g) dX0_totalSize_38 (rfl : vwCl[0]? = some (RX0, TX0, 7)) (by decide) rfl ⟨(by decide), (by decide), by decide +kernel⟩ wm366 wm367 wm368 wm2 wm369 ⟨Nat.le_of_ble_eq_true rfl, Nat.le_of_ble_eq_true rfl⟩) ?_
  refine xAll_c (xs_iadd C dX0_totalSize_41) ?_
  refine xAll_c (xs_istore_n C dX0_totalSize_42 rfl) ?_
  refine xAll_c (xs_iinc C dX0_totalSize_43 rfl) ?_
  refine xAll_c (xs_goto C dX0_totalSize_46 (by decide)) ?_
  refine xAll_c (xs_iload_n C dX0_totalSize_49 rfl) ?_
  refine xAll_c (xs_iret C dX0_totalSize_50 rfl) ?_
  exact trivial
noncomputable def k_J6_bitCount_0f7a4 : xCode := [(0, oIload 0 1), (1, oIload 0 2), (2, oConst (nI 1) 3), (3, oBin (fun x y => (x.toUInt32 >>> (y.toUInt32 &&& Int32.toUInt32 31)).toInt32) 4), (4, oConst (nI 1431655765) 7), (7, oBin (fun x y => x &&& y) 8), (8, oBin (fun x y => x - y) 9), (9, oIstore 0 1 10), (10, oIload 0 11), (11, oConst (nI 858993459) 14), (14, oBin (fun x y => x &&& y) 15), (15, oIload 0 16), (16, oConst (nI 2) 17), (17, oBin (fun x y => (x.toUInt32 >>> (y.toUInt32 &&& Int32.toUInt32 31)).toInt32) 18), (18, oConst (nI 858993459) 21), (21, oBin (fun x y => x &&& y) 22), (22, oBin (fun x y => x + y) 23), (23, oIstore 0 1 24), (24, oIload 0 25), (25, oIload 0 26), (26, oConst (nI 4) 27), (27, oBin (fun x y => (x.toUInt32 >>> (y.toUInt32 &&& Int32.toUInt32 31)).toInt32) 28), (28, oBin (fun x y => x + y) 29), (29, oConst (nI 252645135) 32), (32, oBin (fun x y => x &&& y) 33), (33, oIstore 0 1 34), (34, oIload 0 35), (35, oIload 0 36), (36, oConst (nI 8) 38), (38, oBin (fun x y => (x.toUInt32 >>> (y.toUInt32 &&& Int32.toUInt32 31)).toInt32) 39), (39, oBin (fun x y => x + y) 40), (40, oIstore 0 1 41), (41, oIload 0 42), (42, oIload 0 43), (43, oConst (nI 16) 45), (45, oBin (fun x y => (x.toUInt32 >>> (y.toUInt32 &&& Int32.toUInt32 31)).toInt32) 46), (46, oBin (fun x y => x + y) 47), (47, oIstore 0 1 48), (48, oIload 0 49), (49, oConst (nI 63) 51), (51, oBin (fun x y => x &&& y) 52), (52, oIret)]
noncomputable def f_J6_bitCount_0f7a4 : xRun := xrun k_J6_bitCount_0f7a4 1
set_option maxHeartbeats 4000000 in
set_option maxRecDepth 100000 in
theorem m_J6_bitCount_0f7a4 (l : Launch) (g : xG) : xMet l g yJ6_bitCount_0f7a4 cJ6_bitCount_0f7a4 1 (some .int) 0 0 f_J6_bitCount_0f7a4 := by
  refine xmet_of (own := RJ6) (by decide +kernel) rfl (fun p e s m args below meth c r0 C => ?_)
  refine xAll_c (xs_iload_n C dJ6_bitCount_0f7a4_0 rfl) ?_
  refine xAll_c (xs_iload_n C dJ6_bitCount_0f7a4_1 rfl) ?_
  refine xAll_c (xs_iconst C dJ6_bitCount_0f7a4_2 (by decide)) ?_
  refine xAll_c (xs_iushr C dJ6_bitCount_0f7a4_3) ?_
  refine xAll_c (xs_ldcw C dJ6_bitCount_0f7a4_4 wm981) ?_
  refine xAll_c (xs_iand C dJ6_bitCount_0f7a4_7) ?_
  refine xAll_c (xs_isub C dJ6_bitCount_0f7a4_8) ?_
  refine xAll_c (xs_istore_n C dJ6_bitCount_0f7a4_9 rfl) ?_
  refine xAll_c (xs_iload_n C dJ6_bitCount_0f7a4_10 rfl) ?_
  refine xAll_c (xs_ldcw C dJ6_bitCount_0f7a4_11 wm982) ?_
  refine xAll_c (xs_iand C dJ6_bitCount_0f7a4_14) ?_
  refine xAll_c (xs_iload_n C dJ6_bitCount_0f7a4_15 rfl) ?_
  refine xAll_c (xs_iconst C dJ6_bitCount_0f7a4_16 (by decide)) ?_
  refine xAll_c (xs_iushr C dJ6_bitCount_0f7a4_17) ?_
  refine xAll_c (xs_ldcw C dJ6_bitCount_0f7a4_18 wm982) ?_
  refine xAll_c (xs_iand C dJ6_bitCount_0f7a4_21) ?_
  refine xAll_c (xs_iadd C dJ6_bitCount_0f7a4_22) ?_
  refine xAll_c (xs_istore_n C dJ6_bitCount_0f7a4_23 rfl) ?_
  refine xAll_c (xs_iload_n C dJ6_bitCount_0f7a4_24 rfl) ?_
  refine xAll_c (xs_iload_n C dJ6_bitCount_0f7a4_25 rfl) ?_
  refine xAll_c (xs_iconst C dJ6_bitCount_0f7a4_26 (by decide)) ?_
  refine xAll_c (xs_iushr C dJ6_bitCount_0f7a4_27) ?_
  refine xAll_c (xs_iadd C dJ6_bitCount_0f7a4_28) ?_
  refine xAll_c (xs_ldcw C dJ6_bitCount_0f7a4_29 wm983) ?_
  refine xAll_c (xs_iand C dJ6_bitCount_0f7a4_32) ?_
  refine xAll_c (xs_istore_n C dJ6_bitCount_0f7a4_33 rfl) ?_
  refine xAll_c (xs_iload_n C dJ6_bitCount_0f7a4_34 rfl) ?_
  refine xAll_c (xs_iload_n C dJ6_bitCount_0f7a4_35 rfl) ?_
  refine xAll_c (xs_bipush C dJ6_bitCount_0f7a4_36 (by decide)) ?_
  refine xAll_c (xs_iushr C dJ6_bitCount_0f7a4_38) ?_
  refine xAll_c (xs_iadd C dJ6_bitCount_0f7a4_39) ?_
  refine xAll_c (xs_istore_n C dJ6_bitCount_0f7a4_40 rfl) ?_
  refine xAll_c (xs_iload_n C dJ6_bitCount_0f7a4_41 rfl) ?_
  refine xAll_c (xs_iload_n C dJ6_bitCount_0f7a4_42 rfl) ?_
  refine xAll_c (xs_bipush C dJ6_bitCount_0f7a4_43 (by decide)) ?_
  refine xAll_c (xs_iushr C dJ6_bitCount_0f7a4_45) ?_
  refine xAll_c (xs_iadd C dJ6_bitCount_0f7a4_46) ?_
  refine xAll_c (xs_istore_n C dJ6_bitCount_0f7a4_47 rfl) ?_
  refine xAll_c (xs_iload_n C dJ6_bitCount_0f7a4_48 rfl) ?_
  refine xAll_c (xs_bipush C dJ6_bitCount_0f7a4_49 (by decide)) ?_
  refine xAll_c (xs_iand C dJ6_bitCount_0f7a4_51) ?_
  refine xAll_c (xs_iret C dJ6_bitCount_0f7a4_52 rfl) ?_
  exact trivial
noncomputable def k_X0_differentCodings : xCode := [(0, oConst (nI 0) 1), (1, oIstore 1 3 2), (2, oConst (nI 0) 3), (3, oIstore 2 3 4), (4, oIload 2 5), (5, oAload 0 6), (6, oGetI 0 5 9), (9, oIf2 (fun x y => decide (y ≤ x)) 28 12), (12, oIload 1 13), (13, oConst (nI 1) 14), (14, oAload 0 15), (15, oIload 2 16), (16, oCallV 0 1 f_X0_codingOf 19), (19, oBin (fun x y => x <<< (y &&& 31)) 20), (20, oBin (fun x y => x ||| y) 21), (21, oIstore 1 3 22), (22, oIinc 2 (nI 1) 3 25), (25, oGoto 4), (28, oIload 1 29), (29, oCallSV 1 f_J6_bitCount_0f7a4 32), (32, oIret)]
noncomputable def f_X0_differentCodings : xRun := xrun k_X0_differentCodings 3
set_option maxHeartbeats 4000000 in
set_option maxRecDepth 100000 in
theorem m_X0_differentCodings (l : Launch) (g : xG) : xMet l g yX0_differentCodings cX0_differentCodings 3 (some .int) 5 109 f_X0_differentCodings := by
  refine xmet_of (own := RX0) (by decide +kernel) rfl (fun p e s m args below meth c r0 C => ?_)
  refine xAll_c (xs_iconst C dX0_differentCodings_0 (by decide)) ?_
  refine xAll_c (xs_istore_n C dX0_differentCodings_1 rfl) ?_
  refine xAll_c (xs_iconst C dX0_differentCodings_2 (by decide)) ?_
  refine xAll_c (xs_istore_n C dX0_differentCodings_3 rfl) ?_
  refine xAll_c (xs_iload_n C dX0_differentCodings_4 rfl) ?_
  refine xAll_c (xs_aload_n C dX0_differentCodings_5 rfl) ?_
  refine xAll_c (xs_getI C dX0_differentCodings_6 (rfl : vwCl[0]? = some (RX0, TX0, 7)) win0 rfl (by decide) (by decide) rfl wm103) ?_
  refine xAll_c (xs_icmp_ge C dX0_differentCodings_9 (by decide)) ?_
  refine xAll_c (xs_iload_n C dX0_differentCodings_12 rfl) ?_
  refine xAll_c (xs_iconst C dX0_differentCodings_13 (by decide)) ?_
  refine xAll_c (xs_aload_n C dX0_differentCodings_14 rfl) ?_
  refine xAll_c (xs_iload_n C dX0_differentCodings_15 rfl) ?_
  refine xAll_c (xs_callV C (m_X0_codingOf l g) dX0_differentCodings_16 (rfl : vwCl[0]? = some (RX0, TX0, 7)) (by decide) rfl ⟨(by decide), (by decide), by decide +kernel⟩ wm977 wm845 wm846 wm2 wm847 ⟨Nat.le_of_ble_eq_true rfl, Nat.le_of_ble_eq_true rfl⟩) ?_
  refine xAll_c (xs_ishl C dX0_differentCodings_19) ?_
  refine xAll_c (xs_ior C dX0_differentCodings_20) ?_
  refine xAll_c (xs_istore_n C dX0_differentCodings_21 rfl) ?_
  refine xAll_c (xs_iinc C dX0_differentCodings_22 rfl) ?_
  refine xAll_c (xs_goto C dX0_differentCodings_25 (by decide)) ?_
  refine xAll_c (xs_iload_n C dX0_differentCodings_28 rfl) ?_
  refine xAll_c (xs_callOV C (m_J6_bitCount_0f7a4 l g) dX0_differentCodings_29 ⟨(by decide), (by decide), by decide +kernel⟩ wm978 wm979 wm18 wm980 ⟨Nat.le_of_ble_eq_true rfl, Nat.le_of_ble_eq_true rfl⟩) ?_
  refine xAll_c (xs_iret C dX0_differentCodings_32 rfl) ?_
  exact trivial
noncomputable def k_X0_searchCost : xCode := [(0, oAload 1 1), (1, oIload 2 2), (2, oCallV 2 1 f_X2_codingWhen 5), (5, oLkp [(1, 32), (2, 64)] 69), (32, oAload 1 33), (33, oIload 3 34), (34, oCallV 2 1 f_X2_numberOfWord 37), (37, oIstore 4 5 39), (39, oIload 4 41), (41, oConst (-9999) 44), (44, oIf2 (fun x y => !(decide (x = y))) 54 47), (47, oAload 1 48), (48, oGetI 2 1 51), (51, oGoto 63), (54, oIload 4 56), (56, oConst (nI 1) 57), (57, oBin (fun x y => x + y) 58), (58, oAload 1 59), (59, oGetI 2 2 62), (62, oBin (fun x y => x + y) 63), (63, oIret), (64, oAload 1 65), (65, oGetI 2 6 68), (68, oIret), (69, oAload 1 70), (70, oGetI 2 2 73), (73, oIret)]
noncomputable def f_X0_searchCost : xRun := xrun k_X0_searchCost 5
set_option maxHeartbeats 4000000 in
set_option maxRecDepth 100000 in
theorem m_X0_searchCost (l : Launch) (g : xG) : xMet l g yX0_searchCost cX0_searchCost 5 (some .int) 2 47 f_X0_searchCost := by
  refine xmet_of (own := RX0) (by decide +kernel) rfl (fun p e s m args below meth c r0 C => ?_)
  refine xAll_c (xs_aload_n C dX0_searchCost_0 rfl) ?_
  refine xAll_c (xs_iload_n C dX0_searchCost_1 rfl) ?_
  refine xAll_c (xs_callV C (m_X2_codingWhen l g) dX0_searchCost_2 (rfl : vwCl[2]? = some (RX2, TX2, 10)) (by decide) rfl ⟨(by decide), (by decide), by decide +kernel⟩ wm711 wm403 wm404 wm4 wm405 ⟨Nat.le_of_ble_eq_true rfl, Nat.le_of_ble_eq_true rfl⟩) ?_
  refine xAll_c (xs_lkp C dX0_searchCost_5 (by decide) (by decide) (by decide)) ?_
  refine xAll_c (xs_aload_n C dX0_searchCost_32 rfl) ?_
  refine xAll_c (xs_iload_n C dX0_searchCost_33 rfl) ?_
  refine xAll_c (xs_callV C (m_X2_numberOfWord l g) dX0_searchCost_34 (rfl : vwCl[2]? = some (RX2, TX2, 10)) (by decide) rfl ⟨(by decide), (by decide), by decide +kernel⟩ wm712 wm388 wm389 wm4 wm390 ⟨Nat.le_of_ble_eq_true rfl, Nat.le_of_ble_eq_true rfl⟩) ?_
  refine xAll_c (xs_istore C dX0_searchCost_37) ?_
  refine xAll_c (xs_iload C dX0_searchCost_39) ?_
  refine xAll_c (xs_sipush C dX0_searchCost_41 (by decide)) ?_
  refine xAll_c (xs_icmp_ne C dX0_searchCost_44 (by decide)) ?_
  refine xAll_c (xs_aload_n C dX0_searchCost_47 rfl) ?_
  refine xAll_c (xs_getIN (host := "CodedColumn") C dX0_searchCost_48 (rfl : vwCl[2]? = some (RX2, TX2, 10)) win2 rfl (by decide) (by decide) rfl (by decide +kernel)) ?_
  refine xAll_c (xs_goto C dX0_searchCost_51 (by decide)) ?_
  refine xAll_c (xs_iload C dX0_searchCost_54) ?_
  refine xAll_c (xs_iconst C dX0_searchCost_56 (by decide)) ?_
  refine xAll_c (xs_iadd C dX0_searchCost_57) ?_
  refine xAll_c (xs_aload_n C dX0_searchCost_58 rfl) ?_
  refine xAll_c (xs_getIN (host := "CodedColumn") C dX0_searchCost_59 (rfl : vwCl[2]? = some (RX2, TX2, 10)) win2 rfl (by decide) (by decide) rfl (by decide +kernel)) ?_
  refine xAll_c (xs_iadd C dX0_searchCost_62) ?_
  refine xAll_c (xs_iret C dX0_searchCost_63 rfl) ?_
  refine xAll_c (xs_aload_n C dX0_searchCost_64 rfl) ?_
  refine xAll_c (xs_getIN (host := "CodedColumn") C dX0_searchCost_65 (rfl : vwCl[2]? = some (RX2, TX2, 10)) win2 rfl (by decide) (by decide) rfl (by decide +kernel)) ?_
  refine xAll_c (xs_iret C dX0_searchCost_68 rfl) ?_
  refine xAll_c (xs_aload_n C dX0_searchCost_69 rfl) ?_
  refine xAll_c (xs_getIN (host := "CodedColumn") C dX0_searchCost_70 (rfl : vwCl[2]? = some (RX2, TX2, 10)) win2 rfl (by decide) (by decide) rfl (by decide +kernel)) ?_
  refine xAll_c (xs_iret C dX0_searchCost_73 rfl) ?_
  exact trivial
noncomputable def k_X0_scanCost : xCode := [(0, oConst (nI 0) 1), (1, oIstore 2 5 2), (2, oConst (nI 0) 3), (3, oIstore 3 5 4), (4, oIload 3 5), (5, oAload 0 6), (6, oGetI 0 5 9), (9, oIf2 (fun x y => decide (y ≤ x)) 61 12), (12, oAload 0 13), (13, oIload 3 14), (14, oCallV 0 1 f_X0_measurePage 17), (17, oAstore 4 5 19), (19, oIinc 2 (nI 1) 5 22), (22, oIload 1 23), (23, oAload 4 25), (25, oGetI 2 4 28), (28, oIf2 (fun x y => decide (x < y)) 55 31), (31, oIload 1 32), (32, oAload 4 34), (34, oGetI 2 5 37), (37, oIf2 (fun x y => decide (y < x)) 55 40), (40, oIload 2 41), (41, oAload 0 42), (42, oAload 4 44), (44, oAload 0 45), (45, oIload 3 46), (46, oCallV 0 1 f_X0_pinOf 49), (49, oIload 1 50), (50, oCallV 0 3 f_X0_searchCost 53), (53, oBin (fun x y => x + y) 54), (54, oIstore 2 5 55), (55, oIinc 3 (nI 1) 5 58), (58, oGoto 4), (61, oIload 2 62), (62, oIret)]
noncomputable def f_X0_scanCost : xRun := xrun k_X0_scanCost 5
set_option maxHeartbeats 4000000 in
set_option maxRecDepth 100000 in
theorem m_X0_scanCost (l : Launch) (g : xG) : xMet l g yX0_scanCost cX0_scanCost 5 (some .int) 4 88 f_X0_scanCost := by
  refine xmet_of (own := RX0) (by decide +kernel) rfl (fun p e s m args below meth c r0 C => ?_)
  refine xAll_c (xs_iconst C dX0_scanCost_0 (by decide)) ?_
  refine xAll_c (xs_istore_n C dX0_scanCost_1 rfl) ?_
  refine xAll_c (xs_iconst C dX0_scanCost_2 (by decide)) ?_
  refine xAll_c (xs_istore_n C dX0_scanCost_3 rfl) ?_
  refine xAll_c (xs_iload_n C dX0_scanCost_4 rfl) ?_
  refine xAll_c (xs_aload_n C dX0_scanCost_5 rfl) ?_
  refine xAll_c (xs_getI C dX0_scanCost_6 (rfl : vwCl[0]? = some (RX0, TX0, 7)) win0 rfl (by decide) (by decide) rfl wm103) ?_
  refine xAll_c (xs_icmp_ge C dX0_scanCost_9 (by decide)) ?_
  refine xAll_c (xs_aload_n C dX0_scanCost_12 rfl) ?_
  refine xAll_c (xs_iload_n C dX0_scanCost_13 rfl) ?_
  refine xAll_c (xs_callV C (m_X0_measurePage l g) dX0_scanCost_14 (rfl : vwCl[0]? = some (RX0, TX0, 7)) (by decide) rfl ⟨(by decide), (by decide), by decide +kernel⟩ wm706 wm622 wm623 wm2 wm624 ⟨Nat.le_of_ble_eq_true rfl, Nat.le_of_ble_eq_true rfl⟩) ?_
  refine xAll_c (xs_astore C dX0_scanCost_17) ?_
  refine xAll_c (xs_iinc C dX0_scanCost_19 rfl) ?_
  refine xAll_c (xs_iload_n C dX0_scanCost_22 rfl) ?_
  refine xAll_c (xs_aload C dX0_scanCost_23) ?_
  refine xAll_c (xs_getIN (host := "CodedColumn") C dX0_scanCost_25 (rfl : vwCl[2]? = some (RX2, TX2, 10)) win2 rfl (by decide) (by decide) rfl (by decide +kernel)) ?_
  refine xAll_c (xs_icmp_lt C dX0_scanCost_28 (by decide)) ?_
  refine xAll_c (xs_iload_n C dX0_scanCost_31 rfl) ?_
  refine xAll_c (xs_aload C dX0_scanCost_32) ?_
  refine xAll_c (xs_getIN (host := "CodedColumn") C dX0_scanCost_34 (rfl : vwCl[2]? = some (RX2, TX2, 10)) win2 rfl (by decide) (by decide) rfl (by decide +kernel)) ?_
  refine xAll_c (xs_icmp_gt C dX0_scanCost_37 (by decide)) ?_
  refine xAll_c (xs_iload_n C dX0_scanCost_40 rfl) ?_
  refine xAll_c (xs_aload_n C dX0_scanCost_41 rfl) ?_
  refine xAll_c (xs_aload C dX0_scanCost_42) ?_
  refine xAll_c (xs_aload_n C dX0_scanCost_44 rfl) ?_
  refine xAll_c (xs_iload_n C dX0_scanCost_45 rfl) ?_
  refine xAll_c (xs_callV C (m_X0_pinOf l g) dX0_scanCost_46 (rfl : vwCl[0]? = some (RX0, TX0, 7)) (by decide) rfl ⟨(by decide), (by decide), by decide +kernel⟩ wm394 wm395 wm396 wm2 wm397 ⟨Nat.le_of_ble_eq_true rfl, Nat.le_of_ble_eq_true rfl⟩) ?_
  refine xAll_c (xs_iload_n C dX0_scanCost_49 rfl) ?_
  refine xAll_c (xs_callV C (m_X0_searchCost l g) dX0_scanCost_50 (rfl : vwCl[0]? = some (RX0, TX0, 7)) (by decide) rfl ⟨(by decide), (by decide), by decide +kernel⟩ wm707 wm709 wp21 wm2 wm710 ⟨Nat.le_of_ble_eq_true rfl, Nat.le_of_ble_eq_true rfl⟩) ?_
  refine xAll_c (xs_iadd C dX0_scanCost_53) ?_
  refine xAll_c (xs_istore_n C dX0_scanCost_54 rfl) ?_
  refine xAll_c (xs_iinc C dX0_scanCost_55 rfl) ?_
  refine xAll_c (xs_goto C dX0_scanCost_58 (by decide)) ?_
  refine xAll_c (xs_iload_n C dX0_scanCost_61 rfl) ?_
  refine xAll_c (xs_iret C dX0_scanCost_62 rfl) ?_
  exact trivial
noncomputable def k_X0_sizeOfParts : xCode := [(0, oAload 0 1), (1, oIload 1 2), (2, oCallV 0 1 f_X0_firstOf 5), (5, oIstore 3 4 6), (6, oAload 0 7), (7, oIload 3 8), (8, oIload 2 9), (9, oCallV 0 2 f_X0_measureValues 12), (12, oAload 0 13), (13, oIload 1 14), (14, oCallV 0 1 f_X0_pinOf 17), (17, oCallV 2 1 f_X2_sizeWhen 20), (20, oAload 0 21), (21, oIload 3 22), (22, oIload 2 23), (23, oBin (fun x y => x + y) 24), (24, oAload 0 25), (25, oIload 1 26), (26, oCallV 0 1 f_X0_lengthOf 29), (29, oIload 2 30), (30, oBin (fun x y => x - y) 31), (31, oCallV 0 2 f_X0_measureValues 34), (34, oAload 0 35), (35, oIload 1 36), (36, oCallV 0 1 f_X0_pinOf 39), (39, oCallV 2 1 f_X2_sizeWhen 42), (42, oBin (fun x y => x + y) 43), (43, oIret)]
noncomputable def f_X0_sizeOfParts : xRun := xrun k_X0_sizeOfParts 4
set_option maxHeartbeats 4000000 in
set_option maxRecDepth 100000 in
theorem m_X0_sizeOfParts (l : Launch) (g : xG) : xMet l g yX0_sizeOfParts cX0_sizeOfParts 4 (some .int) 3 68 f_X0_sizeOfParts := by
  refine xmet_of (own := RX0) (by decide +kernel) rfl (fun p e s m args below meth c r0 C => ?_)
  refine xAll_c (xs_aload_n C dX0_sizeOfParts_0 rfl) ?_
  refine xAll_c (xs_iload_n C dX0_sizeOfParts_1 rfl) ?_
  refine xAll_c (xs_callV C (m_X0_firstOf l g) dX0_sizeOfParts_2 (rfl : vwCl[0]? = some (RX0, TX0, 7)) (by decide) rfl ⟨(by decide), (by decide), by decide +kernel⟩ wm371 wm372 wm373 wm2 wm374 ⟨Nat.le_of_ble_eq_true rfl, Nat.le_of_ble_eq_true rfl⟩) ?_
  refine xAll_c (xs_istore_n C dX0_sizeOfParts_5 rfl) ?_
  refine xAll_c (xs_aload_n C dX0_sizeOfParts_6 rfl) ?_
  refine xAll_c (xs_iload_n C dX0_sizeOfParts_7 rfl) ?_
  refine xAll_c (xs_iload_n C dX0_sizeOfParts_8 rfl) ?_
  refine xAll_c (xs_callV C (m_X0_measureValues l g) dX0_sizeOfParts_9 (rfl : vwCl[0]? = some (RX0, TX0, 7)) (by decide) rfl ⟨(by decide), (by decide), by decide +kernel⟩ wm375 wm377 wp10 wm2 wm378 ⟨Nat.le_of_ble_eq_true rfl, Nat.le_of_ble_eq_true rfl⟩) ?_
  refine xAll_c (xs_aload_n C dX0_sizeOfParts_12 rfl) ?_
  refine xAll_c (xs_iload_n C dX0_sizeOfParts_13 rfl) ?_
  refine xAll_c (xs_callV C (m_X0_pinOf l g) dX0_sizeOfParts_14 (rfl : vwCl[0]? = some (RX0, TX0, 7)) (by decide) rfl ⟨(by decide), (by decide), by decide +kernel⟩ wm394 wm395 wm396 wm2 wm397 ⟨Nat.le_of_ble_eq_true rfl, Nat.le_of_ble_eq_true rfl⟩) ?_
  refine xAll_c (xs_callV C (m_X2_sizeWhen l g) dX0_sizeOfParts_17 (rfl : vwCl[2]? = some (RX2, TX2, 10)) (by decide) rfl ⟨(by decide), (by decide), by decide +kernel⟩ wm398 wm399 wm400 wm4 wm401 ⟨Nat.le_of_ble_eq_true rfl, Nat.le_of_ble_eq_true rfl⟩) ?_
  refine xAll_c (xs_aload_n C dX0_sizeOfParts_20 rfl) ?_
  refine xAll_c (xs_iload_n C dX0_sizeOfParts_21 rfl) ?_
  refine xAll_c (xs_iload_n C dX0_sizeOfParts_22 rfl) ?_
  refine xAll_c (xs_iadd C dX0_sizeOfParts_23) ?_
  refine xAll_c (xs_aload_n C dX0_sizeOfParts_24 rfl) ?_
  refine xAll_c (xs_iload_n C dX0_sizeOfParts_25 rfl) ?_
  refine xAll_c (xs_callV C (m_X0_lengthOf l g) dX0_sizeOfParts_26 (rfl : vwCl[0]? = some (RX0, TX0, 7)) (by decide) rfl ⟨(by decide), (by decide), by decide +kernel⟩ wm366 wm367 wm368 wm2 wm369 ⟨Nat.le_of_ble_eq_true rfl, Nat.le_of_ble_eq_true rfl⟩) ?_
  refine xAll_c (xs_iload_n C dX0_sizeOfParts_29 rfl) ?_
  refine xAll_c (xs_isub C dX0_sizeOfParts_30) ?_
  refine xAll_c (xs_callV C (m_X0_measureValues l g) dX0_sizeOfParts_31 (rfl : vwCl[0]? = some (RX0, TX0, 7)) (by decide) rfl ⟨(by decide), (by decide), by decide +kernel⟩ wm375 wm377 wp10 wm2 wm378 ⟨Nat.le_of_ble_eq_true rfl, Nat.le_of_ble_eq_true rfl⟩) ?_
  refine xAll_c (xs_aload_n C dX0_sizeOfParts_34 rfl) ?_
  refine xAll_c (xs_iload_n C dX0_sizeOfParts_35 rfl) ?_
  refine xAll_c (xs_callV C (m_X0_pinOf l g) dX0_sizeOfParts_36 (rfl : vwCl[0]? = some (RX0, TX0, 7)) (by decide) rfl ⟨(by decide), (by decide), by decide +kernel⟩ wm394 wm395 wm396 wm2 wm397 ⟨Nat.le_of_ble_eq_true rfl, Nat.le_of_ble_eq_true rfl⟩) ?_
  refine xAll_c (xs_callV C (m_X2_sizeWhen l g) dX0_sizeOfParts_39 (rfl : vwCl[2]? = some (RX2, TX2, 10)) (by decide) rfl ⟨(by decide), (by decide), by decide +kernel⟩ wm398 wm399 wm400 wm4 wm401 ⟨Nat.le_of_ble_eq_true rfl, Nat.le_of_ble_eq_true rfl⟩) ?_
  refine xAll_c (xs_iadd C dX0_sizeOfParts_42) ?_
  refine xAll_c (xs_iret C dX0_sizeOfParts_43 rfl) ?_
  exact trivial
noncomputable def k_X0_canJoin : xCode := [(0, oAload 0 1), (1, oIload 1 2), (2, oCallV 0 1 f_X0_hasNext 5), (5, oIf1 (fun x => decide (x = 0)) 30 8), (8, oAload 0 9), (9, oIload 1 10), (10, oCallV 0 1 f_X0_lengthOf 13), (13, oAload 0 14), (14, oIload 1 15), (15, oConst (nI 1) 16), (16, oBin (fun x y => x + y) 17), (17, oCallV 0 1 f_X0_lengthOf 20), (20, oBin (fun x y => x + y) 21), (21, oConst (nI 12) 23), (23, oIf2 (fun x y => decide (y < x)) 30 26), (26, oConst (nI 1) 27), (27, oGoto 31), (30, oConst (nI 0) 31), (31, oZret)]
noncomputable def f_X0_canJoin : xRun := xrun k_X0_canJoin 2
set_option maxHeartbeats 4000000 in
set_option maxRecDepth 100000 in
theorem m_X0_canJoin (l : Launch) (g : xG) : xMet l g yX0_canJoin cX0_canJoin 2 (some .boolean) 2 42 f_X0_canJoin := by
  refine xmet_of (own := RX0) (by decide +kernel) rfl (fun p e s m args below meth c r0 C => ?_)
  refine xAll_c (xs_aload_n C dX0_canJoin_0 rfl) ?_
  refine xAll_c (xs_iload_n C dX0_canJoin_1 rfl) ?_
  refine xAll_c (xs_callV C (m_X0_hasNext l g) dX0_canJoin_2 (rfl : vwCl[0]? = some (RX0, TX0, 7)) (by decide) rfl ⟨(by decide), (by decide), by decide +kernel⟩ wm362 wm363 wm364 wm2 wm365 ⟨Nat.le_of_ble_eq_true rfl, Nat.le_of_ble_eq_true rfl⟩) ?_
  refine xAll_c (xs_if_eq C dX0_canJoin_5 (by decide)) ?_
  refine xAll_c (xs_aload_n C dX0_canJoin_8 rfl) ?_
  refine xAll_c (xs_iload_n C dX0_canJoin_9 rfl) ?_
  refine xAll_c (xs_callV C (m_X0_lengthOf l g) dX0_canJoin_10 (rfl : vwCl[0]? = some (RX0, TX0, 7)) (by decide) rfl ⟨(by decide), (by decide), by decide +kernel⟩ wm366 wm367 wm368 wm2 wm369 ⟨Nat.le_of_ble_eq_true rfl, Nat.le_of_ble_eq_true rfl⟩) ?_
  refine xAll_c (xs_aload_n C dX0_canJoin_13 rfl) ?_
  refine xAll_c (xs_iload_n C dX0_canJoin_14 rfl) ?_
  refine xAll_c (xs_iconst C dX0_canJoin_15 (by decide)) ?_
  refine xAll_c (xs_iadd C dX0_canJoin_16) ?_
  refine xAll_c (xs_callV C (m_X0_lengthOf l g) dX0_canJoin_17 (rfl : vwCl[0]? = some (RX0, TX0, 7)) (by decide) rfl ⟨(by decide), (by decide), by decide +kernel⟩ wm366 wm367 wm368 wm2 wm369 ⟨Nat.le_of_ble_eq_true rfl, Nat.le_of_ble_eq_true rfl⟩) ?_
  refine xAll_c (xs_iadd C dX0_canJoin_20) ?_
  refine xAll_c (xs_bipush C dX0_canJoin_21 (by decide)) ?_
  refine xAll_c (xs_icmp_gt C dX0_canJoin_23 (by decide)) ?_
  refine xAll_c (xs_iconst C dX0_canJoin_26 (by decide)) ?_
  refine xAll_c (xs_goto C dX0_canJoin_27 (by decide)) ?_
  refine xAll_c (xs_iconst C dX0_canJoin_30 (by decide)) ?_
  refine xAll_c (xs_zret C dX0_canJoin_31 rfl) ?_
  exact trivial
noncomputable def k_X0_joinedPin : xCode := [(0, oAload 0 1), (1, oIload 1 2), (2, oCallV 0 1 f_X0_pinOf 5), (5, oAload 0 6), (6, oIload 1 7), (7, oConst (nI 1) 8), (8, oBin (fun x y => x + y) 9), (9, oCallV 0 1 f_X0_pinOf 12), (12, oIf2 (fun x y => !(decide (x = y))) 23 15), (15, oAload 0 16), (16, oIload 1 17), (17, oCallV 0 1 f_X0_pinOf 20), (20, oGoto 26), (23, oConst (-9999) 26), (26, oIret)]
noncomputable def f_X0_joinedPin : xRun := xrun k_X0_joinedPin 2
set_option maxHeartbeats 4000000 in
set_option maxRecDepth 100000 in
theorem m_X0_joinedPin (l : Launch) (g : xG) : xMet l g yX0_joinedPin cX0_joinedPin 2 (some .int) 2 42 f_X0_joinedPin := by
  refine xmet_of (own := RX0) (by decide +kernel) rfl (fun p e s m args below meth c r0 C => ?_)
  refine xAll_c (xs_aload_n C dX0_joinedPin_0 rfl) ?_
  refine xAll_c (xs_iload_n C dX0_joinedPin_1 rfl) ?_
  refine xAll_c (xs_callV C (m_X0_pinOf l g) dX0_joinedPin_2 (rfl : vwCl[0]? = some (RX0, TX0, 7)) (by decide) rfl ⟨(by decide), (by decide), by decide +kernel⟩ wm394 wm395 wm396 wm2 wm397 ⟨Nat.le_of_ble_eq_true rfl, Nat.le_of_ble_eq_true rfl⟩) ?_
  refine xAll_c (xs_aload_n C dX0_joinedPin_5 rfl) ?_
  refine xAll_c (xs_iload_n C dX0_joinedPin_6 rfl) ?_
  refine xAll_c (xs_iconst C dX0_joinedPin_7 (by decide)) ?_
  refine xAll_c (xs_iadd C dX0_joinedPin_8) ?_
  refine xAll_c (xs_callV C (m_X0_pinOf l g) dX0_joinedPin_9 (rfl : vwCl[0]? = some (RX0, TX0, 7)) (by decide) rfl ⟨(by decide), (by decide), by decide +kernel⟩ wm394 wm395 wm396 wm2 wm397 ⟨Nat.le_of_ble_eq_true rfl, Nat.le_of_ble_eq_true rfl⟩) ?_
  refine xAll_c (xs_icmp_ne C dX0_joinedPin_12 (by decide)) ?_
  refine xAll_c (xs_aload_n C dX0_joinedPin_15 rfl) ?_
  refine xAll_c (xs_iload_n C dX0_joinedPin_16 rfl) ?_
  refine xAll_c (xs_callV C (m_X0_pinOf l g) dX0_joinedPin_17 (rfl : vwCl[0]? = some (RX0, TX0, 7)) (by decide) rfl ⟨(by decide), (by decide), by decide +kernel⟩ wm394 wm395 wm396 wm2 wm397 ⟨Nat.le_of_ble_eq_true rfl, Nat.le_of_ble_eq_true rfl⟩) ?_
  refine xAll_c (xs_goto C dX0_joinedPin_20 (by decide)) ?_
  refine xAll_c (xs_sipush C dX0_joinedPin_23 (by decide)) ?_
  refine xAll_c (xs_iret C dX0_joinedPin_26 rfl) ?_
  exact trivial
noncomputable def k_X0_savedByJoin : xCode := [(0, oAload 0 1), (1, oIload 1 2), (2, oCallV 0 1 f_X0_canJoin 5), (5, oIf1 (fun x => !(decide (x = 0))) 12 8), (8, oConst (-9999) 11), (11, oIret), (12, oAload 0 13), (13, oIload 1 14), (14, oCallV 0 1 f_X0_firstOf 17), (17, oIstore 2 5 18), (18, oAload 0 19), (19, oIload 1 20), (20, oCallV 0 1 f_X0_lengthOf 23), (23, oIstore 3 5 24), (24, oAload 0 25), (25, oIload 1 26), (26, oConst (nI 1) 27), (27, oBin (fun x y => x + y) 28), (28, oCallV 0 1 f_X0_lengthOf 31), (31, oIstore 4 5 33), (33, oAload 0 34), (34, oIload 2 35), (35, oIload 3 36), (36, oCallV 0 2 f_X0_measureValues 39), (39, oAload 0 40), (40, oIload 1 41), (41, oCallV 0 1 f_X0_pinOf 44), (44, oCallV 2 1 f_X2_sizeWhen 47), (47, oAload 0 48), (48, oIload 2 49), (49, oIload 3 50), (50, oBin (fun x y => x + y) 51), (51, oIload 4 53), (53, oCallV 0 2 f_X0_measureValues 56), (56, oAload 0 57), (57, oIload 1 58), (58, oConst (nI 1) 59), (59, oBin (fun x y => x + y) 60), (60, oCallV 0 1 f_X0_pinOf 63), (63, oCallV 2 1 f_X2_sizeWhen 66), (66, oBin (fun x y => x + y) 67), (67, oAload 0 68), (68, oIload 2 69), (69, oIload 3 70), (70, oIload 4 72), (72, oBin (fun x y => x + y) 73), (73, oCallV 0 2 f_X0_measureValues 76), (76, oAload 0 77), (77, oIload 1 78), (78, oCallV 0 1 f_X0_joinedPin 81), (81, oCallV 2 1 f_X2_sizeWhen 84), (84, oBin (fun x y => x - y) 85), (85, oIret)]
noncomputable def f_X0_savedByJoin : xRun := xrun k_X0_savedByJoin 5
set_option maxHeartbeats 4000000 in
set_option maxRecDepth 100000 in
theorem m_X0_savedByJoin (l : Launch) (g : xG) : xMet l g yX0_savedByJoin cX0_savedByJoin 5 (some .int) 3 68 f_X0_savedByJoin := by
  refine xmet_of (own := RX0) (by decide +kernel) rfl (fun p e s m args below meth c r0 C => ?_)
  refine xAll_c (xs_aload_n C dX0_savedByJoin_0 rfl) ?_
  refine xAll_c (xs_iload_n C dX0_savedByJoin_1 rfl) ?_
  refine xAll_c (xs_callV C (m_X0_canJoin l g) dX0_savedByJoin_2 (rfl : vwCl[0]? = some (RX0, TX0, 7)) (by decide) rfl ⟨(by decide), (by decide), by decide +kernel⟩ wm358 wm359 wm360 wm2 wm361 ⟨Nat.le_of_ble_eq_true rfl, Nat.le_of_ble_eq_true rfl⟩) ?_
  refine xAll_c (xs_if_ne C dX0_savedByJoin_5 (by decide)) ?_
  refine xAll_c (xs_sipush C dX0_savedByJoin_8 (by decide)) ?_
  refine xAll_c (xs_iret C dX0_savedByJoin_11 rfl) ?_
  refine xAll_c (xs_aload_n C dX0_savedByJoin_12 rfl) ?_
  refine xAll_c (xs_iload_n C dX0_savedByJoin_13 rfl) ?_
  refine xAll_c (xs_callV C (m_X0_firstOf l g) dX0_savedByJoin_14 (rfl : vwCl[0]? = some (RX0, TX0, 7)) (by decide) rfl ⟨(by decide), (by decide), by decide +kernel⟩ wm371 wm372 wm373 wm2 wm374 ⟨Nat.le_of_ble_eq_true rfl, Nat.le_of_ble_eq_true rfl⟩) ?_
  refine xAll_c (xs_istore_n C dX0_savedByJoin_17 rfl) ?_
  refine xAll_c (xs_aload_n C dX0_savedByJoin_18 rfl) ?_
  refine xAll_c (xs_iload_n C dX0_savedByJoin_19 rfl) ?_
  refine xAll_c (xs_callV C (m_X0_lengthOf l g) dX0_savedByJoin_20 (rfl : vwCl[0]? = some (RX0, TX0, 7)) (by decide) rfl ⟨(by decide), (by decide), by decide +kernel⟩ wm366 wm367 wm368 wm2 wm369 ⟨Nat.le_of_ble_eq_true rfl, Nat.le_of_ble_eq_true rfl⟩) ?_
  refine xAll_c (xs_istore_n C dX0_savedByJoin_23 rfl) ?_
  refine xAll_c (xs_aload_n C dX0_savedByJoin_24 rfl) ?_
  refine xAll_c (xs_iload_n C dX0_savedByJoin_25 rfl) ?_
  refine xAll_c (xs_iconst C dX0_savedByJoin_26 (by decide)) ?_
  refine xAll_c (xs_iadd C dX0_savedByJoin_27) ?_
  refine xAll_c (xs_callV C (m_X0_lengthOf l g) dX0_savedByJoin_28 (rfl : vwCl[0]? = some (RX0, TX0, 7)) (by decide) rfl ⟨(by decide), (by decide), by decide +kernel⟩ wm366 wm367 wm368 wm2 wm369 ⟨Nat.le_of_ble_eq_true rfl, Nat.le_of_ble_eq_true rfl⟩) ?_
  refine xAll_c (xs_istore C dX0_savedByJoin_31) ?_
  refine xAll_c (xs_aload_n C dX0_savedByJoin_33 rfl) ?_
  refine xAll_c (xs_iload_n C dX0_savedByJoin_34 rfl) ?_
  refine xAll_c (xs_iload_n C dX0_savedByJoin_35 rfl) ?_
  refine xAll_c (xs_callV C (m_X0_measureValues l g) dX0_savedByJoin_36 (rfl : vwCl[0]? = some (RX0, TX0, 7)) (by decide) rfl ⟨(by decide), (by decide), by decide +kernel⟩ wm375 wm377 wp10 wm2 wm378 ⟨Nat.le_of_ble_eq_true rfl, Nat.le_of_ble_eq_true rfl⟩) ?_
  refine xAll_c (xs_aload_n C dX0_savedByJoin_39 rfl) ?_
  refine xAll_c (xs_iload_n C dX0_savedByJoin_40 rfl) ?_
  refine xAll_c (xs_callV C (m_X0_pinOf l g) dX0_savedByJoin_41 (rfl : vwCl[0]? = some (RX0, TX0, 7)) (by decide) rfl ⟨(by decide), (by decide), by decide +kernel⟩ wm394 wm395 wm396 wm2 wm397 ⟨Nat.le_of_ble_eq_true rfl, Nat.le_of_ble_eq_true rfl⟩) ?_
  refine xAll_c (xs_callV C (m_X2_sizeWhen l g) dX0_savedByJoin_44 (rfl : vwCl[2]? = some (RX2, TX2, 10)) (by decide) rfl ⟨(by decide), (by decide), by decide +kernel⟩ wm398 wm399 wm400 wm4 wm401 ⟨Nat.le_of_ble_eq_true rfl, Nat.le_of_ble_eq_true rfl⟩) ?_
  refine xAll_c (xs_aload_n C dX0_savedByJoin_47 rfl) ?_
  refine xAll_c (xs_iload_n C dX0_savedByJoin_48 rfl) ?_
  refine xAll_c (xs_iload_n C dX0_savedByJoin_49 rfl) ?_
  refine xAll_c (xs_iadd C dX0_savedByJoin_50) ?_
  refine xAll_c (xs_iload C dX0_savedByJoin_51) ?_
  refine xAll_c (xs_callV C (m_X0_measureValues l g) dX0_savedByJoin_53 (rfl : vwCl[0]? = some (RX0, TX0, 7)) (by decide) rfl ⟨(by decide), (by decide), by decide +kernel⟩ wm375 wm377 wp10 wm2 wm378 ⟨Nat.le_of_ble_eq_true rfl, Nat.le_of_ble_eq_true rfl⟩) ?_
  refine xAll_c (xs_aload_n C dX0_savedByJoin_56 rfl) ?_
  refine xAll_c (xs_iload_n C dX0_savedByJoin_57 rfl) ?_
  refine xAll_c (xs_iconst C dX0_savedByJoin_58 (by decide)) ?_
  refine xAll_c (xs_iadd C dX0_savedByJoin_59) ?_
  refine xAll_c (xs_callV C (m_X0_pinOf l g) dX0_savedByJoin_60 (rfl : vwCl[0]? = some (RX0, TX0, 7)) (by decide) rfl ⟨(by decide), (by decide), by decide +kernel⟩ wm394 wm395 wm396 wm2 wm397 ⟨Nat.le_of_ble_eq_true rfl, Nat.le_of_ble_eq_true rfl⟩) ?_
  refine xAll_c (xs_callV C (m_X2_sizeWhen l g) dX0_savedByJoin_63 (rfl : vwCl[2]? = some (RX2, TX2, 10)) (by decide) rfl ⟨(by decide), (by decide), by decide +kernel⟩ wm398 wm399 wm400 wm4 wm401 ⟨Nat.le_of_ble_eq_true rfl, Nat.le_of_ble_eq_true rfl⟩) ?_
  refine xAll_c (xs_iadd C dX0_savedByJoin_66) ?_
  refine xAll_c (xs_aload_n C dX0_savedByJoin_67 rfl) ?_
  refine xAll_c (xs_iload_n C dX0_savedByJoin_68 rfl) ?_
  refine xAll_c (xs_iload_n C dX0_savedByJoin_69 rfl) ?_
  refine xAll_c (xs_iload C dX0_savedByJoin_70) ?_
  refine xAll_c (xs_iadd C dX0_savedByJoin_72) ?_
  refine xAll_c (xs_callV C (m_X0_measureValues l g) dX0_savedByJoin_73 (rfl : vwCl[0]? = some (RX0, TX0, 7)) (by decide) rfl ⟨(by decide), (by decide), by decide +kernel⟩ wm375 wm377 wp10 wm2 wm378 ⟨Nat.le_of_ble_eq_true rfl, Nat.le_of_ble_eq_true rfl⟩) ?_
  refine xAll_c (xs_aload_n C dX0_savedByJoin_76 rfl) ?_
  refine xAll_c (xs_iload_n C dX0_savedByJoin_77 rfl) ?_
  refine xAll_c (xs_callV C (m_X0_joinedPin l g) dX0_savedByJoin_78 (rfl : vwCl[0]? = some (RX0, TX0, 7)) (by decide) rfl ⟨(by decide), (by decide), by decide +kernel⟩ wm410 wm412 wp11 wm2 wm413 ⟨Nat.le_of_ble_eq_true rfl, Nat.le_of_ble_eq_true rfl⟩) ?_
  refine xAll_c (xs_callV C (m_X2_sizeWhen l g) dX0_savedByJoin_81 (rfl : vwCl[2]? = some (RX2, TX2, 10)) (by decide) rfl ⟨(by decide), (by decide), by decide +kernel⟩ wm398 wm399 wm400 wm4 wm401 ⟨Nat.le_of_ble_eq_true rfl, Nat.le_of_ble_eq_true rfl⟩) ?_
  refine xAll_c (xs_isub C dX0_savedByJoin_84) ?_
  refine xAll_c (xs_iret C dX0_savedByJoin_85 rfl) ?_
  exact trivial
noncomputable def k_X0_lastPageHasRoom : xCode := [(0, oAload 0 1), (1, oGetI 0 5 4), (4, oIf1 (fun x => decide (x ≤ 0)) 28 7), (7, oAload 0 8), (8, oAload 0 9), (9, oGetI 0 5 12), (12, oConst (nI 1) 13), (13, oBin (fun x y => x - y) 14), (14, oCallV 0 1 f_X0_lengthOf 17), (17, oAload 0 18), (18, oGetI 0 6 21), (21, oIf2 (fun x y => decide (y ≤ x)) 28 24), (24, oConst (nI 1) 25), (25, oGoto 29), (28, oConst (nI 0) 29), (29, oZret)]
noncomputable def f_X0_lastPageHasRoom : xRun := xrun k_X0_lastPageHasRoom 1
set_option maxHeartbeats 4000000 in
set_option maxRecDepth 100000 in
theorem m_X0_lastPageHasRoom (l : Launch) (g : xG) : xMet l g yX0_lastPageHasRoom cX0_lastPageHasRoom 1 (some .boolean) 2 42 f_X0_lastPageHasRoom := by
  refine xmet_of (own := RX0) (by decide +kernel) rfl (fun p e s m args below meth c r0 C => ?_)
  refine xAll_c (xs_aload_n C dX0_lastPageHasRoom_0 rfl) ?_
  refine xAll_c (xs_getI C dX0_lastPageHasRoom_1 (rfl : vwCl[0]? = some (RX0, TX0, 7)) win0 rfl (by decide) (by decide) rfl wm103) ?_
  refine xAll_c (xs_if_le C dX0_lastPageHasRoom_4 (by decide)) ?_
  refine xAll_c (xs_aload_n C dX0_lastPageHasRoom_7 rfl) ?_
  refine xAll_c (xs_aload_n C dX0_lastPageHasRoom_8 rfl) ?_
  refine xAll_c (xs_getI C dX0_lastPageHasRoom_9 (rfl : vwCl[0]? = some (RX0, TX0, 7)) win0 rfl (by decide) (by decide) rfl wm103) ?_
  refine xAll_c (xs_iconst C dX0_lastPageHasRoom_12 (by decide)) ?_
  refine xAll_c (xs_isub C dX0_lastPageHasRoom_13) ?_
  refine xAll_c (xs_callV C (m_X0_lengthOf l g) dX0_lastPageHasRoom_14 (rfl : vwCl[0]? = some (RX0, TX0, 7)) (by decide) rfl ⟨(by decide), (by decide), by decide +kernel⟩ wm366 wm367 wm368 wm2 wm369 ⟨Nat.le_of_ble_eq_true rfl, Nat.le_of_ble_eq_true rfl⟩) ?_
  refine xAll_c (xs_aload_n C dX0_lastPageHasRoom_17 rfl) ?_
  refine xAll_c (xs_getI C dX0_lastPageHasRoom_18 (rfl : vwCl[0]? = some (RX0, TX0, 7)) win0 rfl (by decide) (by decide) rfl wm105) ?_
  refine xAll_c (xs_icmp_ge C dX0_lastPageHasRoom_21 (by decide)) ?_
  refine xAll_c (xs_iconst C dX0_lastPageHasRoom_24 (by decide)) ?_
  refine xAll_c (xs_goto C dX0_lastPageHasRoom_25 (by decide)) ?_
  refine xAll_c (xs_iconst C dX0_lastPageHasRoom_28 (by decide)) ?_
  refine xAll_c (xs_zret C dX0_lastPageHasRoom_29 rfl) ?_
  exact trivial
