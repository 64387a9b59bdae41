section P62b
set_option maxHeartbeats 4000000 in
set_option maxRecDepth 100000 in
theorem h_add (l : Launch) (hfl : l.stackTraces = false) (g : xG) (x1 : Int32) (I : xMem) {k : Nat} {v : Int32} {I' : xMem} (hk : k ≤ 2) (hrun : f_X8_add [.ref 0, .int x1] I = some ((if k = 0 then .inl (some (.int v)) else .inr (xEx [1, 2] k)), I')) : vx_Met l yL_add (Cond.codeWith yL_add cL_add 4 (some .int) [(0, 9, 12, 13), (0, 9, 15, 15)] :: wsAll) { frames := 7, cells := 1, slots := 6, locals := 129 } (xPcH g [.ref 0, .int x1, .ref 201] I) (hQc g (nI k) (if k = 0 then xup I' 201 0 v else I')) hNo 1 6 (xA g) := by
  refine vx_ofWH (by decide +kernel) rfl ?_
  intro p e s m args below meth c s₁ B hml hv
  obtain ⟨rfl, hW, hP, hD, hz⟩ := hv
  have hts0 := atoms_spec (ws := Cond.codeWith yL_add cL_add 4 (some .int) [(0, 9, 12, 13), (0, 9, 15, 15)] :: wsAll) B.pre
  have hts := fun w (hw : w ∈ wsAll) => hts0 w (List.mem_cons_of_mem _ hw)
  have htab := vx_table (x := yL_add) B (hts0 _ List.mem_cons_self)
  have hx := B.exec
  have hb := B.bytes
  have hrt := B.returns
  have hlk := B.notSynchronized
  have hown : s.vm.findClass RL = some m.cls := findClass_of_methodNamed B.named
  have hr : xRep g s I s.heap [] := ⟨hP, hD, va_S.rf⟩
  have hl := lv_entry ([.ref 0, .int x1, .ref 201].map (xc g)) (n := 4) (Nat.le_of_ble_eq_true rfl)
  rw [lg_entry_eq]
  generalize (lg_sl ([.ref 0, .int x1, .ref 201].map (xc g)) ++ List.replicate (4 - (lg_sl ([.ref 0, .int x1, .ref 201].map (xc g))).length) Slot.unset).toArray = ls at hl ⊢
  have hl : lv_has ls 4 [(0, .ref (g.2.1 0)), (1, .int x1), (2, .ref (g.2.1 201))] := hl
  refine lv_aload_n hx hb dL_add_0 rfl (lv_at hl 2 rfl) ?_
  refine lv_iconst (v := nI 0) hx hb dL_add_1 (by decide) ?_
  refine lv_aload_n hx hb dL_add_2 rfl (lv_at hl 0 rfl) ?_
  refine lv_iload_n hx hb dL_add_3 rfl (lv_at hl 1 rfl) ?_
  refine xcallX (rest := [.int (nI 0), .ref (g.2.1 201)]) (vx_runV (As := [.int x1]) (rest := [.int (nI 0), .ref (g.2.1 201)]) (cc := cL_add) (nL := 4) ⟨hx, hb, hml, hown, hts⟩ (m_X8_add l hfl g [.ref 0, .int x1] I _ hrun) (cwV 1 hts (xgoodV wh723 wh724 wh725 wh1 wh726) rfl rfl rfl ⟨rfl, by decide, by decide, by decide +kernel⟩ ⟨Nat.le_of_ble_eq_true rfl, Nat.le_of_ble_eq_true rfl⟩) ⟨xPc_blind, xrecv hW.1.1 hr (b := 0) (by decide) (by omega) (rfl : vwCl[8]? = some (RX8, TX8, 10)), xpre hW.1 hr hz⟩ rfl rfl hl.1 rfl (lv_room (Nat.le_of_ble_eq_true rfl)) dL_add_4 ⟨Nat.le_of_ble_eq_true rfl, Nat.le_of_ble_eq_true rfl⟩) hr.2.2 (xWl_D hr.2.1) (fun v0 hv0 H1 locs1 hr1 => ?_) (fun j hj H1 locs1 q ce hr1 hce hcv hcl => ?_)
  · by_cases k0 : k = 0
    · subst k0
      rw [if_pos rfl] at hv0
      cases hv0
      have e9 : (if (0 : Nat) = 0 then xup I' 201 0 v else I') = xup I' 201 0 v := if_pos rfl
      rw [e9]
      exact hp_ok (tgt := 18) hx hb hrt hlk hW.1.1 hr1 dL_add_7 dL_add_8 dL_add_9 (by decide) dL_add_18 dL_add_19
    · rw [if_neg k0] at hv0
      cases hv0
  · by_cases k0 : k = 0
    · rw [if_pos k0] at hj
      cases hj
    · rw [if_neg k0] at hj
      cases hj
      rcases (show k = 1 ∨ k = 2 by omega) with rfl | rfl
      · have e9 : (if (1 : Nat) = 0 then xup I' 201 0 v else I') = I' := if_neg (by decide)
        rw [e9]
        exact hp_catch (j := 1) (k := 1) (n := 1) (hp2 := 13) hx hb hrt hlk hown hts hW hr1 hce hcv hcl [] ⟨0, 9, 12, 13⟩ [⟨0, 9, 15, 15⟩] htab (fun z hz => absurd hz List.not_mem_nil) (by decide) (by decide) wh449 (by decide +kernel) (fun kk => lv_astore_n hx hb dL_add_12 rfl hl (by decide) rfl (fun ls' _ => kk ls')) (by decide) dL_add_13 dL_add_14
      · have e9 : (if (2 : Nat) = 0 then xup I' 201 0 v else I') = I' := if_neg (by decide)
        rw [e9]
        exact hp_catch (j := 2) (k := 2) (n := 2) (hp2 := 16) hx hb hrt hlk hown hts hW hr1 hce hcv hcl [⟨0, 9, 12, 13⟩] ⟨0, 9, 15, 15⟩ [] htab (List.forall_mem_cons.mpr ⟨⟨by decide, _, wh449, by decide +kernel⟩, fun z hz => absurd hz List.not_mem_nil⟩) (by decide) (by decide) wh450 (by decide +kernel) (fun kk => lv_astore_n hx hb dL_add_15 rfl hl (by decide) rfl (fun ls' _ => kk ls')) (by decide) dL_add_16 dL_add_17
set_option maxHeartbeats 4000000 in
set_option maxRecDepth 100000 in
theorem h_put (l : Launch) (hfl : l.stackTraces = false) (g : xG) (x1 : Int32) (x2 : Int32) (I : xMem) {k : Nat} {v : Int32} {I' : xMem} (hk : k ≤ 2) (hrun : f_X8_put [.ref 0, .int x1, .int x2] I = some ((if k = 0 then .inl (some (.int v)) else .inr (xEx [3, 1] k)), I')) : vx_Met l yL_put (Cond.codeWith yL_put cL_put 5 (some .int) [(0, 10, 13, 23), (0, 10, 17, 13)] :: wsAll) { frames := 7, cells := 1, slots := 6, locals := 130 } (xPcH g [.ref 0, .int x1, .int x2, .ref 201] I) (hQc g (nI k) (if k = 0 then xup I' 201 0 v else I')) hNo 1 6 (xA g) := by
  refine vx_ofWH (by decide +kernel) rfl ?_
  intro p e s m args below meth c s₁ B hml hv
  obtain ⟨rfl, hW, hP, hD, hz⟩ := hv
  have hts0 := atoms_spec (ws := Cond.codeWith yL_put cL_put 5 (some .int) [(0, 10, 13, 23), (0, 10, 17, 13)] :: wsAll) B.pre
  have hts := fun w (hw : w ∈ wsAll) => hts0 w (List.mem_cons_of_mem _ hw)
  have htab := vx_table (x := yL_put) B (hts0 _ List.mem_cons_self)
  have hx := B.exec
  have hb := B.bytes
  have hrt := B.returns
  have hlk := B.notSynchronized
  have hown : s.vm.findClass RL = some m.cls := findClass_of_methodNamed B.named
  have hr : xRep g s I s.heap [] := ⟨hP, hD, va_S.rf⟩
  have hl := lv_entry ([.ref 0, .int x1, .int x2, .ref 201].map (xc g)) (n := 5) (Nat.le_of_ble_eq_true rfl)
  rw [lg_entry_eq]
  generalize (lg_sl ([.ref 0, .int x1, .int x2, .ref 201].map (xc g)) ++ List.replicate (5 - (lg_sl ([.ref 0, .int x1, .int x2, .ref 201].map (xc g))).length) Slot.unset).toArray = ls at hl ⊢
  have hl : lv_has ls 5 [(0, .ref (g.2.1 0)), (1, .int x1), (2, .int x2), (3, .ref (g.2.1 201))] := hl
  refine lv_aload_n hx hb dL_put_0 rfl (lv_at hl 3 rfl) ?_
  refine lv_iconst (v := nI 0) hx hb dL_put_1 (by decide) ?_
  refine lv_aload_n hx hb dL_put_2 rfl (lv_at hl 0 rfl) ?_
  refine lv_iload_n hx hb dL_put_3 rfl (lv_at hl 1 rfl) ?_
  refine lv_iload_n hx hb dL_put_4 rfl (lv_at hl 2 rfl) ?_
  refine xcallX (rest := [.int (nI 0), .ref (g.2.1 201)]) (vx_runV (As := [.int x1, .int x2]) (rest := [.int (nI 0), .ref (g.2.1 201)]) (cc := cL_put) (nL := 5) ⟨hx, hb, hml, hown, hts⟩ (m_X8_put l hfl g [.ref 0, .int x1, .int x2] I _ hrun) (cwV 2 hts (xgoodV wh755 wh756 wh757 wh1 wh758) rfl rfl rfl ⟨rfl, by decide, by decide, by decide +kernel⟩ ⟨Nat.le_of_ble_eq_true rfl, Nat.le_of_ble_eq_true rfl⟩) ⟨xPc_blind, xrecv hW.1.1 hr (b := 0) (by decide) (by omega) (rfl : vwCl[8]? = some (RX8, TX8, 10)), xpre hW.1 hr hz⟩ rfl rfl hl.1 rfl (lv_room (Nat.le_of_ble_eq_true rfl)) dL_put_5 ⟨Nat.le_of_ble_eq_true rfl, Nat.le_of_ble_eq_true rfl⟩) hr.2.2 (xWl_D hr.2.1) (fun v0 hv0 H1 locs1 hr1 => ?_) (fun j hj H1 locs1 q ce hr1 hce hcv hcl => ?_)
  · by_cases k0 : k = 0
    · subst k0
      rw [if_pos rfl] at hv0
      cases hv0
      have e9 : (if (0 : Nat) = 0 then xup I' 201 0 v else I') = xup I' 201 0 v := if_pos rfl
      rw [e9]
      exact hp_ok (tgt := 21) hx hb hrt hlk hW.1.1 hr1 dL_put_8 dL_put_9 dL_put_10 (by decide) dL_put_21 dL_put_22
    · rw [if_neg k0] at hv0
      cases hv0
  · by_cases k0 : k = 0
    · rw [if_pos k0] at hj
      cases hj
    · rw [if_neg k0] at hj
      cases hj
      rcases (show k = 1 ∨ k = 2 by omega) with rfl | rfl
      · have e9 : (if (1 : Nat) = 0 then xup I' 201 0 v else I') = I' := if_neg (by decide)
        rw [e9]
        exact hp_catch (j := 3) (k := 1) (n := 1) (hp2 := 15) hx hb hrt hlk hown hts hW hr1 hce hcv hcl [] ⟨0, 10, 13, 23⟩ [⟨0, 10, 17, 13⟩] htab (fun z hz => absurd hz List.not_mem_nil) (by decide) (by decide) wh584 (by decide +kernel) (fun kk => lv_astore hx hb dL_put_13 hl (by decide) rfl (fun ls' _ => kk ls')) (by decide) dL_put_15 dL_put_16
      · have e9 : (if (2 : Nat) = 0 then xup I' 201 0 v else I') = I' := if_neg (by decide)
        rw [e9]
        exact hp_catch (j := 1) (k := 2) (n := 2) (hp2 := 19) hx hb hrt hlk hown hts hW hr1 hce hcv hcl [⟨0, 10, 13, 23⟩] ⟨0, 10, 17, 13⟩ [] htab (List.forall_mem_cons.mpr ⟨⟨by decide, _, wh584, by decide +kernel⟩, fun z hz => absurd hz List.not_mem_nil⟩) (by decide) (by decide) wh449 (by decide +kernel) (fun kk => lv_astore hx hb dL_put_17 hl (by decide) rfl (fun ls' _ => kk ls')) (by decide) dL_put_19 dL_put_20
set_option maxHeartbeats 4000000 in
set_option maxRecDepth 100000 in
theorem h_remove (l : Launch) (hfl : l.stackTraces = false) (g : xG) (x1 : Int32) (I : xMem) {k : Nat} {v : Int32} {I' : xMem} (hk : k ≤ 1) (hrun : f_X8_remove [.ref 0, .int x1] I = some ((if k = 0 then .inl (some (.int v)) else .inr (xEx [3] k)), I')) : vx_Met l yL_remove (Cond.codeWith yL_remove cL_remove 4 (some .int) [(0, 9, 12, 23)] :: wsAll) { frames := 7, cells := 1, slots := 6, locals := 129 } (xPcH g [.ref 0, .int x1, .ref 201] I) (hQc g (nI k) (if k = 0 then xup I' 201 0 v else I')) hNo 1 6 (xA g) := by
  refine vx_ofWH (by decide +kernel) rfl ?_
  intro p e s m args below meth c s₁ B hml hv
  obtain ⟨rfl, hW, hP, hD, hz⟩ := hv
  have hts0 := atoms_spec (ws := Cond.codeWith yL_remove cL_remove 4 (some .int) [(0, 9, 12, 23)] :: wsAll) B.pre
  have hts := fun w (hw : w ∈ wsAll) => hts0 w (List.mem_cons_of_mem _ hw)
  have htab := vx_table (x := yL_remove) B (hts0 _ List.mem_cons_self)
  have hx := B.exec
  have hb := B.bytes
  have hrt := B.returns
  have hlk := B.notSynchronized
  have hown : s.vm.findClass RL = some m.cls := findClass_of_methodNamed B.named
  have hr : xRep g s I s.heap [] := ⟨hP, hD, va_S.rf⟩
  have hl := lv_entry ([.ref 0, .int x1, .ref 201].map (xc g)) (n := 4) (Nat.le_of_ble_eq_true rfl)
  rw [lg_entry_eq]
  generalize (lg_sl ([.ref 0, .int x1, .ref 201].map (xc g)) ++ List.replicate (4 - (lg_sl ([.ref 0, .int x1, .ref 201].map (xc g))).length) Slot.unset).toArray = ls at hl ⊢
  have hl : lv_has ls 4 [(0, .ref (g.2.1 0)), (1, .int x1), (2, .ref (g.2.1 201))] := hl
  refine lv_aload_n hx hb dL_remove_0 rfl (lv_at hl 2 rfl) ?_
  refine lv_iconst (v := nI 0) hx hb dL_remove_1 (by decide) ?_
  refine lv_aload_n hx hb dL_remove_2 rfl (lv_at hl 0 rfl) ?_
  refine lv_iload_n hx hb dL_remove_3 rfl (lv_at hl 1 rfl) ?_
  refine xcallX (rest := [.int (nI 0), .ref (g.2.1 201)]) (vx_runV (As := [.int x1]) (rest := [.int (nI 0), .ref (g.2.1 201)]) (cc := cL_remove) (nL := 4) ⟨hx, hb, hml, hown, hts⟩ (m_X8_remove l hfl g [.ref 0, .int x1] I _ hrun) (cwV 1 hts (xgoodV wh766 wh767 wh768 wh1 wh769) rfl rfl rfl ⟨rfl, by decide, by decide, by decide +kernel⟩ ⟨Nat.le_of_ble_eq_true rfl, Nat.le_of_ble_eq_true rfl⟩) ⟨xPc_blind, xrecv hW.1.1 hr (b := 0) (by decide) (by omega) (rfl : vwCl[8]? = some (RX8, TX8, 10)), xpre hW.1 hr hz⟩ rfl rfl hl.1 rfl (lv_room (Nat.le_of_ble_eq_true rfl)) dL_remove_4 ⟨Nat.le_of_ble_eq_true rfl, Nat.le_of_ble_eq_true rfl⟩) hr.2.2 (xWl_D hr.2.1) (fun v0 hv0 H1 locs1 hr1 => ?_) (fun j hj H1 locs1 q ce hr1 hce hcv hcl => ?_)
  · by_cases k0 : k = 0
    · subst k0
      rw [if_pos rfl] at hv0
      cases hv0
      have e9 : (if (0 : Nat) = 0 then xup I' 201 0 v else I') = xup I' 201 0 v := if_pos rfl
      rw [e9]
      exact hp_ok (tgt := 15) hx hb hrt hlk hW.1.1 hr1 dL_remove_7 dL_remove_8 dL_remove_9 (by decide) dL_remove_15 dL_remove_16
    · rw [if_neg k0] at hv0
      cases hv0
  · by_cases k0 : k = 0
    · rw [if_pos k0] at hj
      cases hj
    · rw [if_neg k0] at hj
      cases hj
      rcases (show k = 1 by omega) with rfl
      · have e9 : (if (1 : Nat) = 0 then xup I' 201 0 v else I') = I' := if_neg (by decide)
        rw [e9]
        exact hp_catch (j := 3) (k := 1) (n := 1) (hp2 := 13) hx hb hrt hlk hown hts hW hr1 hce hcv hcl [] ⟨0, 9, 12, 23⟩ [] htab (fun z hz => absurd hz List.not_mem_nil) (by decide) (by decide) wh584 (by decide +kernel) (fun kk => lv_astore_n hx hb dL_remove_12 rfl hl (by decide) rfl (fun ls' _ => kk ls')) (by decide) dL_remove_13 dL_remove_14
set_option maxHeartbeats 4000000 in
set_option maxRecDepth 100000 in
theorem h_cut (l : Launch) (hfl : l.stackTraces = false) (g : xG) (x1 : Int32) (x2 : Int32) (I : xMem) {k : Nat} {v : Int32} {I' : xMem} (hk : k ≤ 3) (hrun : f_X8_cut [.ref 0, .int x1, .int x2] I = some ((if k = 0 then .inl (some (.int v)) else .inr (xEx [3, 1, 2] k)), I')) : vx_Met l yL_cut (Cond.codeWith yL_cut cL_cut 5 (some .int) [(0, 10, 13, 23), (0, 10, 17, 13), (0, 10, 21, 15)] :: wsAll) { frames := 7, cells := 1, slots := 6, locals := 130 } (xPcH g [.ref 0, .int x1, .int x2, .ref 201] I) (hQc g (nI k) (if k = 0 then xup I' 201 0 v else I')) hNo 1 6 (xA g) := by
  refine vx_ofWH (by decide +kernel) rfl ?_
  intro p e s m args below meth c s₁ B hml hv
  obtain ⟨rfl, hW, hP, hD, hz⟩ := hv
  have hts0 := atoms_spec (ws := Cond.codeWith yL_cut cL_cut 5 (some .int) [(0, 10, 13, 23), (0, 10, 17, 13), (0, 10, 21, 15)] :: wsAll) B.pre
  have hts := fun w (hw : w ∈ wsAll) => hts0 w (List.mem_cons_of_mem _ hw)
  have htab := vx_table (x := yL_cut) B (hts0 _ List.mem_cons_self)
  have hx := B.exec
  have hb := B.bytes
  have hrt := B.returns
  have hlk := B.notSynchronized
  have hown : s.vm.findClass RL = some m.cls := findClass_of_methodNamed B.named
  have hr : xRep g s I s.heap [] := ⟨hP, hD, va_S.rf⟩
  have hl := lv_entry ([.ref 0, .int x1, .int x2, .ref 201].map (xc g)) (n := 5) (Nat.le_of_ble_eq_true rfl)
  rw [lg_entry_eq]
  generalize (lg_sl ([.ref 0, .int x1, .int x2, .ref 201].map (xc g)) ++ List.replicate (5 - (lg_sl ([.ref 0, .int x1, .int x2, .ref 201].map (xc g))).length) Slot.unset).toArray = ls at hl ⊢
  have hl : lv_has ls 5 [(0, .ref (g.2.1 0)), (1, .int x1), (2, .int x2), (3, .ref (g.2.1 201))] := hl
  refine lv_aload_n hx hb dL_cut_0 rfl (lv_at hl 3 rfl) ?_
  refine lv_iconst (v := nI 0) hx hb dL_cut_1 (by decide) ?_
  refine lv_aload_n hx hb dL_cut_2 rfl (lv_at hl 0 rfl) ?_
  refine lv_iload_n hx hb dL_cut_3 rfl (lv_at hl 1 rfl) ?_
  refine lv_iload_n hx hb dL_cut_4 rfl (lv_at hl 2 rfl) ?_
  refine xcallX (rest := [.int (nI 0), .ref (g.2.1 201)]) (vx_runV (As := [.int x1, .int x2]) (rest := [.int (nI 0), .ref (g.2.1 201)]) (cc := cL_cut) (nL := 5) ⟨hx, hb, hml, hown, hts⟩ (m_X8_cut l hfl g [.ref 0, .int x1, .int x2] I _ hrun) (cwV 2 hts (xgoodV wh781 wh782 wh783 wh1 wh784) rfl rfl rfl ⟨rfl, by decide, by decide, by decide +kernel⟩ ⟨Nat.le_of_ble_eq_true rfl, Nat.le_of_ble_eq_true rfl⟩) ⟨xPc_blind, xrecv hW.1.1 hr (b := 0) (by decide) (by omega) (rfl : vwCl[8]? = some (RX8, TX8, 10)), xpre hW.1 hr hz⟩ rfl rfl hl.1 rfl (lv_room (Nat.le_of_ble_eq_true rfl)) dL_cut_5 ⟨Nat.le_of_ble_eq_true rfl, Nat.le_of_ble_eq_true rfl⟩) hr.2.2 (xWl_D hr.2.1) (fun v0 hv0 H1 locs1 hr1 => ?_) (fun j hj H1 locs1 q ce hr1 hce hcv hcl => ?_)
  · by_cases k0 : k = 0
    · subst k0
      rw [if_pos rfl] at hv0
      cases hv0
      have e9 : (if (0 : Nat) = 0 then xup I' 201 0 v else I') = xup I' 201 0 v := if_pos rfl
      rw [e9]
      exact hp_ok (tgt := 25) hx hb hrt hlk hW.1.1 hr1 dL_cut_8 dL_cut_9 dL_cut_10 (by decide) dL_cut_25 dL_cut_26
    · rw [if_neg k0] at hv0
      cases hv0
  · by_cases k0 : k = 0
    · rw [if_pos k0] at hj
      cases hj
    · rw [if_neg k0] at hj
      cases hj
      rcases (show k = 1 ∨ k = 2 ∨ k = 3 by omega) with rfl | rfl | rfl
      · have e9 : (if (1 : Nat) = 0 then xup I' 201 0 v else I') = I' := if_neg (by decide)
        rw [e9]
        exact hp_catch (j := 3) (k := 1) (n := 1) (hp2 := 15) hx hb hrt hlk hown hts hW hr1 hce hcv hcl [] ⟨0, 10, 13, 23⟩ [⟨0, 10, 17, 13⟩, ⟨0, 10, 21, 15⟩] htab (fun z hz => absurd hz List.not_mem_nil) (by decide) (by decide) wh584 (by decide +kernel) (fun kk => lv_astore hx hb dL_cut_13 hl (by decide) rfl (fun ls' _ => kk ls')) (by decide) dL_cut_15 dL_cut_16
      · have e9 : (if (2 : Nat) = 0 then xup I' 201 0 v else I') = I' := if_neg (by decide)
        rw [e9]
        exact hp_catch (j := 1) (k := 2) (n := 2) (hp2 := 19) hx hb hrt hlk hown hts hW hr1 hce hcv hcl [⟨0, 10, 13, 23⟩] ⟨0, 10, 17, 13⟩ [⟨0, 10, 21, 15⟩] htab (List.forall_mem_cons.mpr ⟨⟨by decide, _, wh584, by decide +kernel⟩, fun z hz => absurd hz List.not_mem_nil⟩) (by decide) (by decide) wh449 (by decide +kernel) (fun kk => lv_astore hx hb dL_cut_17 hl (by decide) rfl (fun ls' _ => kk ls')) (by decide) dL_cut_19 dL_cut_20
      · have e9 : (if (3 : Nat) = 0 then xup I' 201 0 v else I') = I' := if_neg (by decide)
        rw [e9]
        exact hp_catch (j := 2) (k := 3) (n := 3) (hp2 := 23) hx hb hrt hlk hown hts hW hr1 hce hcv hcl [⟨0, 10, 13, 23⟩, ⟨0, 10, 17, 13⟩] ⟨0, 10, 21, 15⟩ [] htab (List.forall_mem_cons.mpr ⟨⟨by decide, _, wh584, by decide +kernel⟩, List.forall_mem_cons.mpr ⟨⟨by decide, _, wh449, by decide +kernel⟩, fun z hz => absurd hz List.not_mem_nil⟩⟩) (by decide) (by decide) wh450 (by decide +kernel) (fun kk => lv_astore hx hb dL_cut_21 hl (by decide) rfl (fun ls' _ => kk ls')) (by decide) dL_cut_23 dL_cut_24
set_option maxHeartbeats 4000000 in
set_option maxRecDepth 100000 in
theorem h_merge (l : Launch) (hfl : l.stackTraces = false) (g : xG) (x1 : Int32) (I : xMem) {k : Nat} {v : Int32} {I' : xMem} (hk : k ≤ 2) (hrun : f_X8_merge [.ref 0, .int x1] I = some ((if k = 0 then .inl (some (.int v)) else .inr (xEx [3, 2] k)), I')) : vx_Met l yL_merge (Cond.codeWith yL_merge cL_merge 4 (some .int) [(0, 9, 12, 23), (0, 9, 15, 15)] :: wsAll) { frames := 7, cells := 1, slots := 6, locals := 129 } (xPcH g [.ref 0, .int x1, .ref 201] I) (hQc g (nI k) (if k = 0 then xup I' 201 0 v else I')) hNo 1 6 (xA g) := by
  refine vx_ofWH (by decide +kernel) rfl ?_
  intro p e s m args below meth c s₁ B hml hv
  obtain ⟨rfl, hW, hP, hD, hz⟩ := hv
  have hts0 := atoms_spec (ws := Cond.codeWith yL_merge cL_merge 4 (some .int) [(0, 9, 12, 23), (0, 9, 15, 15)] :: wsAll) B.pre
  have hts := fun w (hw : w ∈ wsAll) => hts0 w (List.mem_cons_of_mem _ hw)
  have htab := vx_table (x := yL_merge) B (hts0 _ List.mem_cons_self)
  have hx := B.exec
  have hb := B.bytes
  have hrt := B.returns
  have hlk := B.notSynchronized
  have hown : s.vm.findClass RL = some m.cls := findClass_of_methodNamed B.named
  have hr : xRep g s I s.heap [] := ⟨hP, hD, va_S.rf⟩
  have hl := lv_entry ([.ref 0, .int x1, .ref 201].map (xc g)) (n := 4) (Nat.le_of_ble_eq_true rfl)
  rw [lg_entry_eq]
  generalize (lg_sl ([.ref 0, .int x1, .ref 201].map (xc g)) ++ List.replicate (4 - (lg_sl ([.ref 0, .int x1, .ref 201].map (xc g))).length) Slot.unset).toArray = ls at hl ⊢
  have hl : lv_has ls 4 [(0, .ref (g.2.1 0)), (1, .int x1), (2, .ref (g.2.1 201))] := hl
  refine lv_aload_n hx hb dL_merge_0 rfl (lv_at hl 2 rfl) ?_
  refine lv_iconst (v := nI 0) hx hb dL_merge_1 (by decide) ?_
  refine lv_aload_n hx hb dL_merge_2 rfl (lv_at hl 0 rfl) ?_
  refine lv_iload_n hx hb dL_merge_3 rfl (lv_at hl 1 rfl) ?_
  refine xcallX (rest := [.int (nI 0), .ref (g.2.1 201)]) (vx_runV (As := [.int x1]) (rest := [.int (nI 0), .ref (g.2.1 201)]) (cc := cL_merge) (nL := 4) ⟨hx, hb, hml, hown, hts⟩ (m_X8_merge l hfl g [.ref 0, .int x1] I _ hrun) (cwV 1 hts (xgoodV wh799 wh800 wh801 wh1 wh802) rfl rfl rfl ⟨rfl, by decide, by decide, by decide +kernel⟩ ⟨Nat.le_of_ble_eq_true rfl, Nat.le_of_ble_eq_true rfl⟩) ⟨xPc_blind, xrecv hW.1.1 hr (b := 0) (by decide) (by omega) (rfl : vwCl[8]? = some (RX8, TX8, 10)), xpre hW.1 hr hz⟩ rfl rfl hl.1 rfl (lv_room (Nat.le_of_ble_eq_true rfl)) dL_merge_4 ⟨Nat.le_of_ble_eq_true rfl, Nat.le_of_ble_eq_true rfl⟩) hr.2.2 (xWl_D hr.2.1) (fun v0 hv0 H1 locs1 hr1 => ?_) (fun j hj H1 locs1 q ce hr1 hce hcv hcl => ?_)
  · by_cases k0 : k = 0
    · subst k0
      rw [if_pos rfl] at hv0
      cases hv0
      have e9 : (if (0 : Nat) = 0 then xup I' 201 0 v else I') = xup I' 201 0 v := if_pos rfl
      rw [e9]
      exact hp_ok (tgt := 18) hx hb hrt hlk hW.1.1 hr1 dL_merge_7 dL_merge_8 dL_merge_9 (by decide) dL_merge_18 dL_merge_19
    · rw [if_neg k0] at hv0
      cases hv0
  · by_cases k0 : k = 0
    · rw [if_pos k0] at hj
      cases hj
    · rw [if_neg k0] at hj
      cases hj
      rcases (show k = 1 ∨ k = 2 by omega) with rfl | rfl
      · have e9 : (if (1 : Nat) = 0 then xup I' 201 0 v else I') = I' := if_neg (by decide)
        rw [e9]
        exact hp_catch (j := 3) (k := 1) (n := 1) (hp2 := 13) hx hb hrt hlk hown hts hW hr1 hce hcv hcl [] ⟨0, 9, 12, 23⟩ [⟨0, 9, 15, 15⟩] htab (fun z hz => absurd hz List.not_mem_nil) (by decide) (by decide) wh584 (by decide +kernel) (fun kk => lv_astore_n hx hb dL_merge_12 rfl hl (by decide) rfl (fun ls' _ => kk ls')) (by decide) dL_merge_13 dL_merge_14
      · have e9 : (if (2 : Nat) = 0 then xup I' 201 0 v else I') = I' := if_neg (by decide)
        rw [e9]
        exact hp_catch (j := 2) (k := 2) (n := 2) (hp2 := 16) hx hb hrt hlk hown hts hW hr1 hce hcv hcl [⟨0, 9, 12, 23⟩] ⟨0, 9, 15, 15⟩ [] htab (List.forall_mem_cons.mpr ⟨⟨by decide, _, wh584, by decide +kernel⟩, fun z hz => absurd hz List.not_mem_nil⟩) (by decide) (by decide) wh450 (by decide +kernel) (fun kk => lv_astore_n hx hb dL_merge_15 rfl hl (by decide) rfl (fun ls' _ => kk ls')) (by decide) dL_merge_16 dL_merge_17
set_option maxHeartbeats 4000000 in
set_option maxRecDepth 100000 in
theorem h_pin (l : Launch) (hfl : l.stackTraces = false) (g : xG) (x1 : Int32) (x2 : Int32) (I : xMem) {k : Nat} {v : Int32} {I' : xMem} (hk : k ≤ 2) (hrun : f_X8_pin [.ref 0, .int x1, .int x2] I = some ((if k = 0 then .inl (some (.int v)) else .inr (xEx [3, 1] k)), I')) : vx_Met l yL_pin (Cond.codeWith yL_pin cL_pin 5 (some .int) [(0, 10, 13, 23), (0, 10, 17, 13)] :: wsAll) { frames := 7, cells := 1, slots := 6, locals := 131 } (xPcH g [.ref 0, .int x1, .int x2, .ref 201] I) (hQc g (nI k) (if k = 0 then xup I' 201 0 v else I')) hNo 1 6 (xA g) := by
  refine vx_ofWH (by decide +kernel) rfl ?_
  intro p e s m args below meth c s₁ B hml hv
  obtain ⟨rfl, hW, hP, hD, hz⟩ := hv
  have hts0 := atoms_spec (ws := Cond.codeWith yL_pin cL_pin 5 (some .int) [(0, 10, 13, 23), (0, 10, 17, 13)] :: wsAll) B.pre
  have hts := fun w (hw : w ∈ wsAll) => hts0 w (List.mem_cons_of_mem _ hw)
  have htab := vx_table (x := yL_pin) B (hts0 _ List.mem_cons_self)
  have hx := B.exec
  have hb := B.bytes
  have hrt := B.returns
  have hlk := B.notSynchronized
  have hown : s.vm.findClass RL = some m.cls := findClass_of_methodNamed B.named
  have hr : xRep g s I s.heap [] := ⟨hP, hD, va_S.rf⟩
  have hl := lv_entry ([.ref 0, .int x1, .int x2, .ref 201].map (xc g)) (n := 5) (Nat.le_of_ble_eq_true rfl)
  rw [lg_entry_eq]
  generalize (lg_sl ([.ref 0, .int x1, .int x2, .ref 201].map (xc g)) ++ List.replicate (5 - (lg_sl ([.ref 0, .int x1, .int x2, .ref 201].map (xc g))).length) Slot.unset).toArray = ls at hl ⊢
  have hl : lv_has ls 5 [(0, .ref (g.2.1 0)), (1, .int x1), (2, .int x2), (3, .ref (g.2.1 201))] := hl
  refine lv_aload_n hx hb dL_pin_0 rfl (lv_at hl 3 rfl) ?_
  refine lv_iconst (v := nI 0) hx hb dL_pin_1 (by decide) ?_
  refine lv_aload_n hx hb dL_pin_2 rfl (lv_at hl 0 rfl) ?_
  refine lv_iload_n hx hb dL_pin_3 rfl (lv_at hl 1 rfl) ?_
  refine lv_iload_n hx hb dL_pin_4 rfl (lv_at hl 2 rfl) ?_
  refine xcallX (rest := [.int (nI 0), .ref (g.2.1 201)]) (vx_runV (As := [.int x1, .int x2]) (rest := [.int (nI 0), .ref (g.2.1 201)]) (cc := cL_pin) (nL := 5) ⟨hx, hb, hml, hown, hts⟩ (m_X8_pin l hfl g [.ref 0, .int x1, .int x2] I _ hrun) (cwV 2 hts (xgoodV wh811 wh812 wh813 wh1 wh814) rfl rfl rfl ⟨rfl, by decide, by decide, by decide +kernel⟩ ⟨Nat.le_of_ble_eq_true rfl, Nat.le_of_ble_eq_true rfl⟩) ⟨xPc_blind, xrecv hW.1.1 hr (b := 0) (by decide) (by omega) (rfl : vwCl[8]? = some (RX8, TX8, 10)), xpre hW.1 hr hz⟩ rfl rfl hl.1 rfl (lv_room (Nat.le_of_ble_eq_true rfl)) dL_pin_5 ⟨Nat.le_of_ble_eq_true rfl, Nat.le_of_ble_eq_true rfl⟩) hr.2.2 (xWl_D hr.2.1) (fun v0 hv0 H1 locs1 hr1 => ?_) (fun j hj H1 locs1 q ce hr1 hce hcv hcl => ?_)
  · by_cases k0 : k = 0
    · subst k0
      rw [if_pos rfl] at hv0
      cases hv0
      have e9 : (if (0 : Nat) = 0 then xup I' 201 0 v else I') = xup I' 201 0 v := if_pos rfl
      rw [e9]
      exact hp_ok (tgt := 21) hx hb hrt hlk hW.1.1 hr1 dL_pin_8 dL_pin_9 dL_pin_10 (by decide) dL_pin_21 dL_pin_22
    · rw [if_neg k0] at hv0
      cases hv0
  · by_cases k0 : k = 0
    · rw [if_pos k0] at hj
      cases hj
    · rw [if_neg k0] at hj
      cases hj
      rcases (show k = 1 ∨ k = 2 by omega) with rfl | rfl
      · have e9 : (if (1 : Nat) = 0 then xup I' 201 0 v else I') = I' := if_neg (by decide)
        rw [e9]
        exact hp_catch (j := 3) (k := 1) (n := 1) (hp2 := 15) hx hb hrt hlk hown hts hW hr1 hce hcv hcl [] ⟨0, 10, 13, 23⟩ [⟨0, 10, 17, 13⟩] htab (fun z hz => absurd hz List.not_mem_nil) (by decide) (by decide) wh584 (by decide +kernel) (fun kk => lv_astore hx hb dL_pin_13 hl (by decide) rfl (fun ls' _ => kk ls')) (by decide) dL_pin_15 dL_pin_16
      · have e9 : (if (2 : Nat) = 0 then xup I' 201 0 v else I') = I' := if_neg (by decide)
        rw [e9]
        exact hp_catch (j := 1) (k := 2) (n := 2) (hp2 := 19) hx hb hrt hlk hown hts hW hr1 hce hcv hcl [⟨0, 10, 13, 23⟩] ⟨0, 10, 17, 13⟩ [] htab (List.forall_mem_cons.mpr ⟨⟨by decide, _, wh584, by decide +kernel⟩, fun z hz => absurd hz List.not_mem_nil⟩) (by decide) (by decide) wh449 (by decide +kernel) (fun kk => lv_astore hx hb dL_pin_17 hl (by decide) rfl (fun ls' _ => kk ls')) (by decide) dL_pin_19 dL_pin_20
set_option maxHeartbeats 4000000 in
set_option maxRecDepth 100000 in
theorem h_setLimit (l : Launch) (hfl : l.stackTraces = false) (g : xG) (x1 : Int32) (I : xMem) {k : Nat} {v : Int32} {I' : xMem} (hk : k ≤ 1) (hrun : f_X8_setLimit [.ref 0, .int x1] I = some ((if k = 0 then .inl (some (.int v)) else .inr (xEx [1] k)), I')) : vx_Met l yL_setLimit (Cond.codeWith yL_setLimit cL_setLimit 4 (some .int) [(0, 9, 12, 13)] :: wsAll) { frames := 7, cells := 1, slots := 6, locals := 130 } (xPcH g [.ref 0, .int x1, .ref 201] I) (hQc g (nI k) (if k = 0 then xup I' 201 0 v else I')) hNo 1 6 (xA g) := by
  refine vx_ofWH (by decide +kernel) rfl ?_
  intro p e s m args below meth c s₁ B hml hv
  obtain ⟨rfl, hW, hP, hD, hz⟩ := hv
  have hts0 := atoms_spec (ws := Cond.codeWith yL_setLimit cL_setLimit 4 (some .int) [(0, 9, 12, 13)] :: wsAll) B.pre
  have hts := fun w (hw : w ∈ wsAll) => hts0 w (List.mem_cons_of_mem _ hw)
  have htab := vx_table (x := yL_setLimit) B (hts0 _ List.mem_cons_self)
  have hx := B.exec
  have hb := B.bytes
  have hrt := B.returns
  have hlk := B.notSynchronized
  have hown : s.vm.findClass RL = some m.cls := findClass_of_methodNamed B.named
  have hr : xRep g s I s.heap [] := ⟨hP, hD, va_S.rf⟩
  have hl := lv_entry ([.ref 0, .int x1, .ref 201].map (xc g)) (n := 4) (Nat.le_of_ble_eq_true rfl)
  rw [lg_entry_eq]
  generalize (lg_sl ([.ref 0, .int x1, .ref 201].map (xc g)) ++ List.replicate (4 - (lg_sl ([.ref 0, .int x1, .ref 201].map (xc g))).length) Slot.unset).toArray = ls at hl ⊢
  have hl : lv_has ls 4 [(0, .ref (g.2.1 0)), (1, .int x1), (2, .ref (g.2.1 201))] := hl
  refine lv_aload_n hx hb dL_setLimit_0 rfl (lv_at hl 2 rfl) ?_
  refine lv_iconst (v := nI 0) hx hb dL_setLimit_1 (by decide) ?_
  refine lv_aload_n hx hb dL_setLimit_2 rfl (lv_at hl 0 rfl) ?_
  refine lv_iload_n hx hb dL_setLimit_3 rfl (lv_at hl 1 rfl) ?_
  refine xcallX (rest := [.int (nI 0), .ref (g.2.1 201)]) (vx_runV (As := [.int x1]) (rest := [.int (nI 0), .ref (g.2.1 201)]) (cc := cL_setLimit) (nL := 4) ⟨hx, hb, hml, hown, hts⟩ (m_X8_setLimit l hfl g [.ref 0, .int x1] I _ hrun) (cwV 1 hts (xgoodV wh827 wh828 wh829 wh1 wh830) rfl rfl rfl ⟨rfl, by decide, by decide, by decide +kernel⟩ ⟨Nat.le_of_ble_eq_true rfl, Nat.le_of_ble_eq_true rfl⟩) ⟨xPc_blind, xrecv hW.1.1 hr (b := 0) (by decide) (by omega) (rfl : vwCl[8]? = some (RX8, TX8, 10)), xpre hW.1 hr hz⟩ rfl rfl hl.1 rfl (lv_room (Nat.le_of_ble_eq_true rfl)) dL_setLimit_4 ⟨Nat.le_of_ble_eq_true rfl, Nat.le_of_ble_eq_true rfl⟩) hr.2.2 (xWl_D hr.2.1) (fun v0 hv0 H1 locs1 hr1 => ?_) (fun j hj H1 locs1 q ce hr1 hce hcv hcl => ?_)
  · by_cases k0 : k = 0
    · subst k0
      rw [if_pos rfl] at hv0
      cases hv0
      have e9 : (if (0 : Nat) = 0 then xup I' 201 0 v else I') = xup I' 201 0 v := if_pos rfl
      rw [e9]
      exact hp_ok (tgt := 15) hx hb hrt hlk hW.1.1 hr1 dL_setLimit_7 dL_setLimit_8 dL_setLimit_9 (by decide) dL_setLimit_15 dL_setLimit_16
    · rw [if_neg k0] at hv0
      cases hv0
  · by_cases k0 : k = 0
    · rw [if_pos k0] at hj
      cases hj
    · rw [if_neg k0] at hj
      cases hj
      rcases (show k = 1 by omega) with rfl
      · have e9 : (if (1 : Nat) = 0 then xup I' 201 0 v else I') = I' := if_neg (by decide)
        rw [e9]
        exact hp_catch (j := 1) (k := 1) (n := 1) (hp2 := 13) hx hb hrt hlk hown hts hW hr1 hce hcv hcl [] ⟨0, 9, 12, 13⟩ [] htab (fun z hz => absurd hz List.not_mem_nil) (by decide) (by decide) wh449 (by decide +kernel) (fun kk => lv_astore_n hx hb dL_setLimit_12 rfl hl (by decide) rfl (fun ls' _ => kk ls')) (by decide) dL_setLimit_13 dL_setLimit_14
set_option maxHeartbeats 4000000 in
set_option maxRecDepth 100000 in
theorem h_take (l : Launch) (hfl : l.stackTraces = false) (g : xG)  (I : xMem) {k : Nat} {v : Int32} {I' : xMem} (hk : k ≤ 1) (hrun : f_X8_take [.ref 0] I = some ((if k = 0 then .inl (some (.int v)) else .inr (xEx [2] k)), I')) : vx_Met l yL_take (Cond.codeWith yL_take cL_take 3 (some .int) [(0, 8, 11, 15)] :: wsAll) { frames := 7, cells := 1, slots := 6, locals := 159 } (xPcH g [.ref 0, .ref 201] I) (hQc g (nI k) (if k = 0 then xup I' 201 0 v else I')) hNo 1 6 (xA g) := by
  refine vx_ofWH (by decide +kernel) rfl ?_
  intro p e s m args below meth c s₁ B hml hv
  obtain ⟨rfl, hW, hP, hD, hz⟩ := hv
  have hts0 := atoms_spec (ws := Cond.codeWith yL_take cL_take 3 (some .int) [(0, 8, 11, 15)] :: wsAll) B.pre
  have hts := fun w (hw : w ∈ wsAll) => hts0 w (List.mem_cons_of_mem _ hw)
  have htab := vx_table (x := yL_take) B (hts0 _ List.mem_cons_self)
  have hx := B.exec
  have hb := B.bytes
  have hrt := B.returns
  have hlk := B.notSynchronized
  have hown : s.vm.findClass RL = some m.cls := findClass_of_methodNamed B.named
  have hr : xRep g s I s.heap [] := ⟨hP, hD, va_S.rf⟩
  have hl := lv_entry ([.ref 0, .ref 201].map (xc g)) (n := 3) (Nat.le_of_ble_eq_true rfl)
  rw [lg_entry_eq]
  generalize (lg_sl ([.ref 0, .ref 201].map (xc g)) ++ List.replicate (3 - (lg_sl ([.ref 0, .ref 201].map (xc g))).length) Slot.unset).toArray = ls at hl ⊢
  have hl : lv_has ls 3 [(0, .ref (g.2.1 0)), (1, .ref (g.2.1 201))] := hl
  refine lv_aload_n hx hb dL_take_0 rfl (lv_at hl 1 rfl) ?_
  refine lv_iconst (v := nI 0) hx hb dL_take_1 (by decide) ?_
  refine lv_aload_n hx hb dL_take_2 rfl (lv_at hl 0 rfl) ?_
  refine xcallX (rest := [.int (nI 0), .ref (g.2.1 201)]) (vx_runV (As := []) (rest := [.int (nI 0), .ref (g.2.1 201)]) (cc := cL_take) (nL := 3) ⟨hx, hb, hml, hown, hts⟩ (m_X8_take l hfl g [.ref 0] I _ hrun) (cwV 0 hts (xgoodV wh835 wh836 wh837 wh1 wh838) rfl rfl rfl ⟨rfl, by decide, by decide, by decide +kernel⟩ ⟨Nat.le_of_ble_eq_true rfl, Nat.le_of_ble_eq_true rfl⟩) ⟨xPc_blind, xrecv hW.1.1 hr (b := 0) (by decide) (by omega) (rfl : vwCl[8]? = some (RX8, TX8, 10)), xpre hW.1 hr hz⟩ rfl rfl hl.1 rfl (lv_room (Nat.le_of_ble_eq_true rfl)) dL_take_3 ⟨Nat.le_of_ble_eq_true rfl, Nat.le_of_ble_eq_true rfl⟩) hr.2.2 (xWl_D hr.2.1) (fun v0 hv0 H1 locs1 hr1 => ?_) (fun j hj H1 locs1 q ce hr1 hce hcv hcl => ?_)
  · by_cases k0 : k = 0
    · subst k0
      rw [if_pos rfl] at hv0
      cases hv0
      have e9 : (if (0 : Nat) = 0 then xup I' 201 0 v else I') = xup I' 201 0 v := if_pos rfl
      rw [e9]
      exact hp_ok (tgt := 14) hx hb hrt hlk hW.1.1 hr1 dL_take_6 dL_take_7 dL_take_8 (by decide) dL_take_14 dL_take_15
    · rw [if_neg k0] at hv0
      cases hv0
  · by_cases k0 : k = 0
    · rw [if_pos k0] at hj
      cases hj
    · rw [if_neg k0] at hj
      cases hj
      rcases (show k = 1 by omega) with rfl
      · have e9 : (if (1 : Nat) = 0 then xup I' 201 0 v else I') = I' := if_neg (by decide)
        rw [e9]
        exact hp_catch (j := 2) (k := 1) (n := 1) (hp2 := 12) hx hb hrt hlk hown hts hW hr1 hce hcv hcl [] ⟨0, 8, 11, 15⟩ [] htab (fun z hz => absurd hz List.not_mem_nil) (by decide) (by decide) wh450 (by decide +kernel) (fun kk => lv_astore_n hx hb dL_take_11 rfl hl (by decide) rfl (fun ls' _ => kk ls')) (by decide) dL_take_12 dL_take_13
end P62b
