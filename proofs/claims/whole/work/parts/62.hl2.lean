section P62c
set_option maxHeartbeats 4000000 in
set_option maxRecDepth 100000 in
theorem h_undo (l : Launch) (hfl : l.stackTraces = false) (g : xG)  (I : xMem) {k : Nat} {v : Int32} {I' : xMem} (hk : k ≤ 1) (hrun : f_X8_undo [.ref 0] I = some ((if k = 0 then .inl (some (.int v)) else .inr (xEx [2] k)), I')) : vx_Met l yL_undo (Cond.codeWith yL_undo cL_undo 3 (some .int) [(0, 8, 11, 15)] :: wsAll) { frames := 7, cells := 1, slots := 6, locals := 128 } (xPcH g [.ref 0, .ref 201] I) (hQc g (nI k) (if k = 0 then xup I' 201 0 v else I')) hNo 1 6 (xA g) := by
  refine vx_ofWH (by decide +kernel) rfl ?_
  intro p e s m args below meth c s₁ B hml hv
  obtain ⟨rfl, hW, hP, hD, hz⟩ := hv
  have hts0 := atoms_spec (ws := Cond.codeWith yL_undo cL_undo 3 (some .int) [(0, 8, 11, 15)] :: wsAll) B.pre
  have hts := fun w (hw : w ∈ wsAll) => hts0 w (List.mem_cons_of_mem _ hw)
  have htab := vx_table (x := yL_undo) B (hts0 _ List.mem_cons_self)
  have hx := B.exec
  have hb := B.bytes
  have hrt := B.returns
  have hlk := B.notSynchronized
  have hown : s.vm.findClass RL = some m.cls := findClass_of_methodNamed B.named
  have hr : xRep g s I s.heap [] := ⟨hP, hD, va_S.rf⟩
  have hl := lv_entry ([.ref 0, .ref 201].map (xc g)) (n := 3) (Nat.le_of_ble_eq_true rfl)
  rw [lg_entry_eq]
  generalize (lg_sl ([.ref 0, .ref 201].map (xc g)) ++ List.replicate (3 - (lg_sl ([.ref 0, .ref 201].map (xc g))).length) Slot.unset).toArray = ls at hl ⊢
  have hl : lv_has ls 3 [(0, .ref (g.2.1 0)), (1, .ref (g.2.1 201))] := hl
  refine lv_aload_n hx hb dL_undo_0 rfl (lv_at hl 1 rfl) ?_
  refine lv_iconst (v := nI 0) hx hb dL_undo_1 (by decide) ?_
  refine lv_aload_n hx hb dL_undo_2 rfl (lv_at hl 0 rfl) ?_
  refine xcallX (rest := [.int (nI 0), .ref (g.2.1 201)]) (vx_runV (As := []) (rest := [.int (nI 0), .ref (g.2.1 201)]) (cc := cL_undo) (nL := 3) ⟨hx, hb, hml, hown, hts⟩ (m_X8_undo l hfl g [.ref 0] I _ hrun) (cwV 0 hts (xgoodV wh851 wh852 wh853 wh1 wh854) rfl rfl rfl ⟨rfl, by decide, by decide, by decide +kernel⟩ ⟨Nat.le_of_ble_eq_true rfl, Nat.le_of_ble_eq_true rfl⟩) ⟨xPc_blind, xrecv hW.1.1 hr (b := 0) (by decide) (by omega) (rfl : vwCl[8]? = some (RX8, TX8, 10)), xpre hW.1 hr hz⟩ rfl rfl hl.1 rfl (lv_room (Nat.le_of_ble_eq_true rfl)) dL_undo_3 ⟨Nat.le_of_ble_eq_true rfl, Nat.le_of_ble_eq_true rfl⟩) hr.2.2 (xWl_D hr.2.1) (fun v0 hv0 H1 locs1 hr1 => ?_) (fun j hj H1 locs1 q ce hr1 hce hcv hcl => ?_)
  · by_cases k0 : k = 0
    · subst k0
      rw [if_pos rfl] at hv0
      cases hv0
      have e9 : (if (0 : Nat) = 0 then xup I' 201 0 v else I') = xup I' 201 0 v := if_pos rfl
      rw [e9]
      exact hp_ok (tgt := 14) hx hb hrt hlk hW.1.1 hr1 dL_undo_6 dL_undo_7 dL_undo_8 (by decide) dL_undo_14 dL_undo_15
    · rw [if_neg k0] at hv0
      cases hv0
  · by_cases k0 : k = 0
    · rw [if_pos k0] at hj
      cases hj
    · rw [if_neg k0] at hj
      cases hj
      rcases (show k = 1 by omega) with rfl
      · have e9 : (if (1 : Nat) = 0 then xup I' 201 0 v else I') = I' := if_neg (by decide)
        rw [e9]
        exact hp_catch (j := 2) (k := 1) (n := 1) (hp2 := 12) hx hb hrt hlk hown hts hW hr1 hce hcv hcl [] ⟨0, 8, 11, 15⟩ [] htab (fun z hz => absurd hz List.not_mem_nil) (by decide) (by decide) wh450 (by decide +kernel) (fun kk => lv_astore_n hx hb dL_undo_11 rfl hl (by decide) rfl (fun ls' _ => kk ls')) (by decide) dL_undo_12 dL_undo_13
set_option maxHeartbeats 4000000 in
set_option maxRecDepth 100000 in
theorem h_gain (l : Launch) (hfl : l.stackTraces = false) (g : xG) (x1 : Int32) (I : xMem) {k : Nat} {v : Int32} {I' : xMem} (hk : k ≤ 1) (hrun : f_X8_gain [.ref 0, .int x1] I = some ((if k = 0 then .inl (some (.int v)) else .inr (xEx [3] k)), I')) : vx_Met l yL_gain (Cond.codeWith yL_gain cL_gain 4 (some .int) [(0, 9, 12, 23)] :: wsAll) { frames := 7, cells := 1, slots := 6, locals := 113 } (xPcH g [.ref 0, .int x1, .ref 201] I) (hQc g (nI k) (if k = 0 then xup I' 201 0 v else I')) hNo 1 6 (xA g) := by
  refine vx_ofWH (by decide +kernel) rfl ?_
  intro p e s m args below meth c s₁ B hml hv
  obtain ⟨rfl, hW, hP, hD, hz⟩ := hv
  have hts0 := atoms_spec (ws := Cond.codeWith yL_gain cL_gain 4 (some .int) [(0, 9, 12, 23)] :: wsAll) B.pre
  have hts := fun w (hw : w ∈ wsAll) => hts0 w (List.mem_cons_of_mem _ hw)
  have htab := vx_table (x := yL_gain) B (hts0 _ List.mem_cons_self)
  have hx := B.exec
  have hb := B.bytes
  have hrt := B.returns
  have hlk := B.notSynchronized
  have hown : s.vm.findClass RL = some m.cls := findClass_of_methodNamed B.named
  have hr : xRep g s I s.heap [] := ⟨hP, hD, va_S.rf⟩
  have hl := lv_entry ([.ref 0, .int x1, .ref 201].map (xc g)) (n := 4) (Nat.le_of_ble_eq_true rfl)
  rw [lg_entry_eq]
  generalize (lg_sl ([.ref 0, .int x1, .ref 201].map (xc g)) ++ List.replicate (4 - (lg_sl ([.ref 0, .int x1, .ref 201].map (xc g))).length) Slot.unset).toArray = ls at hl ⊢
  have hl : lv_has ls 4 [(0, .ref (g.2.1 0)), (1, .int x1), (2, .ref (g.2.1 201))] := hl
  refine lv_aload_n hx hb dL_gain_0 rfl (lv_at hl 2 rfl) ?_
  refine lv_iconst (v := nI 0) hx hb dL_gain_1 (by decide) ?_
  refine lv_aload_n hx hb dL_gain_2 rfl (lv_at hl 0 rfl) ?_
  refine lv_iload_n hx hb dL_gain_3 rfl (lv_at hl 1 rfl) ?_
  refine xcallX (rest := [.int (nI 0), .ref (g.2.1 201)]) (vx_runV (As := [.int x1]) (rest := [.int (nI 0), .ref (g.2.1 201)]) (cc := cL_gain) (nL := 4) ⟨hx, hb, hml, hown, hts⟩ (m_X8_gain l hfl g [.ref 0, .int x1] I _ hrun) (cwV 1 hts (xgoodV wh867 wh868 wh869 wh1 wh870) rfl rfl rfl ⟨rfl, by decide, by decide, by decide +kernel⟩ ⟨Nat.le_of_ble_eq_true rfl, Nat.le_of_ble_eq_true rfl⟩) ⟨xPc_blind, xrecv hW.1.1 hr (b := 0) (by decide) (by omega) (rfl : vwCl[8]? = some (RX8, TX8, 10)), xpre hW.1 hr hz⟩ rfl rfl hl.1 rfl (lv_room (Nat.le_of_ble_eq_true rfl)) dL_gain_4 ⟨Nat.le_of_ble_eq_true rfl, Nat.le_of_ble_eq_true rfl⟩) hr.2.2 (xWl_D hr.2.1) (fun v0 hv0 H1 locs1 hr1 => ?_) (fun j hj H1 locs1 q ce hr1 hce hcv hcl => ?_)
  · by_cases k0 : k = 0
    · subst k0
      rw [if_pos rfl] at hv0
      cases hv0
      have e9 : (if (0 : Nat) = 0 then xup I' 201 0 v else I') = xup I' 201 0 v := if_pos rfl
      rw [e9]
      exact hp_ok (tgt := 15) hx hb hrt hlk hW.1.1 hr1 dL_gain_7 dL_gain_8 dL_gain_9 (by decide) dL_gain_15 dL_gain_16
    · rw [if_neg k0] at hv0
      cases hv0
  · by_cases k0 : k = 0
    · rw [if_pos k0] at hj
      cases hj
    · rw [if_neg k0] at hj
      cases hj
      rcases (show k = 1 by omega) with rfl
      · have e9 : (if (1 : Nat) = 0 then xup I' 201 0 v else I') = I' := if_neg (by decide)
        rw [e9]
        exact hp_catch (j := 3) (k := 1) (n := 1) (hp2 := 13) hx hb hrt hlk hown hts hW hr1 hce hcv hcl [] ⟨0, 9, 12, 23⟩ [] htab (fun z hz => absurd hz List.not_mem_nil) (by decide) (by decide) wh584 (by decide +kernel) (fun kk => lv_astore_n hx hb dL_gain_12 rfl hl (by decide) rfl (fun ls' _ => kk ls')) (by decide) dL_gain_13 dL_gain_14
set_option maxHeartbeats 4000000 in
set_option maxRecDepth 100000 in
theorem h_bestCut (l : Launch) (hfl : l.stackTraces = false) (g : xG) (x1 : Int32) (I : xMem) {k : Nat} {v : Int32} {I' : xMem} (hk : k ≤ 1) (hrun : f_X8_bestCut [.ref 0, .int x1] I = some ((if k = 0 then .inl (some (.int v)) else .inr (xEx [3] k)), I')) : vx_Met l yL_bestCut (Cond.codeWith yL_bestCut cL_bestCut 4 (some .int) [(0, 9, 12, 23)] :: wsAll) { frames := 7, cells := 1, slots := 6, locals := 117 } (xPcH g [.ref 0, .int x1, .ref 201] I) (hQc g (nI k) (if k = 0 then xup I' 201 0 v else I')) hNo 1 6 (xA g) := by
  refine vx_ofWH (by decide +kernel) rfl ?_
  intro p e s m args below meth c s₁ B hml hv
  obtain ⟨rfl, hW, hP, hD, hz⟩ := hv
  have hts0 := atoms_spec (ws := Cond.codeWith yL_bestCut cL_bestCut 4 (some .int) [(0, 9, 12, 23)] :: wsAll) B.pre
  have hts := fun w (hw : w ∈ wsAll) => hts0 w (List.mem_cons_of_mem _ hw)
  have htab := vx_table (x := yL_bestCut) B (hts0 _ List.mem_cons_self)
  have hx := B.exec
  have hb := B.bytes
  have hrt := B.returns
  have hlk := B.notSynchronized
  have hown : s.vm.findClass RL = some m.cls := findClass_of_methodNamed B.named
  have hr : xRep g s I s.heap [] := ⟨hP, hD, va_S.rf⟩
  have hl := lv_entry ([.ref 0, .int x1, .ref 201].map (xc g)) (n := 4) (Nat.le_of_ble_eq_true rfl)
  rw [lg_entry_eq]
  generalize (lg_sl ([.ref 0, .int x1, .ref 201].map (xc g)) ++ List.replicate (4 - (lg_sl ([.ref 0, .int x1, .ref 201].map (xc g))).length) Slot.unset).toArray = ls at hl ⊢
  have hl : lv_has ls 4 [(0, .ref (g.2.1 0)), (1, .int x1), (2, .ref (g.2.1 201))] := hl
  refine lv_aload_n hx hb dL_bestCut_0 rfl (lv_at hl 2 rfl) ?_
  refine lv_iconst (v := nI 0) hx hb dL_bestCut_1 (by decide) ?_
  refine lv_aload_n hx hb dL_bestCut_2 rfl (lv_at hl 0 rfl) ?_
  refine lv_iload_n hx hb dL_bestCut_3 rfl (lv_at hl 1 rfl) ?_
  refine xcallX (rest := [.int (nI 0), .ref (g.2.1 201)]) (vx_runV (As := [.int x1]) (rest := [.int (nI 0), .ref (g.2.1 201)]) (cc := cL_bestCut) (nL := 4) ⟨hx, hb, hml, hown, hts⟩ (m_X8_bestCut l hfl g [.ref 0, .int x1] I _ hrun) (cwV 1 hts (xgoodV wh875 wh876 wh877 wh1 wh878) rfl rfl rfl ⟨rfl, by decide, by decide, by decide +kernel⟩ ⟨Nat.le_of_ble_eq_true rfl, Nat.le_of_ble_eq_true rfl⟩) ⟨xPc_blind, xrecv hW.1.1 hr (b := 0) (by decide) (by omega) (rfl : vwCl[8]? = some (RX8, TX8, 10)), xpre hW.1 hr hz⟩ rfl rfl hl.1 rfl (lv_room (Nat.le_of_ble_eq_true rfl)) dL_bestCut_4 ⟨Nat.le_of_ble_eq_true rfl, Nat.le_of_ble_eq_true rfl⟩) hr.2.2 (xWl_D hr.2.1) (fun v0 hv0 H1 locs1 hr1 => ?_) (fun j hj H1 locs1 q ce hr1 hce hcv hcl => ?_)
  · by_cases k0 : k = 0
    · subst k0
      rw [if_pos rfl] at hv0
      cases hv0
      have e9 : (if (0 : Nat) = 0 then xup I' 201 0 v else I') = xup I' 201 0 v := if_pos rfl
      rw [e9]
      exact hp_ok (tgt := 15) hx hb hrt hlk hW.1.1 hr1 dL_bestCut_7 dL_bestCut_8 dL_bestCut_9 (by decide) dL_bestCut_15 dL_bestCut_16
    · rw [if_neg k0] at hv0
      cases hv0
  · by_cases k0 : k = 0
    · rw [if_pos k0] at hj
      cases hj
    · rw [if_neg k0] at hj
      cases hj
      rcases (show k = 1 by omega) with rfl
      · have e9 : (if (1 : Nat) = 0 then xup I' 201 0 v else I') = I' := if_neg (by decide)
        rw [e9]
        exact hp_catch (j := 3) (k := 1) (n := 1) (hp2 := 13) hx hb hrt hlk hown hts hW hr1 hce hcv hcl [] ⟨0, 9, 12, 23⟩ [] htab (fun z hz => absurd hz List.not_mem_nil) (by decide) (by decide) wh584 (by decide +kernel) (fun kk => lv_astore_n hx hb dL_bestCut_12 rfl hl (by decide) rfl (fun ls' _ => kk ls')) (by decide) dL_bestCut_13 dL_bestCut_14
set_option maxHeartbeats 4000000 in
set_option maxRecDepth 100000 in
theorem h_bestNext (l : Launch) (hfl : l.stackTraces = false) (g : xG) (x1 : Int32) (I : xMem) {k : Nat} {v : Int32} {I' : xMem} (hk : k ≤ 1) (hrun : f_X8_bestNext [.ref 0, .int x1] I = some ((if k = 0 then .inl (some (.int v)) else .inr (xEx [3] k)), I')) : vx_Met l yL_bestNext (Cond.codeWith yL_bestNext cL_bestNext 4 (some .int) [(0, 9, 12, 23)] :: wsAll) { frames := 7, cells := 1, slots := 6, locals := 116 } (xPcH g [.ref 0, .int x1, .ref 201] I) (hQc g (nI k) (if k = 0 then xup I' 201 0 v else I')) hNo 1 6 (xA g) := by
  refine vx_ofWH (by decide +kernel) rfl ?_
  intro p e s m args below meth c s₁ B hml hv
  obtain ⟨rfl, hW, hP, hD, hz⟩ := hv
  have hts0 := atoms_spec (ws := Cond.codeWith yL_bestNext cL_bestNext 4 (some .int) [(0, 9, 12, 23)] :: wsAll) B.pre
  have hts := fun w (hw : w ∈ wsAll) => hts0 w (List.mem_cons_of_mem _ hw)
  have htab := vx_table (x := yL_bestNext) B (hts0 _ List.mem_cons_self)
  have hx := B.exec
  have hb := B.bytes
  have hrt := B.returns
  have hlk := B.notSynchronized
  have hown : s.vm.findClass RL = some m.cls := findClass_of_methodNamed B.named
  have hr : xRep g s I s.heap [] := ⟨hP, hD, va_S.rf⟩
  have hl := lv_entry ([.ref 0, .int x1, .ref 201].map (xc g)) (n := 4) (Nat.le_of_ble_eq_true rfl)
  rw [lg_entry_eq]
  generalize (lg_sl ([.ref 0, .int x1, .ref 201].map (xc g)) ++ List.replicate (4 - (lg_sl ([.ref 0, .int x1, .ref 201].map (xc g))).length) Slot.unset).toArray = ls at hl ⊢
  have hl : lv_has ls 4 [(0, .ref (g.2.1 0)), (1, .int x1), (2, .ref (g.2.1 201))] := hl
  refine lv_aload_n hx hb dL_bestNext_0 rfl (lv_at hl 2 rfl) ?_
  refine lv_iconst (v := nI 0) hx hb dL_bestNext_1 (by decide) ?_
  refine lv_aload_n hx hb dL_bestNext_2 rfl (lv_at hl 0 rfl) ?_
  refine lv_iload_n hx hb dL_bestNext_3 rfl (lv_at hl 1 rfl) ?_
  refine xcallX (rest := [.int (nI 0), .ref (g.2.1 201)]) (vx_runV (As := [.int x1]) (rest := [.int (nI 0), .ref (g.2.1 201)]) (cc := cL_bestNext) (nL := 4) ⟨hx, hb, hml, hown, hts⟩ (m_X8_bestNext l hfl g [.ref 0, .int x1] I _ hrun) (cwV 1 hts (xgoodV wh887 wh888 wh889 wh1 wh890) rfl rfl rfl ⟨rfl, by decide, by decide, by decide +kernel⟩ ⟨Nat.le_of_ble_eq_true rfl, Nat.le_of_ble_eq_true rfl⟩) ⟨xPc_blind, xrecv hW.1.1 hr (b := 0) (by decide) (by omega) (rfl : vwCl[8]? = some (RX8, TX8, 10)), xpre hW.1 hr hz⟩ rfl rfl hl.1 rfl (lv_room (Nat.le_of_ble_eq_true rfl)) dL_bestNext_4 ⟨Nat.le_of_ble_eq_true rfl, Nat.le_of_ble_eq_true rfl⟩) hr.2.2 (xWl_D hr.2.1) (fun v0 hv0 H1 locs1 hr1 => ?_) (fun j hj H1 locs1 q ce hr1 hce hcv hcl => ?_)
  · by_cases k0 : k = 0
    · subst k0
      rw [if_pos rfl] at hv0
      cases hv0
      have e9 : (if (0 : Nat) = 0 then xup I' 201 0 v else I') = xup I' 201 0 v := if_pos rfl
      rw [e9]
      exact hp_ok (tgt := 15) hx hb hrt hlk hW.1.1 hr1 dL_bestNext_7 dL_bestNext_8 dL_bestNext_9 (by decide) dL_bestNext_15 dL_bestNext_16
    · rw [if_neg k0] at hv0
      cases hv0
  · by_cases k0 : k = 0
    · rw [if_pos k0] at hj
      cases hj
    · rw [if_neg k0] at hj
      cases hj
      rcases (show k = 1 by omega) with rfl
      · have e9 : (if (1 : Nat) = 0 then xup I' 201 0 v else I') = I' := if_neg (by decide)
        rw [e9]
        exact hp_catch (j := 3) (k := 1) (n := 1) (hp2 := 13) hx hb hrt hlk hown hts hW hr1 hce hcv hcl [] ⟨0, 9, 12, 23⟩ [] htab (fun z hz => absurd hz List.not_mem_nil) (by decide) (by decide) wh584 (by decide +kernel) (fun kk => lv_astore_n hx hb dL_bestNext_12 rfl hl (by decide) rfl (fun ls' _ => kk ls')) (by decide) dL_bestNext_13 dL_bestNext_14
set_option maxHeartbeats 4000000 in
set_option maxRecDepth 100000 in
theorem h_runScript (l : Launch) (hfl : l.stackTraces = false) (g : xG) (x1 : Int32) (x2 : Int64) (I : xMem) {k : Nat} {v : Int32} {I' : xMem} (hk : k ≤ 1) (hrun : f_X8_runScript [.ref 0, .int x1, .long x2] I = some ((if k = 0 then .inl (some (.int v)) else .inr (xEx [1] k)), I')) : vx_Met l yL_runScript (Cond.codeWith yL_runScript cL_runScript 6 (some .int) [(0, 11, 14, 13)] :: wsAll) { frames := 7, cells := 1, slots := 6, locals := 163 } (xPcH g [.ref 0, .int x1, .long x2, .ref 201] I) (hQc g (nI k) (if k = 0 then xup I' 201 0 v else I')) hNo 1 6 (xA g) := by
  refine vx_ofWH (by decide +kernel) rfl ?_
  intro p e s m args below meth c s₁ B hml hv
  obtain ⟨rfl, hW, hP, hD, hz⟩ := hv
  have hts0 := atoms_spec (ws := Cond.codeWith yL_runScript cL_runScript 6 (some .int) [(0, 11, 14, 13)] :: wsAll) B.pre
  have hts := fun w (hw : w ∈ wsAll) => hts0 w (List.mem_cons_of_mem _ hw)
  have htab := vx_table (x := yL_runScript) B (hts0 _ List.mem_cons_self)
  have hx := B.exec
  have hb := B.bytes
  have hrt := B.returns
  have hlk := B.notSynchronized
  have hown : s.vm.findClass RL = some m.cls := findClass_of_methodNamed B.named
  have hr : xRep g s I s.heap [] := ⟨hP, hD, va_S.rf⟩
  have hl := lv_entry ([.ref 0, .int x1, .long x2, .ref 201].map (xc g)) (n := 6) (Nat.le_of_ble_eq_true rfl)
  rw [lg_entry_eq]
  generalize (lg_sl ([.ref 0, .int x1, .long x2, .ref 201].map (xc g)) ++ List.replicate (6 - (lg_sl ([.ref 0, .int x1, .long x2, .ref 201].map (xc g))).length) Slot.unset).toArray = ls at hl ⊢
  have hl : lv_has ls 6 [(0, .ref (g.2.1 0)), (1, .int x1), (2, .long x2), (4, .ref (g.2.1 201))] := hl
  refine lv_aload hx hb dL_runScript_0 (lv_at hl 3 rfl) ?_
  refine lv_iconst (v := nI 0) hx hb dL_runScript_2 (by decide) ?_
  refine lv_aload_n hx hb dL_runScript_3 rfl (lv_at hl 0 rfl) ?_
  refine lv_iload_n hx hb dL_runScript_4 rfl (lv_at hl 1 rfl) ?_
  refine lv_lload_n hx hb dL_runScript_5 rfl (lv_at hl 2 rfl) ?_
  refine xcallX (rest := [.int (nI 0), .ref (g.2.1 201)]) (vx_runV (As := [.int x1, .long x2]) (rest := [.int (nI 0), .ref (g.2.1 201)]) (cc := cL_runScript) (nL := 6) ⟨hx, hb, hml, hown, hts⟩ (m_X8_runScript l hfl g [.ref 0, .int x1, .long x2] I _ hrun) (cwV 2 hts (xgoodV wh899 wh900 wh901 wh1 wh902) rfl rfl rfl ⟨rfl, by decide, by decide, by decide +kernel⟩ ⟨Nat.le_of_ble_eq_true rfl, Nat.le_of_ble_eq_true rfl⟩) ⟨xPc_blind, xrecv hW.1.1 hr (b := 0) (by decide) (by omega) (rfl : vwCl[8]? = some (RX8, TX8, 10)), xpre hW.1 hr hz⟩ rfl rfl hl.1 rfl (lv_room (Nat.le_of_ble_eq_true rfl)) dL_runScript_6 ⟨Nat.le_of_ble_eq_true rfl, Nat.le_of_ble_eq_true rfl⟩) hr.2.2 (xWl_D hr.2.1) (fun v0 hv0 H1 locs1 hr1 => ?_) (fun j hj H1 locs1 q ce hr1 hce hcv hcl => ?_)
  · by_cases k0 : k = 0
    · subst k0
      rw [if_pos rfl] at hv0
      cases hv0
      have e9 : (if (0 : Nat) = 0 then xup I' 201 0 v else I') = xup I' 201 0 v := if_pos rfl
      rw [e9]
      exact hp_ok (tgt := 18) hx hb hrt hlk hW.1.1 hr1 dL_runScript_9 dL_runScript_10 dL_runScript_11 (by decide) dL_runScript_18 dL_runScript_19
    · rw [if_neg k0] at hv0
      cases hv0
  · by_cases k0 : k = 0
    · rw [if_pos k0] at hj
      cases hj
    · rw [if_neg k0] at hj
      cases hj
      rcases (show k = 1 by omega) with rfl
      · have e9 : (if (1 : Nat) = 0 then xup I' 201 0 v else I') = I' := if_neg (by decide)
        rw [e9]
        exact hp_catch (j := 1) (k := 1) (n := 1) (hp2 := 16) hx hb hrt hlk hown hts hW hr1 hce hcv hcl [] ⟨0, 11, 14, 13⟩ [] htab (fun z hz => absurd hz List.not_mem_nil) (by decide) (by decide) wh449 (by decide +kernel) (fun kk => lv_astore hx hb dL_runScript_14 hl (by decide) rfl (fun ls' _ => kk ls')) (by decide) dL_runScript_16 dL_runScript_17
set_option maxHeartbeats 4000000 in
set_option maxRecDepth 100000 in
theorem h_simulate (l : Launch) (hfl : l.stackTraces = false) (g : xG) (x1 : Int64) (x2 : Int32) (I : xMem) {k : Nat} {v : Int32} {I' : xMem} (hk : k ≤ 1) (hrun : f_X8_simulate [.ref 0, .long x1, .int x2] I = some ((if k = 0 then .inl (some (.int v)) else .inr (xEx [1] k)), I')) : vx_Met l yL_simulate (Cond.codeWith yL_simulate cL_simulate 6 (some .int) [(0, 11, 14, 13)] :: wsAll) { frames := 7, cells := 1, slots := 6, locals := 158 } (xPcH g [.ref 0, .long x1, .int x2, .ref 201] I) (hQc g (nI k) (if k = 0 then xup I' 201 0 v else I')) hNo 1 6 (xA g) := by
  refine vx_ofWH (by decide +kernel) rfl ?_
  intro p e s m args below meth c s₁ B hml hv
  obtain ⟨rfl, hW, hP, hD, hz⟩ := hv
  have hts0 := atoms_spec (ws := Cond.codeWith yL_simulate cL_simulate 6 (some .int) [(0, 11, 14, 13)] :: wsAll) B.pre
  have hts := fun w (hw : w ∈ wsAll) => hts0 w (List.mem_cons_of_mem _ hw)
  have htab := vx_table (x := yL_simulate) B (hts0 _ List.mem_cons_self)
  have hx := B.exec
  have hb := B.bytes
  have hrt := B.returns
  have hlk := B.notSynchronized
  have hown : s.vm.findClass RL = some m.cls := findClass_of_methodNamed B.named
  have hr : xRep g s I s.heap [] := ⟨hP, hD, va_S.rf⟩
  have hl := lv_entry ([.ref 0, .long x1, .int x2, .ref 201].map (xc g)) (n := 6) (Nat.le_of_ble_eq_true rfl)
  rw [lg_entry_eq]
  generalize (lg_sl ([.ref 0, .long x1, .int x2, .ref 201].map (xc g)) ++ List.replicate (6 - (lg_sl ([.ref 0, .long x1, .int x2, .ref 201].map (xc g))).length) Slot.unset).toArray = ls at hl ⊢
  have hl : lv_has ls 6 [(0, .ref (g.2.1 0)), (1, .long x1), (3, .int x2), (4, .ref (g.2.1 201))] := hl
  refine lv_aload hx hb dL_simulate_0 (lv_at hl 3 rfl) ?_
  refine lv_iconst (v := nI 0) hx hb dL_simulate_2 (by decide) ?_
  refine lv_aload_n hx hb dL_simulate_3 rfl (lv_at hl 0 rfl) ?_
  refine lv_lload_n hx hb dL_simulate_4 rfl (lv_at hl 1 rfl) ?_
  refine lv_iload_n hx hb dL_simulate_5 rfl (lv_at hl 2 rfl) ?_
  refine xcallX (rest := [.int (nI 0), .ref (g.2.1 201)]) (vx_runV (As := [.long x1, .int x2]) (rest := [.int (nI 0), .ref (g.2.1 201)]) (cc := cL_simulate) (nL := 6) ⟨hx, hb, hml, hown, hts⟩ (m_X8_simulate l hfl g [.ref 0, .long x1, .int x2] I _ hrun) (cwV 2 hts (xgoodV wh956 wh957 wh958 wh1 wh959) rfl rfl rfl ⟨rfl, by decide, by decide, by decide +kernel⟩ ⟨Nat.le_of_ble_eq_true rfl, Nat.le_of_ble_eq_true rfl⟩) ⟨xPc_blind, xrecv hW.1.1 hr (b := 0) (by decide) (by omega) (rfl : vwCl[8]? = some (RX8, TX8, 10)), xpre hW.1 hr hz⟩ rfl rfl hl.1 rfl (lv_room (Nat.le_of_ble_eq_true rfl)) dL_simulate_6 ⟨Nat.le_of_ble_eq_true rfl, Nat.le_of_ble_eq_true rfl⟩) hr.2.2 (xWl_D hr.2.1) (fun v0 hv0 H1 locs1 hr1 => ?_) (fun j hj H1 locs1 q ce hr1 hce hcv hcl => ?_)
  · by_cases k0 : k = 0
    · subst k0
      rw [if_pos rfl] at hv0
      cases hv0
      have e9 : (if (0 : Nat) = 0 then xup I' 201 0 v else I') = xup I' 201 0 v := if_pos rfl
      rw [e9]
      exact hp_ok (tgt := 18) hx hb hrt hlk hW.1.1 hr1 dL_simulate_9 dL_simulate_10 dL_simulate_11 (by decide) dL_simulate_18 dL_simulate_19
    · rw [if_neg k0] at hv0
      cases hv0
  · by_cases k0 : k = 0
    · rw [if_pos k0] at hj
      cases hj
    · rw [if_neg k0] at hj
      cases hj
      rcases (show k = 1 by omega) with rfl
      · have e9 : (if (1 : Nat) = 0 then xup I' 201 0 v else I') = I' := if_neg (by decide)
        rw [e9]
        exact hp_catch (j := 1) (k := 1) (n := 1) (hp2 := 16) hx hb hrt hlk hown hts hW hr1 hce hcv hcl [] ⟨0, 11, 14, 13⟩ [] htab (fun z hz => absurd hz List.not_mem_nil) (by decide) (by decide) wh449 (by decide +kernel) (fun kk => lv_astore hx hb dL_simulate_14 hl (by decide) rfl (fun ls' _ => kk ls')) (by decide) dL_simulate_16 dL_simulate_17
set_option maxHeartbeats 4000000 in
set_option maxRecDepth 100000 in
theorem h_save (l : Launch) (hfl : l.stackTraces = false) (g : xG) (x1 : Int32) (I : xMem) {k : Nat} {v : Int32} {I' : xMem} (hk : k ≤ 1) (hrun : f_X8_save [.ref 0, .int x1] I = some ((if k = 0 then .inl (some (.int v)) else .inr (xEx [3] k)), I')) : vx_Met l yL_save (Cond.codeWith yL_save cL_save 4 (some .int) [(0, 9, 12, 23)] :: wsAll) { frames := 7, cells := 1, slots := 6, locals := 111 } (xPcH g [.ref 0, .int x1, .ref 201] I) (hQc g (nI k) (if k = 0 then xup I' 201 0 v else I')) hNo 1 6 (xA g) := by
  refine vx_ofWH (by decide +kernel) rfl ?_
  intro p e s m args below meth c s₁ B hml hv
  obtain ⟨rfl, hW, hP, hD, hz⟩ := hv
  have hts0 := atoms_spec (ws := Cond.codeWith yL_save cL_save 4 (some .int) [(0, 9, 12, 23)] :: wsAll) B.pre
  have hts := fun w (hw : w ∈ wsAll) => hts0 w (List.mem_cons_of_mem _ hw)
  have htab := vx_table (x := yL_save) B (hts0 _ List.mem_cons_self)
  have hx := B.exec
  have hb := B.bytes
  have hrt := B.returns
  have hlk := B.notSynchronized
  have hown : s.vm.findClass RL = some m.cls := findClass_of_methodNamed B.named
  have hr : xRep g s I s.heap [] := ⟨hP, hD, va_S.rf⟩
  have hl := lv_entry ([.ref 0, .int x1, .ref 201].map (xc g)) (n := 4) (Nat.le_of_ble_eq_true rfl)
  rw [lg_entry_eq]
  generalize (lg_sl ([.ref 0, .int x1, .ref 201].map (xc g)) ++ List.replicate (4 - (lg_sl ([.ref 0, .int x1, .ref 201].map (xc g))).length) Slot.unset).toArray = ls at hl ⊢
  have hl : lv_has ls 4 [(0, .ref (g.2.1 0)), (1, .int x1), (2, .ref (g.2.1 201))] := hl
  refine lv_aload_n hx hb dL_save_0 rfl (lv_at hl 2 rfl) ?_
  refine lv_iconst (v := nI 0) hx hb dL_save_1 (by decide) ?_
  refine lv_aload_n hx hb dL_save_2 rfl (lv_at hl 0 rfl) ?_
  refine lv_iload_n hx hb dL_save_3 rfl (lv_at hl 1 rfl) ?_
  refine xcallX (rest := [.int (nI 0), .ref (g.2.1 201)]) (vx_runV (As := [.int x1]) (rest := [.int (nI 0), .ref (g.2.1 201)]) (cc := cL_save) (nL := 4) ⟨hx, hb, hml, hown, hts⟩ (m_X8_save l hfl g [.ref 0, .int x1] I _ hrun) (cwV 1 hts (xgoodV wh987 wh988 wh989 wh1 wh990) rfl rfl rfl ⟨rfl, by decide, by decide, by decide +kernel⟩ ⟨Nat.le_of_ble_eq_true rfl, Nat.le_of_ble_eq_true rfl⟩) ⟨xPc_blind, xrecv hW.1.1 hr (b := 0) (by decide) (by omega) (rfl : vwCl[8]? = some (RX8, TX8, 10)), xpre hW.1 hr hz⟩ rfl rfl hl.1 rfl (lv_room (Nat.le_of_ble_eq_true rfl)) dL_save_4 ⟨Nat.le_of_ble_eq_true rfl, Nat.le_of_ble_eq_true rfl⟩) hr.2.2 (xWl_D hr.2.1) (fun v0 hv0 H1 locs1 hr1 => ?_) (fun j hj H1 locs1 q ce hr1 hce hcv hcl => ?_)
  · by_cases k0 : k = 0
    · subst k0
      rw [if_pos rfl] at hv0
      cases hv0
      have e9 : (if (0 : Nat) = 0 then xup I' 201 0 v else I') = xup I' 201 0 v := if_pos rfl
      rw [e9]
      exact hp_ok (tgt := 15) hx hb hrt hlk hW.1.1 hr1 dL_save_7 dL_save_8 dL_save_9 (by decide) dL_save_15 dL_save_16
    · rw [if_neg k0] at hv0
      cases hv0
  · by_cases k0 : k = 0
    · rw [if_pos k0] at hj
      cases hj
    · rw [if_neg k0] at hj
      cases hj
      rcases (show k = 1 by omega) with rfl
      · have e9 : (if (1 : Nat) = 0 then xup I' 201 0 v else I') = I' := if_neg (by decide)
        rw [e9]
        exact hp_catch (j := 3) (k := 1) (n := 1) (hp2 := 13) hx hb hrt hlk hown hts hW hr1 hce hcv hcl [] ⟨0, 9, 12, 23⟩ [] htab (fun z hz => absurd hz List.not_mem_nil) (by decide) (by decide) wh584 (by decide +kernel) (fun kk => lv_astore_n hx hb dL_save_12 rfl hl (by decide) rfl (fun ls' _ => kk ls')) (by decide) dL_save_13 dL_save_14
set_option maxHeartbeats 4000000 in
set_option maxRecDepth 100000 in
theorem h_restore (l : Launch) (hfl : l.stackTraces = false) (g : xG) (x1 : Int32) (I : xMem) {k : Nat} {v : Int32} {I' : xMem} (hk : k ≤ 2) (hrun : f_X8_restore [.ref 0, .int x1] I = some ((if k = 0 then .inl (some (.int v)) else .inr (xEx [3, 2] k)), I')) : vx_Met l yL_restore (Cond.codeWith yL_restore cL_restore 4 (some .int) [(0, 9, 12, 23), (0, 9, 15, 15)] :: wsAll) { frames := 7, cells := 1, slots := 6, locals := 111 } (xPcH g [.ref 0, .int x1, .ref 201] I) (hQc g (nI k) (if k = 0 then xup I' 201 0 v else I')) hNo 1 6 (xA g) := by
  refine vx_ofWH (by decide +kernel) rfl ?_
  intro p e s m args below meth c s₁ B hml hv
  obtain ⟨rfl, hW, hP, hD, hz⟩ := hv
  have hts0 := atoms_spec (ws := Cond.codeWith yL_restore cL_restore 4 (some .int) [(0, 9, 12, 23), (0, 9, 15, 15)] :: wsAll) B.pre
  have hts := fun w (hw : w ∈ wsAll) => hts0 w (List.mem_cons_of_mem _ hw)
  have htab := vx_table (x := yL_restore) B (hts0 _ List.mem_cons_self)
  have hx := B.exec
  have hb := B.bytes
  have hrt := B.returns
  have hlk := B.notSynchronized
  have hown : s.vm.findClass RL = some m.cls := findClass_of_methodNamed B.named
  have hr : xRep g s I s.heap [] := ⟨hP, hD, va_S.rf⟩
  have hl := lv_entry ([.ref 0, .int x1, .ref 201].map (xc g)) (n := 4) (Nat.le_of_ble_eq_true rfl)
  rw [lg_entry_eq]
  generalize (lg_sl ([.ref 0, .int x1, .ref 201].map (xc g)) ++ List.replicate (4 - (lg_sl ([.ref 0, .int x1, .ref 201].map (xc g))).length) Slot.unset).toArray = ls at hl ⊢
  have hl : lv_has ls 4 [(0, .ref (g.2.1 0)), (1, .int x1), (2, .ref (g.2.1 201))] := hl
  refine lv_aload_n hx hb dL_restore_0 rfl (lv_at hl 2 rfl) ?_
  refine lv_iconst (v := nI 0) hx hb dL_restore_1 (by decide) ?_
  refine lv_aload_n hx hb dL_restore_2 rfl (lv_at hl 0 rfl) ?_
  refine lv_iload_n hx hb dL_restore_3 rfl (lv_at hl 1 rfl) ?_
  refine xcallX (rest := [.int (nI 0), .ref (g.2.1 201)]) (vx_runV (As := [.int x1]) (rest := [.int (nI 0), .ref (g.2.1 201)]) (cc := cL_restore) (nL := 4) ⟨hx, hb, hml, hown, hts⟩ (m_X8_restore l hfl g [.ref 0, .int x1] I _ hrun) (cwV 1 hts (xgoodV wh996 wh997 wh998 wh1 wh999) rfl rfl rfl ⟨rfl, by decide, by decide, by decide +kernel⟩ ⟨Nat.le_of_ble_eq_true rfl, Nat.le_of_ble_eq_true rfl⟩) ⟨xPc_blind, xrecv hW.1.1 hr (b := 0) (by decide) (by omega) (rfl : vwCl[8]? = some (RX8, TX8, 10)), xpre hW.1 hr hz⟩ rfl rfl hl.1 rfl (lv_room (Nat.le_of_ble_eq_true rfl)) dL_restore_4 ⟨Nat.le_of_ble_eq_true rfl, Nat.le_of_ble_eq_true rfl⟩) hr.2.2 (xWl_D hr.2.1) (fun v0 hv0 H1 locs1 hr1 => ?_) (fun j hj H1 locs1 q ce hr1 hce hcv hcl => ?_)
  · by_cases k0 : k = 0
    · subst k0
      rw [if_pos rfl] at hv0
      cases hv0
      have e9 : (if (0 : Nat) = 0 then xup I' 201 0 v else I') = xup I' 201 0 v := if_pos rfl
      rw [e9]
      exact hp_ok (tgt := 18) hx hb hrt hlk hW.1.1 hr1 dL_restore_7 dL_restore_8 dL_restore_9 (by decide) dL_restore_18 dL_restore_19
    · rw [if_neg k0] at hv0
      cases hv0
  · by_cases k0 : k = 0
    · rw [if_pos k0] at hj
      cases hj
    · rw [if_neg k0] at hj
      cases hj
      rcases (show k = 1 ∨ k = 2 by omega) with rfl | rfl
      · have e9 : (if (1 : Nat) = 0 then xup I' 201 0 v else I') = I' := if_neg (by decide)
        rw [e9]
        exact hp_catch (j := 3) (k := 1) (n := 1) (hp2 := 13) hx hb hrt hlk hown hts hW hr1 hce hcv hcl [] ⟨0, 9, 12, 23⟩ [⟨0, 9, 15, 15⟩] htab (fun z hz => absurd hz List.not_mem_nil) (by decide) (by decide) wh584 (by decide +kernel) (fun kk => lv_astore_n hx hb dL_restore_12 rfl hl (by decide) rfl (fun ls' _ => kk ls')) (by decide) dL_restore_13 dL_restore_14
      · have e9 : (if (2 : Nat) = 0 then xup I' 201 0 v else I') = I' := if_neg (by decide)
        rw [e9]
        exact hp_catch (j := 2) (k := 2) (n := 2) (hp2 := 16) hx hb hrt hlk hown hts hW hr1 hce hcv hcl [⟨0, 9, 12, 23⟩] ⟨0, 9, 15, 15⟩ [] htab (List.forall_mem_cons.mpr ⟨⟨by decide, _, wh584, by decide +kernel⟩, fun z hz => absurd hz List.not_mem_nil⟩) (by decide) (by decide) wh450 (by decide +kernel) (fun kk => lv_astore_n hx hb dL_restore_15 rfl hl (by decide) rfl (fun ls' _ => kk ls')) (by decide) dL_restore_16 dL_restore_17
end P62c
