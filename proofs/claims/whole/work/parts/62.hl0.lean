section P62a
set_option maxHeartbeats 4000000 in
set_option maxRecDepth 100000 in
theorem h_append (l : Launch) (hfl : l.stackTraces = false) (g : xG) (x1 : Int32) (I : xMem) {k : Nat} {v : Int32} {I' : xMem} (hk : k ≤ 2) (hrun : f_X8_append [.ref 0, .int x1] I = some ((if k = 0 then .inl (some (.int v)) else .inr (xEx [1, 2] k)), I')) : vx_Met l yL_append (Cond.codeWith yL_append cL_append 4 (some .int) [(0, 9, 12, 13), (0, 9, 15, 15)] :: wsAll) { frames := 7, cells := 1, slots := 6, locals := 111 } (xPcH g [.ref 0, .int x1, .ref 201] I) (hQc g (nI k) (if k = 0 then xup I' 201 0 v else I')) hNo 1 6 (xA g) := by
  refine vx_ofWH (by decide +kernel) rfl ?_
  intro p e s m args below meth c s₁ B hml hv
  obtain ⟨rfl, hW, hP, hD, hz⟩ := hv
  have hts0 := atoms_spec (ws := Cond.codeWith yL_append cL_append 4 (some .int) [(0, 9, 12, 13), (0, 9, 15, 15)] :: wsAll) B.pre
  have hts := fun w (hw : w ∈ wsAll) => hts0 w (List.mem_cons_of_mem _ hw)
  have htab := vx_table (x := yL_append) B (hts0 _ List.mem_cons_self)
  have hx := B.exec
  have hb := B.bytes
  have hrt := B.returns
  have hlk := B.notSynchronized
  have hown : s.vm.findClass RL = some m.cls := findClass_of_methodNamed B.named
  have hr : xRep g s I s.heap [] := ⟨hP, hD, va_S.rf⟩
  have hl := lv_entry ([.ref 0, .int x1, .ref 201].map (xc g)) (n := 4) (Nat.le_of_ble_eq_true rfl)
  rw [lg_entry_eq]
  generalize (lg_sl ([.ref 0, .int x1, .ref 201].map (xc g)) ++ List.replicate (4 - (lg_sl ([.ref 0, .int x1, .ref 201].map (xc g))).length) Slot.unset).toArray = ls at hl ⊢
  have hl : lv_has ls 4 [(0, .ref (g.2.1 0)), (1, .int x1), (2, .ref (g.2.1 201))] := hl
  refine lv_aload_n hx hb dL_append_0 rfl (lv_at hl 2 rfl) ?_
  refine lv_iconst (v := nI 0) hx hb dL_append_1 (by decide) ?_
  refine lv_aload_n hx hb dL_append_2 rfl (lv_at hl 0 rfl) ?_
  refine lv_iload_n hx hb dL_append_3 rfl (lv_at hl 1 rfl) ?_
  refine xcallX (rest := [.int (nI 0), .ref (g.2.1 201)]) (vx_runV (As := [.int x1]) (rest := [.int (nI 0), .ref (g.2.1 201)]) (cc := cL_append) (nL := 4) ⟨hx, hb, hml, hown, hts⟩ (m_X8_append l hfl g [.ref 0, .int x1] I _ hrun) (cwV 1 hts (xgoodV wh451 wh452 wh453 wh1 wh454) rfl rfl rfl ⟨rfl, by decide, by decide, by decide +kernel⟩ ⟨Nat.le_of_ble_eq_true rfl, Nat.le_of_ble_eq_true rfl⟩) ⟨xPc_blind, xrecv hW.1.1 hr (b := 0) (by decide) (by omega) (rfl : vwCl[8]? = some (RX8, TX8, 10)), xpre hW.1 hr hz⟩ rfl rfl hl.1 rfl (lv_room (Nat.le_of_ble_eq_true rfl)) dL_append_4 ⟨Nat.le_of_ble_eq_true rfl, Nat.le_of_ble_eq_true rfl⟩) hr.2.2 (xWl_D hr.2.1) (fun v0 hv0 H1 locs1 hr1 => ?_) (fun j hj H1 locs1 q ce hr1 hce hcv hcl => ?_)
  · by_cases k0 : k = 0
    · subst k0
      rw [if_pos rfl] at hv0
      cases hv0
      have e9 : (if (0 : Nat) = 0 then xup I' 201 0 v else I') = xup I' 201 0 v := if_pos rfl
      rw [e9]
      exact hp_ok (tgt := 18) hx hb hrt hlk hW.1.1 hr1 dL_append_7 dL_append_8 dL_append_9 (by decide) dL_append_18 dL_append_19
    · rw [if_neg k0] at hv0
      cases hv0
  · by_cases k0 : k = 0
    · rw [if_pos k0] at hj
      cases hj
    · rw [if_neg k0] at hj
      cases hj
      rcases (show k = 1 ∨ k = 2 by omega) with rfl | rfl
      · have e9 : (if (1 : Nat) = 0 then xup I' 201 0 v else I') = I' := if_neg (by decide)
        rw [e9]
        exact hp_catch (j := 1) (k := 1) (n := 1) (hp2 := 13) hx hb hrt hlk hown hts hW hr1 hce hcv hcl [] ⟨0, 9, 12, 13⟩ [⟨0, 9, 15, 15⟩] htab (fun z hz => absurd hz List.not_mem_nil) (by decide) (by decide) wh449 (by decide +kernel) (fun kk => lv_astore_n hx hb dL_append_12 rfl hl (by decide) rfl (fun ls' _ => kk ls')) (by decide) dL_append_13 dL_append_14
      · have e9 : (if (2 : Nat) = 0 then xup I' 201 0 v else I') = I' := if_neg (by decide)
        rw [e9]
        exact hp_catch (j := 2) (k := 2) (n := 2) (hp2 := 16) hx hb hrt hlk hown hts hW hr1 hce hcv hcl [⟨0, 9, 12, 13⟩] ⟨0, 9, 15, 15⟩ [] htab (List.forall_mem_cons.mpr ⟨⟨by decide, _, wh449, by decide +kernel⟩, fun z hz => absurd hz List.not_mem_nil⟩) (by decide) (by decide) wh450 (by decide +kernel) (fun kk => lv_astore_n hx hb dL_append_15 rfl hl (by decide) rfl (fun ls' _ => kk ls')) (by decide) dL_append_16 dL_append_17
set_option maxHeartbeats 4000000 in
set_option maxRecDepth 100000 in
theorem h_about (l : Launch) (hfl : l.stackTraces = false) (g : xG) (x1 : Int32) (I : xMem) {k : Nat} {v : Int32} {I' : xMem} (hk : k ≤ 1) (hrun : f_X8_about [.ref 0, .int x1] I = some ((if k = 0 then .inl (some (.int v)) else .inr (xEx [1] k)), I')) : vx_Met l yL_about (Cond.codeWith yL_about cL_about 4 (some .int) [(0, 9, 12, 13)] :: wsAll) { frames := 7, cells := 1, slots := 6, locals := 112 } (xPcH g [.ref 0, .int x1, .ref 201] I) (hQc g (nI k) (if k = 0 then xup I' 201 0 v else I')) hNo 1 6 (xA g) := by
  refine vx_ofWH (by decide +kernel) rfl ?_
  intro p e s m args below meth c s₁ B hml hv
  obtain ⟨rfl, hW, hP, hD, hz⟩ := hv
  have hts0 := atoms_spec (ws := Cond.codeWith yL_about cL_about 4 (some .int) [(0, 9, 12, 13)] :: wsAll) B.pre
  have hts := fun w (hw : w ∈ wsAll) => hts0 w (List.mem_cons_of_mem _ hw)
  have htab := vx_table (x := yL_about) B (hts0 _ List.mem_cons_self)
  have hx := B.exec
  have hb := B.bytes
  have hrt := B.returns
  have hlk := B.notSynchronized
  have hown : s.vm.findClass RL = some m.cls := findClass_of_methodNamed B.named
  have hr : xRep g s I s.heap [] := ⟨hP, hD, va_S.rf⟩
  have hl := lv_entry ([.ref 0, .int x1, .ref 201].map (xc g)) (n := 4) (Nat.le_of_ble_eq_true rfl)
  rw [lg_entry_eq]
  generalize (lg_sl ([.ref 0, .int x1, .ref 201].map (xc g)) ++ List.replicate (4 - (lg_sl ([.ref 0, .int x1, .ref 201].map (xc g))).length) Slot.unset).toArray = ls at hl ⊢
  have hl : lv_has ls 4 [(0, .ref (g.2.1 0)), (1, .int x1), (2, .ref (g.2.1 201))] := hl
  refine lv_aload_n hx hb dL_about_0 rfl (lv_at hl 2 rfl) ?_
  refine lv_iconst (v := nI 0) hx hb dL_about_1 (by decide) ?_
  refine lv_aload_n hx hb dL_about_2 rfl (lv_at hl 0 rfl) ?_
  refine lv_iload_n hx hb dL_about_3 rfl (lv_at hl 1 rfl) ?_
  refine xcallX (rest := [.int (nI 0), .ref (g.2.1 201)]) (vx_runV (As := [.int x1]) (rest := [.int (nI 0), .ref (g.2.1 201)]) (cc := cL_about) (nL := 4) ⟨hx, hb, hml, hown, hts⟩ (m_X8_about l hfl g [.ref 0, .int x1] I _ hrun) (cwV 1 hts (xgoodV wh550 wh551 wh552 wh1 wh553) rfl rfl rfl ⟨rfl, by decide, by decide, by decide +kernel⟩ ⟨Nat.le_of_ble_eq_true rfl, Nat.le_of_ble_eq_true rfl⟩) ⟨xPc_blind, xrecv hW.1.1 hr (b := 0) (by decide) (by omega) (rfl : vwCl[8]? = some (RX8, TX8, 10)), xpre hW.1 hr hz⟩ rfl rfl hl.1 rfl (lv_room (Nat.le_of_ble_eq_true rfl)) dL_about_4 ⟨Nat.le_of_ble_eq_true rfl, Nat.le_of_ble_eq_true rfl⟩) hr.2.2 (xWl_D hr.2.1) (fun v0 hv0 H1 locs1 hr1 => ?_) (fun j hj H1 locs1 q ce hr1 hce hcv hcl => ?_)
  · by_cases k0 : k = 0
    · subst k0
      rw [if_pos rfl] at hv0
      cases hv0
      have e9 : (if (0 : Nat) = 0 then xup I' 201 0 v else I') = xup I' 201 0 v := if_pos rfl
      rw [e9]
      exact hp_ok (tgt := 15) hx hb hrt hlk hW.1.1 hr1 dL_about_7 dL_about_8 dL_about_9 (by decide) dL_about_15 dL_about_16
    · rw [if_neg k0] at hv0
      cases hv0
  · by_cases k0 : k = 0
    · rw [if_pos k0] at hj
      cases hj
    · rw [if_neg k0] at hj
      cases hj
      rcases (show k = 1 by omega) with rfl
      · have e9 : (if (1 : Nat) = 0 then xup I' 201 0 v else I') = I' := if_neg (by decide)
        rw [e9]
        exact hp_catch (j := 1) (k := 1) (n := 1) (hp2 := 13) hx hb hrt hlk hown hts hW hr1 hce hcv hcl [] ⟨0, 9, 12, 13⟩ [] htab (fun z hz => absurd hz List.not_mem_nil) (by decide) (by decide) wh449 (by decide +kernel) (fun kk => lv_astore_n hx hb dL_about_12 rfl hl (by decide) rfl (fun ls' _ => kk ls')) (by decide) dL_about_13 dL_about_14
set_option maxHeartbeats 4000000 in
set_option maxRecDepth 100000 in
theorem h_at (l : Launch) (hfl : l.stackTraces = false) (g : xG) (x1 : Int32) (I : xMem) {k : Nat} {v : Int32} {I' : xMem} (hk : k ≤ 1) (hrun : f_X8_at [.ref 0, .int x1] I = some ((if k = 0 then .inl (some (.int v)) else .inr (xEx [3] k)), I')) : vx_Met l yL_at (Cond.codeWith yL_at cL_at 4 (some .int) [(0, 9, 12, 23)] :: wsAll) { frames := 7, cells := 1, slots := 6, locals := 111 } (xPcH g [.ref 0, .int x1, .ref 201] I) (hQc g (nI k) (if k = 0 then xup I' 201 0 v else I')) hNo 1 6 (xA g) := by
  refine vx_ofWH (by decide +kernel) rfl ?_
  intro p e s m args below meth c s₁ B hml hv
  obtain ⟨rfl, hW, hP, hD, hz⟩ := hv
  have hts0 := atoms_spec (ws := Cond.codeWith yL_at cL_at 4 (some .int) [(0, 9, 12, 23)] :: wsAll) B.pre
  have hts := fun w (hw : w ∈ wsAll) => hts0 w (List.mem_cons_of_mem _ hw)
  have htab := vx_table (x := yL_at) B (hts0 _ List.mem_cons_self)
  have hx := B.exec
  have hb := B.bytes
  have hrt := B.returns
  have hlk := B.notSynchronized
  have hown : s.vm.findClass RL = some m.cls := findClass_of_methodNamed B.named
  have hr : xRep g s I s.heap [] := ⟨hP, hD, va_S.rf⟩
  have hl := lv_entry ([.ref 0, .int x1, .ref 201].map (xc g)) (n := 4) (Nat.le_of_ble_eq_true rfl)
  rw [lg_entry_eq]
  generalize (lg_sl ([.ref 0, .int x1, .ref 201].map (xc g)) ++ List.replicate (4 - (lg_sl ([.ref 0, .int x1, .ref 201].map (xc g))).length) Slot.unset).toArray = ls at hl ⊢
  have hl : lv_has ls 4 [(0, .ref (g.2.1 0)), (1, .int x1), (2, .ref (g.2.1 201))] := hl
  refine lv_aload_n hx hb dL_at_0 rfl (lv_at hl 2 rfl) ?_
  refine lv_iconst (v := nI 0) hx hb dL_at_1 (by decide) ?_
  refine lv_aload_n hx hb dL_at_2 rfl (lv_at hl 0 rfl) ?_
  refine lv_iload_n hx hb dL_at_3 rfl (lv_at hl 1 rfl) ?_
  refine xcallX (rest := [.int (nI 0), .ref (g.2.1 201)]) (vx_runV (As := [.int x1]) (rest := [.int (nI 0), .ref (g.2.1 201)]) (cc := cL_at) (nL := 4) ⟨hx, hb, hml, hown, hts⟩ (m_X8_at l hfl g [.ref 0, .int x1] I _ hrun) (cwV 1 hts (xgoodV wh585 wh586 wh587 wh1 wh588) rfl rfl rfl ⟨rfl, by decide, by decide, by decide +kernel⟩ ⟨Nat.le_of_ble_eq_true rfl, Nat.le_of_ble_eq_true rfl⟩) ⟨xPc_blind, xrecv hW.1.1 hr (b := 0) (by decide) (by omega) (rfl : vwCl[8]? = some (RX8, TX8, 10)), xpre hW.1 hr hz⟩ rfl rfl hl.1 rfl (lv_room (Nat.le_of_ble_eq_true rfl)) dL_at_4 ⟨Nat.le_of_ble_eq_true rfl, Nat.le_of_ble_eq_true rfl⟩) hr.2.2 (xWl_D hr.2.1) (fun v0 hv0 H1 locs1 hr1 => ?_) (fun j hj H1 locs1 q ce hr1 hce hcv hcl => ?_)
  · by_cases k0 : k = 0
    · subst k0
      rw [if_pos rfl] at hv0
      cases hv0
      have e9 : (if (0 : Nat) = 0 then xup I' 201 0 v else I') = xup I' 201 0 v := if_pos rfl
      rw [e9]
      exact hp_ok (tgt := 15) hx hb hrt hlk hW.1.1 hr1 dL_at_7 dL_at_8 dL_at_9 (by decide) dL_at_15 dL_at_16
    · rw [if_neg k0] at hv0
      cases hv0
  · by_cases k0 : k = 0
    · rw [if_pos k0] at hj
      cases hj
    · rw [if_neg k0] at hj
      cases hj
      rcases (show k = 1 by omega) with rfl
      · have e9 : (if (1 : Nat) = 0 then xup I' 201 0 v else I') = I' := if_neg (by decide)
        rw [e9]
        exact hp_catch (j := 3) (k := 1) (n := 1) (hp2 := 13) hx hb hrt hlk hown hts hW hr1 hce hcv hcl [] ⟨0, 9, 12, 23⟩ [] htab (fun z hz => absurd hz List.not_mem_nil) (by decide) (by decide) wh584 (by decide +kernel) (fun kk => lv_astore_n hx hb dL_at_12 rfl hl (by decide) rfl (fun ls' _ => kk ls')) (by decide) dL_at_13 dL_at_14
set_option maxHeartbeats 4000000 in
set_option maxRecDepth 100000 in
theorem h_page (l : Launch) (hfl : l.stackTraces = false) (g : xG) (x1 : Int32) (x2 : Int32) (I : xMem) {k : Nat} {v : Int32} {I' : xMem} (hk : k ≤ 2) (hrun : f_X8_page [.ref 0, .int x1, .int x2] I = some ((if k = 0 then .inl (some (.int v)) else .inr (xEx [3, 1] k)), I')) : vx_Met l yL_page (Cond.codeWith yL_page cL_page 5 (some .int) [(0, 10, 13, 23), (0, 10, 17, 13)] :: wsAll) { frames := 7, cells := 1, slots := 6, locals := 113 } (xPcH g [.ref 0, .int x1, .int x2, .ref 201] I) (hQc g (nI k) (if k = 0 then xup I' 201 0 v else I')) hNo 1 6 (xA g) := by
  refine vx_ofWH (by decide +kernel) rfl ?_
  intro p e s m args below meth c s₁ B hml hv
  obtain ⟨rfl, hW, hP, hD, hz⟩ := hv
  have hts0 := atoms_spec (ws := Cond.codeWith yL_page cL_page 5 (some .int) [(0, 10, 13, 23), (0, 10, 17, 13)] :: wsAll) B.pre
  have hts := fun w (hw : w ∈ wsAll) => hts0 w (List.mem_cons_of_mem _ hw)
  have htab := vx_table (x := yL_page) B (hts0 _ List.mem_cons_self)
  have hx := B.exec
  have hb := B.bytes
  have hrt := B.returns
  have hlk := B.notSynchronized
  have hown : s.vm.findClass RL = some m.cls := findClass_of_methodNamed B.named
  have hr : xRep g s I s.heap [] := ⟨hP, hD, va_S.rf⟩
  have hl := lv_entry ([.ref 0, .int x1, .int x2, .ref 201].map (xc g)) (n := 5) (Nat.le_of_ble_eq_true rfl)
  rw [lg_entry_eq]
  generalize (lg_sl ([.ref 0, .int x1, .int x2, .ref 201].map (xc g)) ++ List.replicate (5 - (lg_sl ([.ref 0, .int x1, .int x2, .ref 201].map (xc g))).length) Slot.unset).toArray = ls at hl ⊢
  have hl : lv_has ls 5 [(0, .ref (g.2.1 0)), (1, .int x1), (2, .int x2), (3, .ref (g.2.1 201))] := hl
  refine lv_aload_n hx hb dL_page_0 rfl (lv_at hl 3 rfl) ?_
  refine lv_iconst (v := nI 0) hx hb dL_page_1 (by decide) ?_
  refine lv_aload_n hx hb dL_page_2 rfl (lv_at hl 0 rfl) ?_
  refine lv_iload_n hx hb dL_page_3 rfl (lv_at hl 1 rfl) ?_
  refine lv_iload_n hx hb dL_page_4 rfl (lv_at hl 2 rfl) ?_
  refine xcallX (rest := [.int (nI 0), .ref (g.2.1 201)]) (vx_runV (As := [.int x1, .int x2]) (rest := [.int (nI 0), .ref (g.2.1 201)]) (cc := cL_page) (nL := 5) ⟨hx, hb, hml, hown, hts⟩ (m_X8_page l hfl g [.ref 0, .int x1, .int x2] I _ hrun) (cwV 2 hts (xgoodV wh612 wh613 wh614 wh1 wh615) rfl rfl rfl ⟨rfl, by decide, by decide, by decide +kernel⟩ ⟨Nat.le_of_ble_eq_true rfl, Nat.le_of_ble_eq_true rfl⟩) ⟨xPc_blind, xrecv hW.1.1 hr (b := 0) (by decide) (by omega) (rfl : vwCl[8]? = some (RX8, TX8, 10)), xpre hW.1 hr hz⟩ rfl rfl hl.1 rfl (lv_room (Nat.le_of_ble_eq_true rfl)) dL_page_5 ⟨Nat.le_of_ble_eq_true rfl, Nat.le_of_ble_eq_true rfl⟩) hr.2.2 (xWl_D hr.2.1) (fun v0 hv0 H1 locs1 hr1 => ?_) (fun j hj H1 locs1 q ce hr1 hce hcv hcl => ?_)
  · by_cases k0 : k = 0
    · subst k0
      rw [if_pos rfl] at hv0
      cases hv0
      have e9 : (if (0 : Nat) = 0 then xup I' 201 0 v else I') = xup I' 201 0 v := if_pos rfl
      rw [e9]
      exact hp_ok (tgt := 21) hx hb hrt hlk hW.1.1 hr1 dL_page_8 dL_page_9 dL_page_10 (by decide) dL_page_21 dL_page_22
    · rw [if_neg k0] at hv0
      cases hv0
  · by_cases k0 : k = 0
    · rw [if_pos k0] at hj
      cases hj
    · rw [if_neg k0] at hj
      cases hj
      rcases (show k = 1 ∨ k = 2 by omega) with rfl | rfl
      · have e9 : (if (1 : Nat) = 0 then xup I' 201 0 v else I') = I' := if_neg (by decide)
        rw [e9]
        exact hp_catch (j := 3) (k := 1) (n := 1) (hp2 := 15) hx hb hrt hlk hown hts hW hr1 hce hcv hcl [] ⟨0, 10, 13, 23⟩ [⟨0, 10, 17, 13⟩] htab (fun z hz => absurd hz List.not_mem_nil) (by decide) (by decide) wh584 (by decide +kernel) (fun kk => lv_astore hx hb dL_page_13 hl (by decide) rfl (fun ls' _ => kk ls')) (by decide) dL_page_15 dL_page_16
      · have e9 : (if (2 : Nat) = 0 then xup I' 201 0 v else I') = I' := if_neg (by decide)
        rw [e9]
        exact hp_catch (j := 1) (k := 2) (n := 2) (hp2 := 19) hx hb hrt hlk hown hts hW hr1 hce hcv hcl [⟨0, 10, 13, 23⟩] ⟨0, 10, 17, 13⟩ [] htab (List.forall_mem_cons.mpr ⟨⟨by decide, _, wh584, by decide +kernel⟩, fun z hz => absurd hz List.not_mem_nil⟩) (by decide) (by decide) wh449 (by decide +kernel) (fun kk => lv_astore hx hb dL_page_17 hl (by decide) rfl (fun ls' _ => kk ls')) (by decide) dL_page_19 dL_page_20
set_option maxHeartbeats 4000000 in
set_option maxRecDepth 100000 in
theorem h_bit (l : Launch) (hfl : l.stackTraces = false) (g : xG) (x1 : Int32) (x2 : Int32) (I : xMem) {k : Nat} {v : Int32} {I' : xMem} (hk : k ≤ 2) (hrun : f_X8_bit [.ref 0, .int x1, .int x2] I = some ((if k = 0 then .inl (some (.int v)) else .inr (xEx [3, 1] k)), I')) : vx_Met l yL_bit (Cond.codeWith yL_bit cL_bit 5 (some .int) [(0, 10, 13, 23), (0, 10, 17, 13)] :: wsAll) { frames := 7, cells := 1, slots := 6, locals := 135 } (xPcH g [.ref 0, .int x1, .int x2, .ref 201] I) (hQc g (nI k) (if k = 0 then xup I' 201 0 v else I')) hNo 1 6 (xA g) := by
  refine vx_ofWH (by decide +kernel) rfl ?_
  intro p e s m args below meth c s₁ B hml hv
  obtain ⟨rfl, hW, hP, hD, hz⟩ := hv
  have hts0 := atoms_spec (ws := Cond.codeWith yL_bit cL_bit 5 (some .int) [(0, 10, 13, 23), (0, 10, 17, 13)] :: wsAll) B.pre
  have hts := fun w (hw : w ∈ wsAll) => hts0 w (List.mem_cons_of_mem _ hw)
  have htab := vx_table (x := yL_bit) B (hts0 _ List.mem_cons_self)
  have hx := B.exec
  have hb := B.bytes
  have hrt := B.returns
  have hlk := B.notSynchronized
  have hown : s.vm.findClass RL = some m.cls := findClass_of_methodNamed B.named
  have hr : xRep g s I s.heap [] := ⟨hP, hD, va_S.rf⟩
  have hl := lv_entry ([.ref 0, .int x1, .int x2, .ref 201].map (xc g)) (n := 5) (Nat.le_of_ble_eq_true rfl)
  rw [lg_entry_eq]
  generalize (lg_sl ([.ref 0, .int x1, .int x2, .ref 201].map (xc g)) ++ List.replicate (5 - (lg_sl ([.ref 0, .int x1, .int x2, .ref 201].map (xc g))).length) Slot.unset).toArray = ls at hl ⊢
  have hl : lv_has ls 5 [(0, .ref (g.2.1 0)), (1, .int x1), (2, .int x2), (3, .ref (g.2.1 201))] := hl
  refine lv_aload_n hx hb dL_bit_0 rfl (lv_at hl 3 rfl) ?_
  refine lv_iconst (v := nI 0) hx hb dL_bit_1 (by decide) ?_
  refine lv_aload_n hx hb dL_bit_2 rfl (lv_at hl 0 rfl) ?_
  refine lv_iload_n hx hb dL_bit_3 rfl (lv_at hl 1 rfl) ?_
  refine lv_iload_n hx hb dL_bit_4 rfl (lv_at hl 2 rfl) ?_
  refine xcallX (rest := [.int (nI 0), .ref (g.2.1 201)]) (vx_runV (As := [.int x1, .int x2]) (rest := [.int (nI 0), .ref (g.2.1 201)]) (cc := cL_bit) (nL := 5) ⟨hx, hb, hml, hown, hts⟩ (m_X8_bit l hfl g [.ref 0, .int x1, .int x2] I _ hrun) (cwV 2 hts (xgoodV wh631 wh632 wh633 wh1 wh634) rfl rfl rfl ⟨rfl, by decide, by decide, by decide +kernel⟩ ⟨Nat.le_of_ble_eq_true rfl, Nat.le_of_ble_eq_true rfl⟩) ⟨xPc_blind, xrecv hW.1.1 hr (b := 0) (by decide) (by omega) (rfl : vwCl[8]? = some (RX8, TX8, 10)), xpre hW.1 hr hz⟩ rfl rfl hl.1 rfl (lv_room (Nat.le_of_ble_eq_true rfl)) dL_bit_5 ⟨Nat.le_of_ble_eq_true rfl, Nat.le_of_ble_eq_true rfl⟩) hr.2.2 (xWl_D hr.2.1) (fun v0 hv0 H1 locs1 hr1 => ?_) (fun j hj H1 locs1 q ce hr1 hce hcv hcl => ?_)
  · by_cases k0 : k = 0
    · subst k0
      rw [if_pos rfl] at hv0
      cases hv0
      have e9 : (if (0 : Nat) = 0 then xup I' 201 0 v else I') = xup I' 201 0 v := if_pos rfl
      rw [e9]
      exact hp_ok (tgt := 21) hx hb hrt hlk hW.1.1 hr1 dL_bit_8 dL_bit_9 dL_bit_10 (by decide) dL_bit_21 dL_bit_22
    · rw [if_neg k0] at hv0
      cases hv0
  · by_cases k0 : k = 0
    · rw [if_pos k0] at hj
      cases hj
    · rw [if_neg k0] at hj
      cases hj
      rcases (show k = 1 ∨ k = 2 by omega) with rfl | rfl
      · have e9 : (if (1 : Nat) = 0 then xup I' 201 0 v else I') = I' := if_neg (by decide)
        rw [e9]
        exact hp_catch (j := 3) (k := 1) (n := 1) (hp2 := 15) hx hb hrt hlk hown hts hW hr1 hce hcv hcl [] ⟨0, 10, 13, 23⟩ [⟨0, 10, 17, 13⟩] htab (fun z hz => absurd hz List.not_mem_nil) (by decide) (by decide) wh584 (by decide +kernel) (fun kk => lv_astore hx hb dL_bit_13 hl (by decide) rfl (fun ls' _ => kk ls')) (by decide) dL_bit_15 dL_bit_16
      · have e9 : (if (2 : Nat) = 0 then xup I' 201 0 v else I') = I' := if_neg (by decide)
        rw [e9]
        exact hp_catch (j := 1) (k := 2) (n := 2) (hp2 := 19) hx hb hrt hlk hown hts hW hr1 hce hcv hcl [⟨0, 10, 13, 23⟩] ⟨0, 10, 17, 13⟩ [] htab (List.forall_mem_cons.mpr ⟨⟨by decide, _, wh584, by decide +kernel⟩, fun z hz => absurd hz List.not_mem_nil⟩) (by decide) (by decide) wh449 (by decide +kernel) (fun kk => lv_astore hx hb dL_bit_17 hl (by decide) rfl (fun ls' _ => kk ls')) (by decide) dL_bit_19 dL_bit_20
set_option maxHeartbeats 4000000 in
set_option maxRecDepth 100000 in
theorem h_size (l : Launch) (hfl : l.stackTraces = false) (g : xG) (x1 : Int32) (x2 : Int32) (I : xMem) {k : Nat} {v : Int32} {I' : xMem} (hk : k ≤ 2) (hrun : f_X8_size [.ref 0, .int x1, .int x2] I = some ((if k = 0 then .inl (some (.int v)) else .inr (xEx [3, 1] k)), I')) : vx_Met l yL_size (Cond.codeWith yL_size cL_size 5 (some .int) [(0, 10, 13, 23), (0, 10, 17, 13)] :: wsAll) { frames := 7, cells := 1, slots := 6, locals := 112 } (xPcH g [.ref 0, .int x1, .int x2, .ref 201] I) (hQc g (nI k) (if k = 0 then xup I' 201 0 v else I')) hNo 1 6 (xA g) := by
  refine vx_ofWH (by decide +kernel) rfl ?_
  intro p e s m args below meth c s₁ B hml hv
  obtain ⟨rfl, hW, hP, hD, hz⟩ := hv
  have hts0 := atoms_spec (ws := Cond.codeWith yL_size cL_size 5 (some .int) [(0, 10, 13, 23), (0, 10, 17, 13)] :: wsAll) B.pre
  have hts := fun w (hw : w ∈ wsAll) => hts0 w (List.mem_cons_of_mem _ hw)
  have htab := vx_table (x := yL_size) B (hts0 _ List.mem_cons_self)
  have hx := B.exec
  have hb := B.bytes
  have hrt := B.returns
  have hlk := B.notSynchronized
  have hown : s.vm.findClass RL = some m.cls := findClass_of_methodNamed B.named
  have hr : xRep g s I s.heap [] := ⟨hP, hD, va_S.rf⟩
  have hl := lv_entry ([.ref 0, .int x1, .int x2, .ref 201].map (xc g)) (n := 5) (Nat.le_of_ble_eq_true rfl)
  rw [lg_entry_eq]
  generalize (lg_sl ([.ref 0, .int x1, .int x2, .ref 201].map (xc g)) ++ List.replicate (5 - (lg_sl ([.ref 0, .int x1, .int x2, .ref 201].map (xc g))).length) Slot.unset).toArray = ls at hl ⊢
  have hl : lv_has ls 5 [(0, .ref (g.2.1 0)), (1, .int x1), (2, .int x2), (3, .ref (g.2.1 201))] := hl
  refine lv_aload_n hx hb dL_size_0 rfl (lv_at hl 3 rfl) ?_
  refine lv_iconst (v := nI 0) hx hb dL_size_1 (by decide) ?_
  refine lv_aload_n hx hb dL_size_2 rfl (lv_at hl 0 rfl) ?_
  refine lv_iload_n hx hb dL_size_3 rfl (lv_at hl 1 rfl) ?_
  refine lv_iload_n hx hb dL_size_4 rfl (lv_at hl 2 rfl) ?_
  refine xcallX (rest := [.int (nI 0), .ref (g.2.1 201)]) (vx_runV (As := [.int x1, .int x2]) (rest := [.int (nI 0), .ref (g.2.1 201)]) (cc := cL_size) (nL := 5) ⟨hx, hb, hml, hown, hts⟩ (m_X8_size l hfl g [.ref 0, .int x1, .int x2] I _ hrun) (cwV 2 hts (xgoodV wh678 wh679 wh680 wh1 wh681) rfl rfl rfl ⟨rfl, by decide, by decide, by decide +kernel⟩ ⟨Nat.le_of_ble_eq_true rfl, Nat.le_of_ble_eq_true rfl⟩) ⟨xPc_blind, xrecv hW.1.1 hr (b := 0) (by decide) (by omega) (rfl : vwCl[8]? = some (RX8, TX8, 10)), xpre hW.1 hr hz⟩ rfl rfl hl.1 rfl (lv_room (Nat.le_of_ble_eq_true rfl)) dL_size_5 ⟨Nat.le_of_ble_eq_true rfl, Nat.le_of_ble_eq_true rfl⟩) hr.2.2 (xWl_D hr.2.1) (fun v0 hv0 H1 locs1 hr1 => ?_) (fun j hj H1 locs1 q ce hr1 hce hcv hcl => ?_)
  · by_cases k0 : k = 0
    · subst k0
      rw [if_pos rfl] at hv0
      cases hv0
      have e9 : (if (0 : Nat) = 0 then xup I' 201 0 v else I') = xup I' 201 0 v := if_pos rfl
      rw [e9]
      exact hp_ok (tgt := 21) hx hb hrt hlk hW.1.1 hr1 dL_size_8 dL_size_9 dL_size_10 (by decide) dL_size_21 dL_size_22
    · rw [if_neg k0] at hv0
      cases hv0
  · by_cases k0 : k = 0
    · rw [if_pos k0] at hj
      cases hj
    · rw [if_neg k0] at hj
      cases hj
      rcases (show k = 1 ∨ k = 2 by omega) with rfl | rfl
      · have e9 : (if (1 : Nat) = 0 then xup I' 201 0 v else I') = I' := if_neg (by decide)
        rw [e9]
        exact hp_catch (j := 3) (k := 1) (n := 1) (hp2 := 15) hx hb hrt hlk hown hts hW hr1 hce hcv hcl [] ⟨0, 10, 13, 23⟩ [⟨0, 10, 17, 13⟩] htab (fun z hz => absurd hz List.not_mem_nil) (by decide) (by decide) wh584 (by decide +kernel) (fun kk => lv_astore hx hb dL_size_13 hl (by decide) rfl (fun ls' _ => kk ls')) (by decide) dL_size_15 dL_size_16
      · have e9 : (if (2 : Nat) = 0 then xup I' 201 0 v else I') = I' := if_neg (by decide)
        rw [e9]
        exact hp_catch (j := 1) (k := 2) (n := 2) (hp2 := 19) hx hb hrt hlk hown hts hW hr1 hce hcv hcl [⟨0, 10, 13, 23⟩] ⟨0, 10, 17, 13⟩ [] htab (List.forall_mem_cons.mpr ⟨⟨by decide, _, wh584, by decide +kernel⟩, fun z hz => absurd hz List.not_mem_nil⟩) (by decide) (by decide) wh449 (by decide +kernel) (fun kk => lv_astore hx hb dL_size_17 hl (by decide) rfl (fun ls' _ => kk ls')) (by decide) dL_size_19 dL_size_20
set_option maxHeartbeats 4000000 in
set_option maxRecDepth 100000 in
theorem h_scan (l : Launch) (hfl : l.stackTraces = false) (g : xG) (x1 : Int32) (x2 : Int32) (I : xMem) {k : Nat} {v : Int32} {I' : xMem} (hk : k ≤ 1) (hrun : f_X8_scan [.ref 0, .int x1, .int x2] I = some ((if k = 0 then .inl (some (.int v)) else .inr (xEx [1] k)), I')) : vx_Met l yL_scan (Cond.codeWith yL_scan cL_scan 5 (some .int) [(0, 10, 13, 13)] :: wsAll) { frames := 7, cells := 1, slots := 6, locals := 134 } (xPcH g [.ref 0, .int x1, .int x2, .ref 201] I) (hQc g (nI k) (if k = 0 then xup I' 201 0 v else I')) hNo 1 6 (xA g) := by
  refine vx_ofWH (by decide +kernel) rfl ?_
  intro p e s m args below meth c s₁ B hml hv
  obtain ⟨rfl, hW, hP, hD, hz⟩ := hv
  have hts0 := atoms_spec (ws := Cond.codeWith yL_scan cL_scan 5 (some .int) [(0, 10, 13, 13)] :: wsAll) B.pre
  have hts := fun w (hw : w ∈ wsAll) => hts0 w (List.mem_cons_of_mem _ hw)
  have htab := vx_table (x := yL_scan) B (hts0 _ List.mem_cons_self)
  have hx := B.exec
  have hb := B.bytes
  have hrt := B.returns
  have hlk := B.notSynchronized
  have hown : s.vm.findClass RL = some m.cls := findClass_of_methodNamed B.named
  have hr : xRep g s I s.heap [] := ⟨hP, hD, va_S.rf⟩
  have hl := lv_entry ([.ref 0, .int x1, .int x2, .ref 201].map (xc g)) (n := 5) (Nat.le_of_ble_eq_true rfl)
  rw [lg_entry_eq]
  generalize (lg_sl ([.ref 0, .int x1, .int x2, .ref 201].map (xc g)) ++ List.replicate (5 - (lg_sl ([.ref 0, .int x1, .int x2, .ref 201].map (xc g))).length) Slot.unset).toArray = ls at hl ⊢
  have hl : lv_has ls 5 [(0, .ref (g.2.1 0)), (1, .int x1), (2, .int x2), (3, .ref (g.2.1 201))] := hl
  refine lv_aload_n hx hb dL_scan_0 rfl (lv_at hl 3 rfl) ?_
  refine lv_iconst (v := nI 0) hx hb dL_scan_1 (by decide) ?_
  refine lv_aload_n hx hb dL_scan_2 rfl (lv_at hl 0 rfl) ?_
  refine lv_iload_n hx hb dL_scan_3 rfl (lv_at hl 1 rfl) ?_
  refine lv_iload_n hx hb dL_scan_4 rfl (lv_at hl 2 rfl) ?_
  refine xcallX (rest := [.int (nI 0), .ref (g.2.1 201)]) (vx_runV (As := [.int x1, .int x2]) (rest := [.int (nI 0), .ref (g.2.1 201)]) (cc := cL_scan) (nL := 5) ⟨hx, hb, hml, hown, hts⟩ (m_X8_scan l hfl g [.ref 0, .int x1, .int x2] I _ hrun) (cwV 2 hts (xgoodV wh690 wh691 wh692 wh1 wh693) rfl rfl rfl ⟨rfl, by decide, by decide, by decide +kernel⟩ ⟨Nat.le_of_ble_eq_true rfl, Nat.le_of_ble_eq_true rfl⟩) ⟨xPc_blind, xrecv hW.1.1 hr (b := 0) (by decide) (by omega) (rfl : vwCl[8]? = some (RX8, TX8, 10)), xpre hW.1 hr hz⟩ rfl rfl hl.1 rfl (lv_room (Nat.le_of_ble_eq_true rfl)) dL_scan_5 ⟨Nat.le_of_ble_eq_true rfl, Nat.le_of_ble_eq_true rfl⟩) hr.2.2 (xWl_D hr.2.1) (fun v0 hv0 H1 locs1 hr1 => ?_) (fun j hj H1 locs1 q ce hr1 hce hcv hcl => ?_)
  · by_cases k0 : k = 0
    · subst k0
      rw [if_pos rfl] at hv0
      cases hv0
      have e9 : (if (0 : Nat) = 0 then xup I' 201 0 v else I') = xup I' 201 0 v := if_pos rfl
      rw [e9]
      exact hp_ok (tgt := 17) hx hb hrt hlk hW.1.1 hr1 dL_scan_8 dL_scan_9 dL_scan_10 (by decide) dL_scan_17 dL_scan_18
    · rw [if_neg k0] at hv0
      cases hv0
  · by_cases k0 : k = 0
    · rw [if_pos k0] at hj
      cases hj
    · rw [if_neg k0] at hj
      cases hj
      rcases (show k = 1 by omega) with rfl
      · have e9 : (if (1 : Nat) = 0 then xup I' 201 0 v else I') = I' := if_neg (by decide)
        rw [e9]
        exact hp_catch (j := 1) (k := 1) (n := 1) (hp2 := 15) hx hb hrt hlk hown hts hW hr1 hce hcv hcl [] ⟨0, 10, 13, 13⟩ [] htab (fun z hz => absurd hz List.not_mem_nil) (by decide) (by decide) wh449 (by decide +kernel) (fun kk => lv_astore hx hb dL_scan_13 hl (by decide) rfl (fun ls' _ => kk ls')) (by decide) dL_scan_15 dL_scan_16
set_option maxHeartbeats 4000000 in
set_option maxRecDepth 100000 in
theorem h_sum (l : Launch) (hfl : l.stackTraces = false) (g : xG) (x1 : Int32) (x2 : Int32) (I : xMem) {k : Nat} {v : Int32} {I' : xMem} (hk : k ≤ 1) (hrun : f_X8_sum [.ref 0, .int x1, .int x2] I = some ((if k = 0 then .inl (some (.int v)) else .inr (xEx [3] k)), I')) : vx_Met l yL_sum (Cond.codeWith yL_sum cL_sum 5 (some .int) [(0, 10, 13, 23)] :: wsAll) { frames := 7, cells := 1, slots := 6, locals := 114 } (xPcH g [.ref 0, .int x1, .int x2, .ref 201] I) (hQc g (nI k) (if k = 0 then xup I' 201 0 v else I')) hNo 1 6 (xA g) := by
  refine vx_ofWH (by decide +kernel) rfl ?_
  intro p e s m args below meth c s₁ B hml hv
  obtain ⟨rfl, hW, hP, hD, hz⟩ := hv
  have hts0 := atoms_spec (ws := Cond.codeWith yL_sum cL_sum 5 (some .int) [(0, 10, 13, 23)] :: wsAll) B.pre
  have hts := fun w (hw : w ∈ wsAll) => hts0 w (List.mem_cons_of_mem _ hw)
  have htab := vx_table (x := yL_sum) B (hts0 _ List.mem_cons_self)
  have hx := B.exec
  have hb := B.bytes
  have hrt := B.returns
  have hlk := B.notSynchronized
  have hown : s.vm.findClass RL = some m.cls := findClass_of_methodNamed B.named
  have hr : xRep g s I s.heap [] := ⟨hP, hD, va_S.rf⟩
  have hl := lv_entry ([.ref 0, .int x1, .int x2, .ref 201].map (xc g)) (n := 5) (Nat.le_of_ble_eq_true rfl)
  rw [lg_entry_eq]
  generalize (lg_sl ([.ref 0, .int x1, .int x2, .ref 201].map (xc g)) ++ List.replicate (5 - (lg_sl ([.ref 0, .int x1, .int x2, .ref 201].map (xc g))).length) Slot.unset).toArray = ls at hl ⊢
  have hl : lv_has ls 5 [(0, .ref (g.2.1 0)), (1, .int x1), (2, .int x2), (3, .ref (g.2.1 201))] := hl
  refine lv_aload_n hx hb dL_sum_0 rfl (lv_at hl 3 rfl) ?_
  refine lv_iconst (v := nI 0) hx hb dL_sum_1 (by decide) ?_
  refine lv_aload_n hx hb dL_sum_2 rfl (lv_at hl 0 rfl) ?_
  refine lv_iload_n hx hb dL_sum_3 rfl (lv_at hl 1 rfl) ?_
  refine lv_iload_n hx hb dL_sum_4 rfl (lv_at hl 2 rfl) ?_
  refine xcallX (rest := [.int (nI 0), .ref (g.2.1 201)]) (vx_runV (As := [.int x1, .int x2]) (rest := [.int (nI 0), .ref (g.2.1 201)]) (cc := cL_sum) (nL := 5) ⟨hx, hb, hml, hown, hts⟩ (m_X8_sum l hfl g [.ref 0, .int x1, .int x2] I _ hrun) (cwV 2 hts (xgoodV wh716 wh717 wh718 wh1 wh719) rfl rfl rfl ⟨rfl, by decide, by decide, by decide +kernel⟩ ⟨Nat.le_of_ble_eq_true rfl, Nat.le_of_ble_eq_true rfl⟩) ⟨xPc_blind, xrecv hW.1.1 hr (b := 0) (by decide) (by omega) (rfl : vwCl[8]? = some (RX8, TX8, 10)), xpre hW.1 hr hz⟩ rfl rfl hl.1 rfl (lv_room (Nat.le_of_ble_eq_true rfl)) dL_sum_5 ⟨Nat.le_of_ble_eq_true rfl, Nat.le_of_ble_eq_true rfl⟩) hr.2.2 (xWl_D hr.2.1) (fun v0 hv0 H1 locs1 hr1 => ?_) (fun j hj H1 locs1 q ce hr1 hce hcv hcl => ?_)
  · by_cases k0 : k = 0
    · subst k0
      rw [if_pos rfl] at hv0
      cases hv0
      have e9 : (if (0 : Nat) = 0 then xup I' 201 0 v else I') = xup I' 201 0 v := if_pos rfl
      rw [e9]
      exact hp_ok (tgt := 17) hx hb hrt hlk hW.1.1 hr1 dL_sum_8 dL_sum_9 dL_sum_10 (by decide) dL_sum_17 dL_sum_18
    · rw [if_neg k0] at hv0
      cases hv0
  · by_cases k0 : k = 0
    · rw [if_pos k0] at hj
      cases hj
    · rw [if_neg k0] at hj
      cases hj
      rcases (show k = 1 by omega) with rfl
      · have e9 : (if (1 : Nat) = 0 then xup I' 201 0 v else I') = I' := if_neg (by decide)
        rw [e9]
        exact hp_catch (j := 3) (k := 1) (n := 1) (hp2 := 15) hx hb hrt hlk hown hts hW hr1 hce hcv hcl [] ⟨0, 10, 13, 23⟩ [] htab (fun z hz => absurd hz List.not_mem_nil) (by decide) (by decide) wh584 (by decide +kernel) (fun kk => lv_astore hx hb dL_sum_13 hl (by decide) rfl (fun ls' _ => kk ls')) (by decide) dL_sum_15 dL_sum_16
end P62a
