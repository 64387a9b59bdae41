/-! ===== bits written: a page, the class ===== -/
section P51
section PW2
variable {S : cS} {p : Nat}
theorem s4_plain (hW : sWF S) (hp : p < sq S) {o : wO} {I : xMem} (hb : o.2 = 7) (hC : wC I S p) (h : cB I o) : ∃ I', f_X4_writePlain [.ref 170, .ref 1, .int (nI (sF S p)), .int (nI (sl S p))] I = some (.inl none, I') ∧ zG 170 3 I I' ∧ cB I' (oL (fun k => nI (sw S p k)) 10 (sl S p) o) := by
  have hl := hW.2.2.1 p hp
  rw [e_X4_writePlain]
  simp only [q_X4_writePlain_0, q_X4_writePlain_1, q_X4_writePlain_5, q_X4_writePlain_6, q_X4_writePlain_9, q_X4_writePlain_10, q_X4_writePlain_11, q_X4_writePlain_12, q_X4_writePlain_14, q_X4_writePlain_15, q_X4_writePlain_18, q_X4_writePlain_20, q_X4_writePlain_23, q_X4_writePlain_26, q_X4_writePlain_29]
  exact s4_plain_l hW hp (by omega) (sl S p) 0 I (by omega) zG.rf hC h
theorem s4_words (hW : sWF S) (hp : p < sq S) {o : wO} {I : xMem} (hb : o.2 = 7) (hC : wC I S p) (h : cB I o) : ∃ I', f_X4_writeWords [.ref 170, .ref 1, .int (nI (sF S p)), .ref (1 + 7)] I = some (.inl none, I') ∧ zG 170 3 I I' ∧ cB I' (oL (fun k => nI (pWord (sw S p) (sw S p k) (sl S p))) (pWd (pDiff (sw S p) (sl S p) - 1)) (sl S p) (oD (sw S p) (sl S p) (oW (nI (pDiff (sw S p) (sl S p))) 4 o))) := by
  have hl := hW.2.2.1 p hp
  have hd := pDiff_le (sw S p) (sl S p)
  have k8 : xK (1 + 7) = 2 := by decide
  have k4 := x170
  have g := hC.2.1
  obtain ⟨I1, f1, f2, f3⟩ := s4_num (x := nI (pDiff (sw S p) (sl S p))) (k := 4) (by omega) (by omega) h
  obtain ⟨I2, g1, g2, g3, g4⟩ := s4_words_a hW hp (o := oW (nI (pDiff (sw S p) (sl S p))) 4 o) (I := I1) (by rw [oW_n]; omega) none (sl S p) 0 I1 (by omega) zG.rf (hC.cg f2) f3
  obtain ⟨I3, j1, j2, j3⟩ := s4_words_b hW hp (o := oD (sw S p) (sl S p) (oW (nI (pDiff (sw S p) (sl S p))) 4 o)) (I := I2) (by rw [oD_n, oW_n]; omega) (sl S p) 0 I2 none (by omega) zG.rf g3 g4
  refine ⟨I3, ?_, f2.tr (g2.tr j2), j3⟩
  rw [e_X4_writeWords]
  simp (disch := omega) only [q_X4_writeWords_0, q_X4_writeWords_1, q_X4_writeWords_2, q_X4_writeWords_5, q_X4_writeWords_6, q_X4_writeWords_9, q_X4_writeWords_10, nI_add, pI_le, pI_lt, pI_eq, pI_neg, pI_nn, pI_le0, pI_gt0, pI_eq0, xbV_s, xbU_s, if_true, if_false, bI_eq0, Nat.reduceAdd, Nat.reduceSub, Nat.reduceEqDiff, Nat.reduceLeDiff, Nat.reduceLT, Bool.true_eq_false, Bool.false_eq_true, k8, k4, g, f1]
  exact g1.trans j1
theorem s4_runs (hW : sWF S) (hp : p < sq S) {o : wO} {I : xMem} (hb : o.2 = 7) (hC : wC I S p) (h : cB I o) : ∃ I', f_X4_writeRuns [.ref 170, .ref 1, .int (nI (sF S p)), .int (nI (sl S p))] I = some (.inl none, I') ∧ zG 170 3 I I' ∧ cB I' (oR (sw S p) (sl S p) (sl S p) 0 0 o) := by
  have hl := hW.2.2.1 p hp
  rw [e_X4_writeRuns]
  simp only [q_X4_writeRuns_0, q_X4_writeRuns_1, q_X4_writeRuns_3, q_X4_writeRuns_4]
  exact s4_runs_l hW hp (sl S p) 0 0 o I none (by omega) (by omega) (by omega) zG.rf hC h
theorem s4_small (hW : sWF S) (hp : p < sq S) {o : wO} {I : xMem} (hb : o.2 = 7) (hC : wC I S p) (h : cB I o) : ∃ I', f_X4_writeSmall [.ref 170, .ref 1, .int (nI (sF S p)), .ref (1 + 7)] I = some (.inl none, I') ∧ zG 170 3 I I' ∧ cB I' (oL (fun k => nI (sw S p k) - nI (pMn (sw S p) (sl S p))) (pWd (pMx (sw S p) (sl S p) - pMn (sw S p) (sl S p))) (sl S p) (oW (nI (pWd (pMx (sw S p) (sl S p) - pMn (sw S p) (sl S p)))) 4 (oW (nI (pMn (sw S p) (sl S p))) 10 o))) := by
  have hl := hW.2.2.1 p hp
  have k8 : xK (1 + 7) = 2 := by decide
  have k4 := x170
  have g4 := (hC.2.2.2.2.1 hl.1).2.1
  obtain ⟨I1, f1, f2, f3⟩ := s4_num (x := nI (pMn (sw S p) (sl S p))) (k := 10) (by omega) (by omega) h
  have hC1 := hC.cg f2
  have g8 := (hC1.2.2.2.2.1 hl.1).2.2.2.2.2
  obtain ⟨I2, g1, g2, g3⟩ := s4_num (x := nI (pWd (pMx (sw S p) (sl S p) - pMn (sw S p) (sl S p)))) (k := 4) (by rw [oW_n]; omega) (by omega) f3
  obtain ⟨I3, j1, j2, j3⟩ := s4_small_l hW hp (o := oW (nI (pWd (pMx (sw S p) (sl S p) - pMn (sw S p) (sl S p)))) 4 (oW (nI (pMn (sw S p) (sl S p))) 10 o)) (I := I2) (by rw [oW_n, oW_n]; omega) (sl S p) 0 I2 (by omega) zG.rf (hC1.cg g2) g3
  refine ⟨I3, ?_, f2.tr (g2.tr j2), j3⟩
  rw [e_X4_writeSmall]
  simp (disch := omega) only [q_X4_writeSmall_0, q_X4_writeSmall_1, q_X4_writeSmall_2, q_X4_writeSmall_5, q_X4_writeSmall_7, q_X4_writeSmall_10, q_X4_writeSmall_11, q_X4_writeSmall_12, q_X4_writeSmall_15, q_X4_writeSmall_16, q_X4_writeSmall_19, q_X4_writeSmall_20, nI_add, pI_le, pI_lt, pI_eq, pI_neg, pI_nn, pI_le0, pI_gt0, pI_eq0, xbV_s, xbU_s, if_true, if_false, bI_eq0, Nat.reduceAdd, Nat.reduceSub, Nat.reduceEqDiff, Nat.reduceLeDiff, Nat.reduceLT, Bool.true_eq_false, Bool.false_eq_true, k8, k4, g4, g8, f1, g1]
  exact j1
theorem s4_steps (hW : sWF S) (hp : p < sq S) {o : wO} {I : xMem} (hb : o.2 = 7) (hC : wC I S p) (h : cB I o) : ∃ I', f_X4_writeSteps [.ref 170, .ref 1, .int (nI (sF S p)), .ref (1 + 7)] I = some (.inl none, I') ∧ zG 170 3 I I' ∧ cB I' (oL (fun k => nI (sw S p (k + 1)) - nI (sw S p k)) (pStep (sw S p) (sl S p)) (sl S p - 1) (oW (nI (pStep (sw S p) (sl S p))) 4 (oW (nI (sw S p 0)) 10 o))) := by
  have hl := hW.2.2.1 p hp
  have k1 := x1
  have k8 : xK (1 + 7) = 2 := by decide
  have k4 := x170
  have hv : f_X0_valueAt [.ref 1, .int (nI (sF S p))] I = some (.inl (some (.int (nI (sw S p 0)))), I) := hC.val hW hp (k := 0) (by omega)
  obtain ⟨I1, f1, f2, f3⟩ := s4_num (x := nI (sw S p 0)) (k := 10) (by omega) (by omega) h
  have hC1 := hC.cg f2
  have g9 := hC1.2.2.2.1
  obtain ⟨I2, g1, g2, g3⟩ := s4_num (x := nI (pStep (sw S p) (sl S p))) (k := 4) (by rw [oW_n]; omega) (by omega) f3
  obtain ⟨I3, j1, j2, j3⟩ := s4_steps_l hW hp (o := oW (nI (pStep (sw S p) (sl S p))) 4 (oW (nI (sw S p 0)) 10 o)) (I := I2) (by rw [oW_n, oW_n]; omega) (sl S p - 1) 0 I2 (by omega) zG.rf (hC1.cg g2) g3
  refine ⟨I3, ?_, f2.tr (g2.tr j2), j3⟩
  rw [e_X4_writeSteps]
  simp (disch := omega) only [q_X4_writeSteps_0, q_X4_writeSteps_1, q_X4_writeSteps_2, q_X4_writeSteps_3, q_X4_writeSteps_6, q_X4_writeSteps_8, q_X4_writeSteps_11, q_X4_writeSteps_12, q_X4_writeSteps_13, q_X4_writeSteps_16, q_X4_writeSteps_17, q_X4_writeSteps_20, q_X4_writeSteps_21, q_X4_writeSteps_22, q_X4_writeSteps_23, nI_add, pI_le, pI_lt, pI_eq, pI_neg, pI_nn, pI_le0, pI_gt0, pI_eq0, xbV_s, xbU_s, if_true, if_false, bI_eq0, Nat.reduceAdd, Nat.reduceSub, Nat.reduceEqDiff, Nat.reduceLeDiff, Nat.reduceLT, Bool.true_eq_false, Bool.false_eq_true, k1, k8, k4, hv, g9, f1, g1]
  exact j1
def cBf (I I' : xMem) : Prop := ∀ c, c < 8 ∨ (10 ≤ c ∧ c < 170) ∨ 173 ≤ c → I' c = I c
theorem s4_page {I : xMem} (hR : cR I 1 S) (hW : sWF S) (hp : p < sq S) : ∃ I', f_X4_writePage [.ref 170, .ref 1, .int (nI p)] I = some (.inl none, I') ∧ cBf I I' ∧ cB I' (pOut (sw S p) (sl S p) (sC S p)) := by
  have k1 := x1
  have k8 : xK (1 + 7) = 2 := by decide
  have k4 := x170
  have hl := hW.2.2.1 p hp
  have hpin := hW.2.2.2.2.2 p hp
  have hc4 := sC_le hW hp
  obtain ⟨I1, e1, e2, e3, e4⟩ := s0_meas xCol_1 hR hW hp
  have hC1 : wC I1 S p := ⟨e4, e3⟩
  have g : f_X2_codingWhen [.ref (1 + 7), .int (xpn (sp S p))] I1 = some (.inl (some (.int (nI (sC S p)))), I1) := s2_cod (xCol_1.2.2.2.2.2.2.2.2) e3 hl.1 hl.2 (sw_le hW hp) hpin
  have hB2 : cB (xup I1 170 1 (nI 0)) (fun _ => 0, 0) := ⟨xup_s, fun j hj => absurd hj (Nat.not_lt_zero _)⟩
  have hG2 : zG 170 3 I1 (xup I1 170 1 (nI 0)) := zG.rf.up (by omega) (by omega)
  obtain ⟨I3, f1, f2, f3⟩ := s4_num (x := nI (sC S p)) (k := 3) (by show 0 + 3 ≤ 179; omega) (by omega) hB2
  have hC3 := hC1.cg (hG2.tr f2)
  have g2 := hC3.2.2.1
  obtain ⟨I4, j1, j2, j3⟩ := s4_num (x := nI (sl S p)) (k := 4) (by rw [oW_n]; show 0 + 3 + 4 ≤ 179; omega) (by omega) f3
  have hC4 := hC3.cg j2
  have hG4 : zG 170 3 I1 I4 := hG2.tr (f2.tr j2)
  have fr : ∀ {I5}, zG 170 3 I4 I5 → cBf I I5 := fun h5 c hc => by rw [h5 c (by omega), hG4 c (by omega), e2 c (by omega)]
  have hl7 : (oW (nI (sl S p)) 4 (oW (nI (sC S p)) 3 (fun _ => 0, 0))).2 = 7 := by rw [oW_n, oW_n]
  have key : f_X4_writePage [.ref 170, .ref 1, .int (nI p)] I = xgo k_X4_writePage (xsel (nI (sC S p)) 1 [76, 87, 101, 112] 123) [some (.ref 170), some (.ref 1), some (.int (nI p)), some (.ref (1 + 7)), some (.int (nI (sC S p))), some (.int (nI (sF S p)))] [] I4 := by
    rw [e_X4_writePage]
    simp (disch := omega) only [q_X4_writePage_0, q_X4_writePage_1, q_X4_writePage_2, q_X4_writePage_5, q_X4_writePage_6, q_X4_writePage_7, q_X4_writePage_8, q_X4_writePage_9, q_X4_writePage_12, q_X4_writePage_15, q_X4_writePage_17, q_X4_writePage_18, q_X4_writePage_19, q_X4_writePage_22, q_X4_writePage_24, q_X4_writePage_25, q_X4_writePage_26, q_X4_writePage_29, q_X4_writePage_30, q_X4_writePage_32, q_X4_writePage_33, q_X4_writePage_36, q_X4_writePage_37, q_X4_writePage_38, q_X4_writePage_41, q_X4_writePage_42, q_X4_writePage_45, q_X4_writePage_47, nI_add, pI_le, pI_lt, pI_eq, pI_neg, pI_nn, pI_le0, pI_gt0, pI_eq0, xbV_s, xbU_s, if_true, if_false, bI_eq0, Nat.reduceAdd, Nat.reduceSub, Nat.reduceEqDiff, Nat.reduceLeDiff, Nat.reduceLT, Bool.true_eq_false, Bool.false_eq_true, k1, k8, k4, e1, g, g2, s0_pinOf xCol_1 e4 hW hp, s0_first xCol_1 e4 hW (Nat.le_of_lt hp), f1, j1]
  rw [key]
  generalize sC S p = c at *
  have g3 := hC4.2.2.1
  rcases (show c = 0 ∨ c = 1 ∨ c = 2 ∨ c = 3 ∨ c = 4 by omega) with rfl | rfl | rfl | rfl | rfl
  · have hx : xsel (nI 0) 1 [76, 87, 101, 112] 123 = 123 := rfl
    obtain ⟨I5, m1, m2, m3⟩ := s4_plain hW hp hl7 hC4 j3
    refine ⟨I5, ?_, fr m2, m3⟩
    simp (disch := omega) only [hx, q_X4_writePage_0, q_X4_writePage_1, q_X4_writePage_2, q_X4_writePage_5, q_X4_writePage_6, q_X4_writePage_7, q_X4_writePage_8, q_X4_writePage_9, q_X4_writePage_12, q_X4_writePage_15, q_X4_writePage_17, q_X4_writePage_18, q_X4_writePage_19, q_X4_writePage_22, q_X4_writePage_24, q_X4_writePage_25, q_X4_writePage_26, q_X4_writePage_29, q_X4_writePage_30, q_X4_writePage_32, q_X4_writePage_33, q_X4_writePage_36, q_X4_writePage_37, q_X4_writePage_38, q_X4_writePage_41, q_X4_writePage_42, q_X4_writePage_45, q_X4_writePage_47, q_X4_writePage_76, q_X4_writePage_77, q_X4_writePage_78, q_X4_writePage_80, q_X4_writePage_81, q_X4_writePage_84, q_X4_writePage_87, q_X4_writePage_88, q_X4_writePage_89, q_X4_writePage_91, q_X4_writePage_92, q_X4_writePage_95, q_X4_writePage_98, q_X4_writePage_101, q_X4_writePage_102, q_X4_writePage_103, q_X4_writePage_105, q_X4_writePage_106, q_X4_writePage_109, q_X4_writePage_112, q_X4_writePage_113, q_X4_writePage_114, q_X4_writePage_116, q_X4_writePage_117, q_X4_writePage_120, q_X4_writePage_123, q_X4_writePage_124, q_X4_writePage_125, q_X4_writePage_127, q_X4_writePage_128, q_X4_writePage_131, q_X4_writePage_134, nI_add, pI_le, pI_lt, pI_eq, pI_neg, pI_nn, pI_le0, pI_gt0, pI_eq0, xbV_s, xbU_s, if_true, if_false, bI_eq0, Nat.reduceAdd, Nat.reduceSub, Nat.reduceEqDiff, Nat.reduceLeDiff, Nat.reduceLT, Bool.true_eq_false, Bool.false_eq_true, k8, k4, g3, m1]
  · have hx : xsel (nI 1) 1 [76, 87, 101, 112] 123 = 76 := rfl
    obtain ⟨I5, m1, m2, m3⟩ := s4_words hW hp hl7 hC4 j3
    refine ⟨I5, ?_, fr m2, m3⟩
    simp (disch := omega) only [hx, q_X4_writePage_0, q_X4_writePage_1, q_X4_writePage_2, q_X4_writePage_5, q_X4_writePage_6, q_X4_writePage_7, q_X4_writePage_8, q_X4_writePage_9, q_X4_writePage_12, q_X4_writePage_15, q_X4_writePage_17, q_X4_writePage_18, q_X4_writePage_19, q_X4_writePage_22, q_X4_writePage_24, q_X4_writePage_25, q_X4_writePage_26, q_X4_writePage_29, q_X4_writePage_30, q_X4_writePage_32, q_X4_writePage_33, q_X4_writePage_36, q_X4_writePage_37, q_X4_writePage_38, q_X4_writePage_41, q_X4_writePage_42, q_X4_writePage_45, q_X4_writePage_47, q_X4_writePage_76, q_X4_writePage_77, q_X4_writePage_78, q_X4_writePage_80, q_X4_writePage_81, q_X4_writePage_84, q_X4_writePage_87, q_X4_writePage_88, q_X4_writePage_89, q_X4_writePage_91, q_X4_writePage_92, q_X4_writePage_95, q_X4_writePage_98, q_X4_writePage_101, q_X4_writePage_102, q_X4_writePage_103, q_X4_writePage_105, q_X4_writePage_106, q_X4_writePage_109, q_X4_writePage_112, q_X4_writePage_113, q_X4_writePage_114, q_X4_writePage_116, q_X4_writePage_117, q_X4_writePage_120, q_X4_writePage_123, q_X4_writePage_124, q_X4_writePage_125, q_X4_writePage_127, q_X4_writePage_128, q_X4_writePage_131, q_X4_writePage_134, nI_add, pI_le, pI_lt, pI_eq, pI_neg, pI_nn, pI_le0, pI_gt0, pI_eq0, xbV_s, xbU_s, if_true, if_false, bI_eq0, Nat.reduceAdd, Nat.reduceSub, Nat.reduceEqDiff, Nat.reduceLeDiff, Nat.reduceLT, Bool.true_eq_false, Bool.false_eq_true, k8, k4, g3, m1]
  · have hx : xsel (nI 2) 1 [76, 87, 101, 112] 123 = 87 := rfl
    obtain ⟨I5, m1, m2, m3⟩ := s4_runs hW hp hl7 hC4 j3
    refine ⟨I5, ?_, fr m2, m3⟩
    simp (disch := omega) only [hx, q_X4_writePage_0, q_X4_writePage_1, q_X4_writePage_2, q_X4_writePage_5, q_X4_writePage_6, q_X4_writePage_7, q_X4_writePage_8, q_X4_writePage_9, q_X4_writePage_12, q_X4_writePage_15, q_X4_writePage_17, q_X4_writePage_18, q_X4_writePage_19, q_X4_writePage_22, q_X4_writePage_24, q_X4_writePage_25, q_X4_writePage_26, q_X4_writePage_29, q_X4_writePage_30, q_X4_writePage_32, q_X4_writePage_33, q_X4_writePage_36, q_X4_writePage_37, q_X4_writePage_38, q_X4_writePage_41, q_X4_writePage_42, q_X4_writePage_45, q_X4_writePage_47, q_X4_writePage_76, q_X4_writePage_77, q_X4_writePage_78, q_X4_writePage_80, q_X4_writePage_81, q_X4_writePage_84, q_X4_writePage_87, q_X4_writePage_88, q_X4_writePage_89, q_X4_writePage_91, q_X4_writePage_92, q_X4_writePage_95, q_X4_writePage_98, q_X4_writePage_101, q_X4_writePage_102, q_X4_writePage_103, q_X4_writePage_105, q_X4_writePage_106, q_X4_writePage_109, q_X4_writePage_112, q_X4_writePage_113, q_X4_writePage_114, q_X4_writePage_116, q_X4_writePage_117, q_X4_writePage_120, q_X4_writePage_123, q_X4_writePage_124, q_X4_writePage_125, q_X4_writePage_127, q_X4_writePage_128, q_X4_writePage_131, q_X4_writePage_134, nI_add, pI_le, pI_lt, pI_eq, pI_neg, pI_nn, pI_le0, pI_gt0, pI_eq0, xbV_s, xbU_s, if_true, if_false, bI_eq0, Nat.reduceAdd, Nat.reduceSub, Nat.reduceEqDiff, Nat.reduceLeDiff, Nat.reduceLT, Bool.true_eq_false, Bool.false_eq_true, k8, k4, g3, m1]
  · have hx : xsel (nI 3) 1 [76, 87, 101, 112] 123 = 101 := rfl
    obtain ⟨I5, m1, m2, m3⟩ := s4_small hW hp hl7 hC4 j3
    refine ⟨I5, ?_, fr m2, m3⟩
    simp (disch := omega) only [hx, q_X4_writePage_0, q_X4_writePage_1, q_X4_writePage_2, q_X4_writePage_5, q_X4_writePage_6, q_X4_writePage_7, q_X4_writePage_8, q_X4_writePage_9, q_X4_writePage_12, q_X4_writePage_15, q_X4_writePage_17, q_X4_writePage_18, q_X4_writePage_19, q_X4_writePage_22, q_X4_writePage_24, q_X4_writePage_25, q_X4_writePage_26, q_X4_writePage_29, q_X4_writePage_30, q_X4_writePage_32, q_X4_writePage_33, q_X4_writePage_36, q_X4_writePage_37, q_X4_writePage_38, q_X4_writePage_41, q_X4_writePage_42, q_X4_writePage_45, q_X4_writePage_47, q_X4_writePage_76, q_X4_writePage_77, q_X4_writePage_78, q_X4_writePage_80, q_X4_writePage_81, q_X4_writePage_84, q_X4_writePage_87, q_X4_writePage_88, q_X4_writePage_89, q_X4_writePage_91, q_X4_writePage_92, q_X4_writePage_95, q_X4_writePage_98, q_X4_writePage_101, q_X4_writePage_102, q_X4_writePage_103, q_X4_writePage_105, q_X4_writePage_106, q_X4_writePage_109, q_X4_writePage_112, q_X4_writePage_113, q_X4_writePage_114, q_X4_writePage_116, q_X4_writePage_117, q_X4_writePage_120, q_X4_writePage_123, q_X4_writePage_124, q_X4_writePage_125, q_X4_writePage_127, q_X4_writePage_128, q_X4_writePage_131, q_X4_writePage_134, nI_add, pI_le, pI_lt, pI_eq, pI_neg, pI_nn, pI_le0, pI_gt0, pI_eq0, xbV_s, xbU_s, if_true, if_false, bI_eq0, Nat.reduceAdd, Nat.reduceSub, Nat.reduceEqDiff, Nat.reduceLeDiff, Nat.reduceLT, Bool.true_eq_false, Bool.false_eq_true, k8, k4, g3, m1]
  · have hx : xsel (nI 4) 1 [76, 87, 101, 112] 123 = 112 := rfl
    obtain ⟨I5, m1, m2, m3⟩ := s4_steps hW hp hl7 hC4 j3
    refine ⟨I5, ?_, fr m2, m3⟩
    simp (disch := omega) only [hx, q_X4_writePage_0, q_X4_writePage_1, q_X4_writePage_2, q_X4_writePage_5, q_X4_writePage_6, q_X4_writePage_7, q_X4_writePage_8, q_X4_writePage_9, q_X4_writePage_12, q_X4_writePage_15, q_X4_writePage_17, q_X4_writePage_18, q_X4_writePage_19, q_X4_writePage_22, q_X4_writePage_24, q_X4_writePage_25, q_X4_writePage_26, q_X4_writePage_29, q_X4_writePage_30, q_X4_writePage_32, q_X4_writePage_33, q_X4_writePage_36, q_X4_writePage_37, q_X4_writePage_38, q_X4_writePage_41, q_X4_writePage_42, q_X4_writePage_45, q_X4_writePage_47, q_X4_writePage_76, q_X4_writePage_77, q_X4_writePage_78, q_X4_writePage_80, q_X4_writePage_81, q_X4_writePage_84, q_X4_writePage_87, q_X4_writePage_88, q_X4_writePage_89, q_X4_writePage_91, q_X4_writePage_92, q_X4_writePage_95, q_X4_writePage_98, q_X4_writePage_101, q_X4_writePage_102, q_X4_writePage_103, q_X4_writePage_105, q_X4_writePage_106, q_X4_writePage_109, q_X4_writePage_112, q_X4_writePage_113, q_X4_writePage_114, q_X4_writePage_116, q_X4_writePage_117, q_X4_writePage_120, q_X4_writePage_123, q_X4_writePage_124, q_X4_writePage_125, q_X4_writePage_127, q_X4_writePage_128, q_X4_writePage_131, q_X4_writePage_134, nI_add, pI_le, pI_lt, pI_eq, pI_neg, pI_nn, pI_le0, pI_gt0, pI_eq0, xbV_s, xbU_s, if_true, if_false, bI_eq0, Nat.reduceAdd, Nat.reduceSub, Nat.reduceEqDiff, Nat.reduceLeDiff, Nat.reduceLT, Bool.true_eq_false, Bool.false_eq_true, k8, k4, g3, m1]
theorem pOut_n {w : Nat → Nat} {n c : Nat} (h1 : 1 ≤ n) (h12 : n ≤ 12) (hw : ∀ j, j < n → w j ≤ 1023) : (pOut w n c).2 ≤ 179 := by
  have hd := pDiff_le w n
  have b1 : pWd (pDiff w n - 1) ≤ 4 := pWd4 (by omega)
  have b2 : pMx w n ≤ 1023 := pMx_le hw
  have b3 : pWd (pMx w n - pMn w n) ≤ 10 := pWd10 (by omega)
  have b4 : pStep w n ≤ 11 := pStep_le hw
  have m1 : pWd (pDiff w n - 1) * n ≤ 4 * 12 := Nat.mul_le_mul b1 h12
  have m2 : pWd (pMx w n - pMn w n) * n ≤ 10 * 12 := Nat.mul_le_mul b3 h12
  have m3 : pStep w n * (n - 1) ≤ 11 * 11 := Nat.mul_le_mul b4 (by omega)
  have m4 := oR_n (w := w) (n := n) (f := n) (i := 0) (s := 0) (o := oW (nI n) 4 (oW (nI 2) 3 (fun _ => 0, 0)))
  rw [oW_n, oW_n] at m4
  have m4 : _ ≤ 0 + 3 + 4 + 14 * n := m4
  unfold pOut
  split
  · rw [oL_n, oW_n, oW_n]
    show 0 + 3 + 4 + 10 * n ≤ 179
    omega
  · rw [oL_n, oD_n, oW_n, oW_n, oW_n]
    show 0 + 3 + 4 + 4 + 10 * pDiff w n + pWd (pDiff w n - 1) * n ≤ 179
    omega
  · omega
  · rw [oL_n, oW_n, oW_n, oW_n, oW_n]
    show 0 + 3 + 4 + 10 + 4 + pWd (pMx w n - pMn w n) * n ≤ 179
    omega
  · rw [oL_n, oW_n, oW_n, oW_n, oW_n]
    show 0 + 3 + 4 + 10 + 4 + pStep w n * (n - 1) ≤ 179
    omega
end PW2
end P51
