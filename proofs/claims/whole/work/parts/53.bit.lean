/-! ===== bit ===== -/
section P53
section PB3
variable {α : aS}
theorem r170' : xR 170 0 = 171 := by decide
theorem op_bit (x y : Int32) : Agree f_X8_bit f_X9_bit [.int x, .int y] [3, 1] α := Agree.wf fun hw => by
  have k0 := x0
  have k1 := x1
  have k4 := x170
  have kr := w171.1
  have k9 := x189
  have k97 := x197
  have l97 := l197
  have hW := hw.1
  have hq := hW.1
  cases hx : xLt x (sq (zS α)) with
  | false =>
    refine Agree.no 1 (by omega) (by decide) (fun I hI => ?_) (fun I hI => ?_)
    · show f_X8_bit [.ref 0, .int x, .int y] I = some (.inr 3, I)
      rw [e_X8_bit]
      simp (disch := omega) only [q_X8_bit_0, q_X8_bit_1, q_X8_bit_4, q_X8_bit_5, q_X8_bit_8, q_X8_bit_11, q_X8_bit_21, q_X8_bit_22, q_X8_bit_25, q_X8_bit_35, q_X8_bit_36, q_X8_bit_39, q_X8_bit_40, q_X8_bit_43, q_X8_bit_44, q_X8_bit_47, q_X8_bit_48, q_X8_bit_49, q_X8_bit_52, q_X8_bit_55, q_X8_bit_58, q_X8_bit_59, q_X8_bit_62, q_X8_bit_65, q_X8_bit_66, q_X8_bit_69, q_X8_bit_72, q_X8_bit_75, nI_add, pI_le, pI_lt, pI_eq, pI_neg, pI_nn, pI_le0, pI_gt0, pI_eq0, xbV_s, xbU_s, if_true, if_false, bI_eq0, Nat.reduceAdd, Nat.reduceSub, Nat.reduceEqDiff, Nat.reduceLeDiff, Nat.reduceLT, Bool.true_eq_false, Bool.false_eq_true, k0, k1, r0_0, s0_hasPage xCol_1 hI.2.1 hW, hx]
    · rw [e_X9_bit]
      simp (disch := omega) only [q_X9_bit_0, q_X9_bit_1, q_X9_bit_2, q_X9_bit_5, q_X9_bit_6, q_X9_bit_9, q_X9_bit_12, q_X9_bit_13, q_X9_bit_16, q_X9_bit_17, q_X9_bit_20, q_X9_bit_21, q_X9_bit_24, q_X9_bit_25, q_X9_bit_28, q_X9_bit_31, q_X9_bit_32, q_X9_bit_33, q_X9_bit_34, q_X9_bit_35, q_X9_bit_38, q_X9_bit_39, q_X9_bit_40, q_X9_bit_43, q_X9_bit_46, q_X9_bit_47, q_X9_bit_50, q_X9_bit_51, q_X9_bit_52, q_X9_bit_55, q_X9_bit_58, nI_add, pI_le, pI_lt, pI_eq, pI_neg, pI_nn, pI_le0, pI_gt0, pI_eq0, xbV_s, xbU_s, if_true, if_false, bI_eq0, Nat.reduceAdd, Nat.reduceSub, Nat.reduceEqDiff, Nat.reduceLeDiff, Nat.reduceLT, Bool.true_eq_false, Bool.false_eq_true, k9, r9_4, s9_isPage hI.2.1 hW, hx, s9_rf1]
  | true =>
    obtain ⟨p, hp, rfl⟩ := xLt_ex hx (by omega)
    by_cases hy : y < 0
    · have hy' : ¬ 0 ≤ y := by
        rw [Int32.lt_iff_toInt_lt, Int32.toInt_zero] at hy
        rw [Int32.le_iff_toInt_le, Int32.toInt_zero]
        omega
      refine Agree.no 2 (by omega) (by decide) (fun I hI => ?_) (fun I hI => ?_)
      · show f_X8_bit [.ref 0, .int (nI p), .int y] I = some (.inr 1, I)
        rw [e_X8_bit]
        simp (disch := omega) only [q_X8_bit_0, q_X8_bit_1, q_X8_bit_4, q_X8_bit_5, q_X8_bit_8, q_X8_bit_11, q_X8_bit_21, q_X8_bit_22, q_X8_bit_25, q_X8_bit_35, q_X8_bit_36, q_X8_bit_39, q_X8_bit_40, q_X8_bit_43, q_X8_bit_44, q_X8_bit_47, q_X8_bit_48, q_X8_bit_49, q_X8_bit_52, q_X8_bit_55, q_X8_bit_58, q_X8_bit_59, q_X8_bit_62, q_X8_bit_65, q_X8_bit_66, q_X8_bit_69, q_X8_bit_72, q_X8_bit_75, nI_add, pI_le, pI_lt, pI_eq, pI_neg, pI_nn, pI_le0, pI_gt0, pI_eq0, xbV_s, xbU_s, if_true, if_false, bI_eq0, Nat.reduceAdd, Nat.reduceSub, Nat.reduceEqDiff, Nat.reduceLeDiff, Nat.reduceLT, Bool.true_eq_false, Bool.false_eq_true, k0, k1, r0_0, s0_hasPage xCol_1 hI.2.1 hW, hx, hy']
      · rw [e_X9_bit]
        simp (disch := omega) only [q_X9_bit_0, q_X9_bit_1, q_X9_bit_2, q_X9_bit_5, q_X9_bit_6, q_X9_bit_9, q_X9_bit_12, q_X9_bit_13, q_X9_bit_16, q_X9_bit_17, q_X9_bit_20, q_X9_bit_21, q_X9_bit_24, q_X9_bit_25, q_X9_bit_28, q_X9_bit_31, q_X9_bit_32, q_X9_bit_33, q_X9_bit_34, q_X9_bit_35, q_X9_bit_38, q_X9_bit_39, q_X9_bit_40, q_X9_bit_43, q_X9_bit_46, q_X9_bit_47, q_X9_bit_50, q_X9_bit_51, q_X9_bit_52, q_X9_bit_55, q_X9_bit_58, nI_add, pI_le, pI_lt, pI_eq, pI_neg, pI_nn, pI_le0, pI_gt0, pI_eq0, xbV_s, xbU_s, if_true, if_false, bI_eq0, Nat.reduceAdd, Nat.reduceSub, Nat.reduceEqDiff, Nat.reduceLeDiff, Nat.reduceLT, Bool.true_eq_false, Bool.false_eq_true, k9, r9_4, s9_isPage hI.2.1 hW, hx, hy', s9_rf2]
    · obtain ⟨j, hj, rfl⟩ := nI_of hy
      have hl := hW.2.2.1 p hp
      have hO := pOut_n (c := sC (zS α) p) hl.1 hl.2 (sw_le hW hp)
      refine ⟨0, if j < (pOut (sw (zS α) p) (sl (zS α) p) (sC (zS α) p)).2 then (pOut (sw (zS α) p) (sl (zS α) p) (sC (zS α) p)).1 j else -9999, α, by decide, fun I hI => ?_, fun I hI => ?_⟩
      · obtain ⟨I', f1, f2, f3⟩ := s4_page hI.2.1 hW hp
        have g1 := f3.1
        refine ⟨I', ?_, hI.cg (fun c hc => f2 c (by omega)) (by rw [f2 163 (by omega)]), fun c hc => f2 c (by omega)⟩
        rw [if_pos rfl, e_X8_bit]
        by_cases q : j < (pOut (sw (zS α) p) (sl (zS α) p) (sC (zS α) p)).2
        · have n1 : ¬ (pOut (sw (zS α) p) (sl (zS α) p) (sC (zS α) p)).2 ≤ j := by omega
          have g2 := f3.2 j q
          rw [if_pos q]
          simp (disch := omega) only [q_X8_bit_0, q_X8_bit_1, q_X8_bit_4, q_X8_bit_5, q_X8_bit_8, q_X8_bit_11, q_X8_bit_21, q_X8_bit_22, q_X8_bit_25, q_X8_bit_35, q_X8_bit_36, q_X8_bit_39, q_X8_bit_40, q_X8_bit_43, q_X8_bit_44, q_X8_bit_47, q_X8_bit_48, q_X8_bit_49, q_X8_bit_52, q_X8_bit_55, q_X8_bit_58, q_X8_bit_59, q_X8_bit_62, q_X8_bit_65, q_X8_bit_66, q_X8_bit_69, q_X8_bit_72, q_X8_bit_75, nI_add, pI_le, pI_lt, pI_eq, pI_neg, pI_nn, pI_le0, pI_gt0, pI_eq0, xbV_s, xbU_s, if_true, if_false, bI_eq0, Nat.reduceAdd, Nat.reduceSub, Nat.reduceEqDiff, Nat.reduceLeDiff, Nat.reduceLT, Bool.true_eq_false, Bool.false_eq_true, k0, k1, k4, kr, r0_0, r0_2, r170', s0_hasPage xCol_1 hI.2.1 hW, hx, f1, g1, n1, s_get w171]
          exact congrArg (fun z => some (Sum.inl (some (Value.int z)), I')) g2
        · have n1 : (pOut (sw (zS α) p) (sl (zS α) p) (sC (zS α) p)).2 ≤ j := by omega
          rw [if_neg q]
          simp (disch := omega) only [q_X8_bit_0, q_X8_bit_1, q_X8_bit_4, q_X8_bit_5, q_X8_bit_8, q_X8_bit_11, q_X8_bit_21, q_X8_bit_22, q_X8_bit_25, q_X8_bit_35, q_X8_bit_36, q_X8_bit_39, q_X8_bit_40, q_X8_bit_43, q_X8_bit_44, q_X8_bit_47, q_X8_bit_48, q_X8_bit_49, q_X8_bit_52, q_X8_bit_55, q_X8_bit_58, q_X8_bit_59, q_X8_bit_62, q_X8_bit_65, q_X8_bit_66, q_X8_bit_69, q_X8_bit_72, q_X8_bit_75, nI_add, pI_le, pI_lt, pI_eq, pI_neg, pI_nn, pI_le0, pI_gt0, pI_eq0, xbV_s, xbU_s, if_true, if_false, bI_eq0, Nat.reduceAdd, Nat.reduceSub, Nat.reduceEqDiff, Nat.reduceLeDiff, Nat.reduceLT, Bool.true_eq_false, Bool.false_eq_true, k0, k1, k4, kr, r0_0, r0_2, r170', s0_hasPage xCol_1 hI.2.1 hW, hx, f1, g1, n1]
      · have hI0 := hI.rf 0
        obtain ⟨I', f1, f2, f3⟩ := s9_page hI0.2.1 hW hp
        have g1 := f3.1
        refine ⟨I', ?_, hI0.cg (fun c hc => f2.1 c (by omega) (by omega)) (f2.2 2 (by omega)) (f2.2 8 (by omega)), (zG.rf.up (by omega) (by omega) : zG 189 12 I (xup I 189 0 (nI 0))).tr (fun c hc => f2.1 c (by omega) (by omega)), by rw [f2.2 0 (by omega), xup_s]⟩
        rw [if_pos rfl, e_X9_bit]
        by_cases q : j < (pOut (sw (zS α) p) (sl (zS α) p) (sC (zS α) p)).2
        · have n1 : ¬ (pOut (sw (zS α) p) (sl (zS α) p) (sC (zS α) p)).2 ≤ j := by omega
          have g2 := f3.2 j q
          rw [if_pos q]
          simp (disch := omega) only [q_X9_bit_0, q_X9_bit_1, q_X9_bit_2, q_X9_bit_5, q_X9_bit_6, q_X9_bit_9, q_X9_bit_12, q_X9_bit_13, q_X9_bit_16, q_X9_bit_17, q_X9_bit_20, q_X9_bit_21, q_X9_bit_24, q_X9_bit_25, q_X9_bit_28, q_X9_bit_31, q_X9_bit_32, q_X9_bit_33, q_X9_bit_34, q_X9_bit_35, q_X9_bit_38, q_X9_bit_39, q_X9_bit_40, q_X9_bit_43, q_X9_bit_46, q_X9_bit_47, q_X9_bit_50, q_X9_bit_51, q_X9_bit_52, q_X9_bit_55, q_X9_bit_58, nI_add, pI_le, pI_lt, pI_eq, pI_neg, pI_nn, pI_le0, pI_gt0, pI_eq0, xbV_s, xbU_s, if_true, if_false, bI_eq0, Nat.reduceAdd, Nat.reduceSub, Nat.reduceEqDiff, Nat.reduceLeDiff, Nat.reduceLT, Bool.true_eq_false, Bool.false_eq_true, k9, r9_4, r9_11, k97, l97, s9_isPage hI.2.1 hW, hx, s9_rf0, f1, g1, n1]
          exact congrArg (fun z => some (Sum.inl (some (Value.int z)), I')) g2
        · have n1 : (pOut (sw (zS α) p) (sl (zS α) p) (sC (zS α) p)).2 ≤ j := by omega
          rw [if_neg q]
          simp (disch := omega) only [q_X9_bit_0, q_X9_bit_1, q_X9_bit_2, q_X9_bit_5, q_X9_bit_6, q_X9_bit_9, q_X9_bit_12, q_X9_bit_13, q_X9_bit_16, q_X9_bit_17, q_X9_bit_20, q_X9_bit_21, q_X9_bit_24, q_X9_bit_25, q_X9_bit_28, q_X9_bit_31, q_X9_bit_32, q_X9_bit_33, q_X9_bit_34, q_X9_bit_35, q_X9_bit_38, q_X9_bit_39, q_X9_bit_40, q_X9_bit_43, q_X9_bit_46, q_X9_bit_47, q_X9_bit_50, q_X9_bit_51, q_X9_bit_52, q_X9_bit_55, q_X9_bit_58, nI_add, pI_le, pI_lt, pI_eq, pI_neg, pI_nn, pI_le0, pI_gt0, pI_eq0, xbV_s, xbU_s, if_true, if_false, bI_eq0, Nat.reduceAdd, Nat.reduceSub, Nat.reduceEqDiff, Nat.reduceLeDiff, Nat.reduceLT, Bool.true_eq_false, Bool.false_eq_true, k9, r9_4, r9_11, k97, l97, s9_isPage hI.2.1 hW, hx, s9_rf0, f1, g1, n1]
end PB3
end P53
