/-! ===== the class: a column, what is read ===== -/
section P28
def xCol (a : Nat) : Prop := xK a = 0 ∧ xR a 0 = a + 1 ∧ xR a 1 = a + 3 ∧ xR a 2 = a + 5 ∧ xR a 3 = a + 7 ∧ xRow (a + 1) 120 ∧ xRow (a + 3) 10 ∧ xRow (a + 5) 10 ∧ xMes (a + 7)
def cR (I : xMem) (a : Nat) (S : cS) : Prop := I a 4 = nI (sn S) ∧ I a 5 = nI (sq S) ∧ I a 6 = nI (sm S) ∧ (∀ j, j < sn S → I (a + 1 + 1) j = nI (sv S j)) ∧ (∀ p, p < sq S → I (a + 3 + 1) p = nI (sl S p)) ∧ (∀ p, p < sq S → I (a + 5 + 1) p = xpn (sp S p))
theorem cR.cg {I I' : xMem} {a : Nat} {S : cS} (h : cR I a S) (h1 : ∀ c, a ≤ c → c ≤ a + 6 → I' c = I c) : cR I' a S := by
  unfold cR
  rw [h1 a (by omega) (by omega), h1 (a + 1 + 1) (by omega) (by omega), h1 (a + 3 + 1) (by omega) (by omega), h1 (a + 5 + 1) (by omega) (by omega)]
  exact h
theorem cR.me {I I' : xMem} {a : Nat} {S : cS} (h : cR I a S) (h1 : zG (a + 7) 2 I I') : cR I' a S := h.cg (fun c _ _ => h1 c (by omega))
section PC
variable {a : Nat} {S : cS} {I : xMem}
theorem s0_hasValue {x : Int32} (hA : xCol a) (h : cR I a S) (hW : sWF S) : f_X0_hasValue [.ref a, .int x] I = some (.inl (some (.int (bI (xLt x (sn S))))), I) := by
  have a1 := hA.1
  have h1 := h.1
  have hn := sn_120 hW
  rw [e_X0_hasValue]
  by_cases q : x < 0
  · rw [xLt_lt q, bI_f]
    simp (disch := omega) only [q_X0_hasValue_0, q_X0_hasValue_1, q_X0_hasValue_4, q_X0_hasValue_5, q_X0_hasValue_6, q_X0_hasValue_9, q_X0_hasValue_12, q_X0_hasValue_13, q_X0_hasValue_16, q_X0_hasValue_17_b, q_X0_hasValue_17_0, q_X0_hasValue_17_1, nI_add, pI_le, pI_lt, pI_eq, pI_neg, pI_nn, pI_le0, pI_gt0, pI_eq0, xbV_s, xbU_s, if_true, if_false, bI_eq0, Nat.reduceAdd, Nat.reduceSub, Nat.reduceEqDiff, Nat.reduceLeDiff, Nat.reduceLT, Bool.true_eq_false, Bool.false_eq_true, q]
  · by_cases r : nI (sn S) ≤ x
    · rw [xLt_ge r (by omega), bI_f]
      simp (disch := omega) only [q_X0_hasValue_0, q_X0_hasValue_1, q_X0_hasValue_4, q_X0_hasValue_5, q_X0_hasValue_6, q_X0_hasValue_9, q_X0_hasValue_12, q_X0_hasValue_13, q_X0_hasValue_16, q_X0_hasValue_17_b, q_X0_hasValue_17_0, q_X0_hasValue_17_1, nI_add, pI_le, pI_lt, pI_eq, pI_neg, pI_nn, pI_le0, pI_gt0, pI_eq0, xbV_s, xbU_s, if_true, if_false, bI_eq0, Nat.reduceAdd, Nat.reduceSub, Nat.reduceEqDiff, Nat.reduceLeDiff, Nat.reduceLT, Bool.true_eq_false, Bool.false_eq_true, q, a1, h1, r]
    · rw [xLt_in q r (by omega), bI_t]
      simp (disch := omega) only [q_X0_hasValue_0, q_X0_hasValue_1, q_X0_hasValue_4, q_X0_hasValue_5, q_X0_hasValue_6, q_X0_hasValue_9, q_X0_hasValue_12, q_X0_hasValue_13, q_X0_hasValue_16, q_X0_hasValue_17_b, q_X0_hasValue_17_0, q_X0_hasValue_17_1, nI_add, pI_le, pI_lt, pI_eq, pI_neg, pI_nn, pI_le0, pI_gt0, pI_eq0, xbV_s, xbU_s, if_true, if_false, bI_eq0, Nat.reduceAdd, Nat.reduceSub, Nat.reduceEqDiff, Nat.reduceLeDiff, Nat.reduceLT, Bool.true_eq_false, Bool.false_eq_true, q, a1, h1, r]
theorem s0_hasPage {x : Int32} (hA : xCol a) (h : cR I a S) (hW : sWF S) : f_X0_hasPage [.ref a, .int x] I = some (.inl (some (.int (bI (xLt x (sq S))))), I) := by
  have a1 := hA.1
  have h1 := h.2.1
  have hn := hW.1
  rw [e_X0_hasPage]
  by_cases q : x < 0
  · rw [xLt_lt q, bI_f]
    simp (disch := omega) only [q_X0_hasPage_0, q_X0_hasPage_1, q_X0_hasPage_4, q_X0_hasPage_5, q_X0_hasPage_6, q_X0_hasPage_9, q_X0_hasPage_12, q_X0_hasPage_13, q_X0_hasPage_16, q_X0_hasPage_17_b, q_X0_hasPage_17_0, q_X0_hasPage_17_1, nI_add, pI_le, pI_lt, pI_eq, pI_neg, pI_nn, pI_le0, pI_gt0, pI_eq0, xbV_s, xbU_s, if_true, if_false, bI_eq0, Nat.reduceAdd, Nat.reduceSub, Nat.reduceEqDiff, Nat.reduceLeDiff, Nat.reduceLT, Bool.true_eq_false, Bool.false_eq_true, q]
  · by_cases r : nI (sq S) ≤ x
    · rw [xLt_ge r (by omega), bI_f]
      simp (disch := omega) only [q_X0_hasPage_0, q_X0_hasPage_1, q_X0_hasPage_4, q_X0_hasPage_5, q_X0_hasPage_6, q_X0_hasPage_9, q_X0_hasPage_12, q_X0_hasPage_13, q_X0_hasPage_16, q_X0_hasPage_17_b, q_X0_hasPage_17_0, q_X0_hasPage_17_1, nI_add, pI_le, pI_lt, pI_eq, pI_neg, pI_nn, pI_le0, pI_gt0, pI_eq0, xbV_s, xbU_s, if_true, if_false, bI_eq0, Nat.reduceAdd, Nat.reduceSub, Nat.reduceEqDiff, Nat.reduceLeDiff, Nat.reduceLT, Bool.true_eq_false, Bool.false_eq_true, q, a1, h1, r]
    · rw [xLt_in q r (by omega), bI_t]
      simp (disch := omega) only [q_X0_hasPage_0, q_X0_hasPage_1, q_X0_hasPage_4, q_X0_hasPage_5, q_X0_hasPage_6, q_X0_hasPage_9, q_X0_hasPage_12, q_X0_hasPage_13, q_X0_hasPage_16, q_X0_hasPage_17_b, q_X0_hasPage_17_0, q_X0_hasPage_17_1, nI_add, pI_le, pI_lt, pI_eq, pI_neg, pI_nn, pI_le0, pI_gt0, pI_eq0, xbV_s, xbU_s, if_true, if_false, bI_eq0, Nat.reduceAdd, Nat.reduceSub, Nat.reduceEqDiff, Nat.reduceLeDiff, Nat.reduceLT, Bool.true_eq_false, Bool.false_eq_true, q, a1, h1, r]
theorem s0_hasNext {x : Int32} (hA : xCol a) (h : cR I a S) (hW : sWF S) : f_X0_hasNext [.ref a, .int x] I = some (.inl (some (.int (bI (xLt x (sq S - 1))))), I) := by
  have a1 := hA.1
  have h1 := h.2.1
  have hn := hW.1
  rw [e_X0_hasNext]
  by_cases q : x < 0
  · rw [xLt_lt q, bI_f]
    simp (disch := omega) only [q_X0_hasNext_0, q_X0_hasNext_1, q_X0_hasNext_4, q_X0_hasNext_5, q_X0_hasNext_6, q_X0_hasNext_9, q_X0_hasNext_10, q_X0_hasNext_11, q_X0_hasNext_14, q_X0_hasNext_15, q_X0_hasNext_18, q_X0_hasNext_19_b, q_X0_hasNext_19_0, q_X0_hasNext_19_1, nI_add, pI_le, pI_lt, pI_eq, pI_neg, pI_nn, pI_le0, pI_gt0, pI_eq0, xbV_s, xbU_s, if_true, if_false, bI_eq0, Nat.reduceAdd, Nat.reduceSub, Nat.reduceEqDiff, Nat.reduceLeDiff, Nat.reduceLT, Bool.true_eq_false, Bool.false_eq_true, q]
  · by_cases z : sq S = 0
    · have z1 : nI 0 - nI 1 ≤ x := by
        have z2 : nI 0 - nI 1 = -1 := by decide
        rw [z2, Int32.le_iff_toInt_le]
        rw [Int32.lt_iff_toInt_lt, Int32.toInt_zero] at q
        rw [show (-1 : Int32).toInt = -1 by decide]
        omega
      have z3 : xLt x (0 - 1) = false := by
        show xLt x 0 = false
        rw [Int32.lt_iff_toInt_lt, Int32.toInt_zero] at q
        unfold xLt
        exact decide_eq_false (by omega)
      rw [z] at h1
      rw [z, z3, bI_f]
      simp (disch := omega) only [q_X0_hasNext_0, q_X0_hasNext_1, q_X0_hasNext_4, q_X0_hasNext_5, q_X0_hasNext_6, q_X0_hasNext_9, q_X0_hasNext_10, q_X0_hasNext_11, q_X0_hasNext_14, q_X0_hasNext_15, q_X0_hasNext_18, q_X0_hasNext_19_b, q_X0_hasNext_19_0, q_X0_hasNext_19_1, nI_add, pI_le, pI_lt, pI_eq, pI_neg, pI_nn, pI_le0, pI_gt0, pI_eq0, xbV_s, xbU_s, if_true, if_false, bI_eq0, Nat.reduceAdd, Nat.reduceSub, Nat.reduceEqDiff, Nat.reduceLeDiff, Nat.reduceLT, Bool.true_eq_false, Bool.false_eq_true, q, a1, h1, z1]
    · have e : nI (sq S) - nI 1 = nI (sq S - 1) := pI_sub (by omega)
      by_cases r : nI (sq S - 1) ≤ x
      · rw [xLt_ge r (by omega), bI_f]
        simp (disch := omega) only [q_X0_hasNext_0, q_X0_hasNext_1, q_X0_hasNext_4, q_X0_hasNext_5, q_X0_hasNext_6, q_X0_hasNext_9, q_X0_hasNext_10, q_X0_hasNext_11, q_X0_hasNext_14, q_X0_hasNext_15, q_X0_hasNext_18, q_X0_hasNext_19_b, q_X0_hasNext_19_0, q_X0_hasNext_19_1, nI_add, pI_le, pI_lt, pI_eq, pI_neg, pI_nn, pI_le0, pI_gt0, pI_eq0, xbV_s, xbU_s, if_true, if_false, bI_eq0, Nat.reduceAdd, Nat.reduceSub, Nat.reduceEqDiff, Nat.reduceLeDiff, Nat.reduceLT, Bool.true_eq_false, Bool.false_eq_true, q, a1, h1, e, r]
      · rw [xLt_in q r (by omega), bI_t]
        simp (disch := omega) only [q_X0_hasNext_0, q_X0_hasNext_1, q_X0_hasNext_4, q_X0_hasNext_5, q_X0_hasNext_6, q_X0_hasNext_9, q_X0_hasNext_10, q_X0_hasNext_11, q_X0_hasNext_14, q_X0_hasNext_15, q_X0_hasNext_18, q_X0_hasNext_19_b, q_X0_hasNext_19_0, q_X0_hasNext_19_1, nI_add, pI_le, pI_lt, pI_eq, pI_neg, pI_nn, pI_le0, pI_gt0, pI_eq0, xbV_s, xbU_s, if_true, if_false, bI_eq0, Nat.reduceAdd, Nat.reduceSub, Nat.reduceEqDiff, Nat.reduceLeDiff, Nat.reduceLT, Bool.true_eq_false, Bool.false_eq_true, q, a1, h1, e, r]
theorem s0_isFull (hA : xCol a) (h : cR I a S) (hW : sWF S) : f_X0_isFull [.ref a] I = some (.inl (some (.int (bI (decide (sq S = 10))))), I) := by
  have a1 := hA.1
  have h1 := h.2.1
  have hn := hW.1
  rw [e_X0_isFull]
  by_cases q : sq S = 10
  · rw [decide_eq_true q, bI_t]
    have q1 : ¬ sq S < 10 := by omega
    simp (disch := omega) only [q_X0_isFull_0, q_X0_isFull_1, q_X0_isFull_4, q_X0_isFull_6, q_X0_isFull_9, q_X0_isFull_10, q_X0_isFull_13, q_X0_isFull_14_b, q_X0_isFull_14_0, q_X0_isFull_14_1, nI_add, pI_le, pI_lt, pI_eq, pI_neg, pI_nn, pI_le0, pI_gt0, pI_eq0, xbV_s, xbU_s, if_true, if_false, bI_eq0, Nat.reduceAdd, Nat.reduceSub, Nat.reduceEqDiff, Nat.reduceLeDiff, Nat.reduceLT, Bool.true_eq_false, Bool.false_eq_true, a1, h1, q1]
  · rw [decide_eq_false q, bI_f]
    have q1 : sq S < 10 := by omega
    simp (disch := omega) only [q_X0_isFull_0, q_X0_isFull_1, q_X0_isFull_4, q_X0_isFull_6, q_X0_isFull_9, q_X0_isFull_10, q_X0_isFull_13, q_X0_isFull_14_b, q_X0_isFull_14_0, q_X0_isFull_14_1, nI_add, pI_le, pI_lt, pI_eq, pI_neg, pI_nn, pI_le0, pI_gt0, pI_eq0, xbV_s, xbU_s, if_true, if_false, bI_eq0, Nat.reduceAdd, Nat.reduceSub, Nat.reduceEqDiff, Nat.reduceLeDiff, Nat.reduceLT, Bool.true_eq_false, Bool.false_eq_true, a1, h1, q1]
theorem s0_valueAt {i : Nat} (hA : xCol a) (h : cR I a S) (hW : sWF S) (hi : i < sn S) : f_X0_valueAt [.ref a, .int (nI i)] I = some (.inl (some (.int (nI (sv S i)))), I) := by
  obtain ⟨a1, a2, a3, a4, a5, a6, a7, a8, a9⟩ := hA
  have k6 := a6.1
  have k7 := a7.1
  have k8 := a8.1
  have g := h.2.2.2.1 i hi
  have hn := sn_120 hW
  rw [e_X0_valueAt]
  simp (disch := omega) only [q_X0_valueAt_0, q_X0_valueAt_1, q_X0_valueAt_4, q_X0_valueAt_5, q_X0_valueAt_8, nI_add, pI_le, pI_lt, pI_eq, pI_neg, pI_nn, pI_le0, pI_gt0, pI_eq0, xbV_s, xbU_s, if_true, if_false, bI_eq0, Nat.reduceAdd, Nat.reduceSub, Nat.reduceEqDiff, Nat.reduceLeDiff, Nat.reduceLT, Bool.true_eq_false, Bool.false_eq_true, a1, a2, s_get a6, g]
theorem s0_lengthOf {p : Nat} (hA : xCol a) (h : cR I a S) (hW : sWF S) (hp : p < sq S) : f_X0_lengthOf [.ref a, .int (nI p)] I = some (.inl (some (.int (nI (sl S p)))), I) := by
  obtain ⟨a1, a2, a3, a4, a5, a6, a7, a8, a9⟩ := hA
  have k6 := a6.1
  have k7 := a7.1
  have k8 := a8.1
  have g := h.2.2.2.2.1 p hp
  have hn := hW.1
  rw [e_X0_lengthOf]
  simp (disch := omega) only [q_X0_lengthOf_0, q_X0_lengthOf_1, q_X0_lengthOf_4, q_X0_lengthOf_5, q_X0_lengthOf_8, nI_add, pI_le, pI_lt, pI_eq, pI_neg, pI_nn, pI_le0, pI_gt0, pI_eq0, xbV_s, xbU_s, if_true, if_false, bI_eq0, Nat.reduceAdd, Nat.reduceSub, Nat.reduceEqDiff, Nat.reduceLeDiff, Nat.reduceLT, Bool.true_eq_false, Bool.false_eq_true, a1, a3, s_get a7, g]
theorem s0_pinOf {p : Nat} (hA : xCol a) (h : cR I a S) (hW : sWF S) (hp : p < sq S) : f_X0_pinOf [.ref a, .int (nI p)] I = some (.inl (some (.int (xpn (sp S p)))), I) := by
  obtain ⟨a1, a2, a3, a4, a5, a6, a7, a8, a9⟩ := hA
  have k6 := a6.1
  have k7 := a7.1
  have k8 := a8.1
  have g := h.2.2.2.2.2 p hp
  have hn := hW.1
  rw [e_X0_pinOf]
  simp (disch := omega) only [q_X0_pinOf_0, q_X0_pinOf_1, q_X0_pinOf_4, q_X0_pinOf_5, q_X0_pinOf_8, nI_add, pI_le, pI_lt, pI_eq, pI_neg, pI_nn, pI_le0, pI_gt0, pI_eq0, xbV_s, xbU_s, if_true, if_false, bI_eq0, Nat.reduceAdd, Nat.reduceSub, Nat.reduceEqDiff, Nat.reduceLeDiff, Nat.reduceLT, Bool.true_eq_false, Bool.false_eq_true, a1, a4, s_get a8, g]
theorem s0_lastValue (hA : xCol a) (h : cR I a S) (hW : sWF S) : f_X0_lastValue [.ref a] I = some (.inl (some (.int (nI (if sn S = 0 then 0 else sv S (sn S - 1))))), I) := by
  obtain ⟨a1, a2, a3, a4, a5, a6, a7, a8, a9⟩ := hA
  have k6 := a6.1
  have k7 := a7.1
  have k8 := a8.1
  have g := h.2.2.2.1
  have h1 := h.1
  have hn := sn_120 hW
  rw [e_X0_lastValue]
  by_cases q : sn S = 0
  · rw [if_pos q]
    simp (disch := omega) only [q_X0_lastValue_0, q_X0_lastValue_1, q_X0_lastValue_4, q_X0_lastValue_7, q_X0_lastValue_8, q_X0_lastValue_11, q_X0_lastValue_12, q_X0_lastValue_15, q_X0_lastValue_16, q_X0_lastValue_17, q_X0_lastValue_20, q_X0_lastValue_23, q_X0_lastValue_24, nI_add, pI_le, pI_lt, pI_eq, pI_neg, pI_nn, pI_le0, pI_gt0, pI_eq0, xbV_s, xbU_s, if_true, if_false, bI_eq0, Nat.reduceAdd, Nat.reduceSub, Nat.reduceEqDiff, Nat.reduceLeDiff, Nat.reduceLT, Bool.true_eq_false, Bool.false_eq_true, a1, h1, q]
  · have e : nI (sn S) - nI 1 = nI (sn S - 1) := pI_sub (by omega)
    rw [if_neg q]
    simp (disch := omega) only [q_X0_lastValue_0, q_X0_lastValue_1, q_X0_lastValue_4, q_X0_lastValue_7, q_X0_lastValue_8, q_X0_lastValue_11, q_X0_lastValue_12, q_X0_lastValue_15, q_X0_lastValue_16, q_X0_lastValue_17, q_X0_lastValue_20, q_X0_lastValue_23, q_X0_lastValue_24, nI_add, pI_le, pI_lt, pI_eq, pI_neg, pI_nn, pI_le0, pI_gt0, pI_eq0, xbV_s, xbU_s, if_true, if_false, bI_eq0, Nat.reduceAdd, Nat.reduceSub, Nat.reduceEqDiff, Nat.reduceLeDiff, Nat.reduceLT, Bool.true_eq_false, Bool.false_eq_true, a1, a2, h1, q, e, s_get a6, g]
theorem s0_hasCut {p : Nat} {y : Int32} (hA : xCol a) (h : cR I a S) (hW : sWF S) (hp : p < sq S) : f_X0_hasCut [.ref a, .int (nI p), .int y] I = some (.inl (some (.int (bI (xRg y (sl S p))))), I) := by
  have a1 := hA.1
  have hl := hW.2.2.1 p hp
  have e1 : (nI 1).toInt = 1 := by decide
  rw [e_X0_hasCut]
  by_cases q : y < nI 1
  · have e : xRg y (sl S p) = false := by
      unfold xRg
      rw [Int32.lt_iff_toInt_lt, e1] at q
      exact decide_eq_false (by omega)
    rw [e, bI_f]
    simp (disch := omega) only [q_X0_hasCut_0, q_X0_hasCut_1, q_X0_hasCut_2, q_X0_hasCut_5, q_X0_hasCut_6, q_X0_hasCut_7, q_X0_hasCut_8, q_X0_hasCut_11, q_X0_hasCut_14, q_X0_hasCut_15, q_X0_hasCut_18, q_X0_hasCut_19_b, q_X0_hasCut_19_0, q_X0_hasCut_19_1, nI_add, pI_le, pI_lt, pI_eq, pI_neg, pI_nn, pI_le0, pI_gt0, pI_eq0, xbV_s, xbU_s, if_true, if_false, bI_eq0, Nat.reduceAdd, Nat.reduceSub, Nat.reduceEqDiff, Nat.reduceLeDiff, Nat.reduceLT, Bool.true_eq_false, Bool.false_eq_true, q]
  · by_cases r : nI (sl S p) ≤ y
    · have e : xRg y (sl S p) = false := by
        unfold xRg
        rw [Int32.le_iff_toInt_le, nI_toInt (by omega)] at r
        exact decide_eq_false (by omega)
      rw [e, bI_f]
      simp (disch := omega) only [q_X0_hasCut_0, q_X0_hasCut_1, q_X0_hasCut_2, q_X0_hasCut_5, q_X0_hasCut_6, q_X0_hasCut_7, q_X0_hasCut_8, q_X0_hasCut_11, q_X0_hasCut_14, q_X0_hasCut_15, q_X0_hasCut_18, q_X0_hasCut_19_b, q_X0_hasCut_19_0, q_X0_hasCut_19_1, nI_add, pI_le, pI_lt, pI_eq, pI_neg, pI_nn, pI_le0, pI_gt0, pI_eq0, xbV_s, xbU_s, if_true, if_false, bI_eq0, Nat.reduceAdd, Nat.reduceSub, Nat.reduceEqDiff, Nat.reduceLeDiff, Nat.reduceLT, Bool.true_eq_false, Bool.false_eq_true, q, a1, s0_lengthOf hA h hW hp, r]
    · have e : xRg y (sl S p) = true := by
        unfold xRg
        rw [Int32.le_iff_toInt_le, nI_toInt (by omega)] at r
        rw [Int32.lt_iff_toInt_lt, e1] at q
        exact decide_eq_true (by omega)
      rw [e, bI_t]
      simp (disch := omega) only [q_X0_hasCut_0, q_X0_hasCut_1, q_X0_hasCut_2, q_X0_hasCut_5, q_X0_hasCut_6, q_X0_hasCut_7, q_X0_hasCut_8, q_X0_hasCut_11, q_X0_hasCut_14, q_X0_hasCut_15, q_X0_hasCut_18, q_X0_hasCut_19_b, q_X0_hasCut_19_0, q_X0_hasCut_19_1, nI_add, pI_le, pI_lt, pI_eq, pI_neg, pI_nn, pI_le0, pI_gt0, pI_eq0, xbV_s, xbU_s, if_true, if_false, bI_eq0, Nat.reduceAdd, Nat.reduceSub, Nat.reduceEqDiff, Nat.reduceLeDiff, Nat.reduceLT, Bool.true_eq_false, Bool.false_eq_true, q, a1, s0_lengthOf hA h hW hp, r]
theorem s0_first_l {p : Nat} (hA : xCol a) (h : cR I a S) (hW : sWF S) (hp : p ≤ sq S) : ∀ d k, k + d = p → xgo k_X0_firstOf 4 [some (.ref a), some (.int (nI p)), some (.int (nI (sF S k))), some (.int (nI k))] [] I = some (.inl (some (.int (nI (sF S p)))), I) := by
  obtain ⟨a1, a2, a3, a4, a5, a6, a7, a8, a9⟩ := hA
  have k6 := a6.1
  have k7 := a7.1
  have k8 := a8.1
  have h1 := h.2.1
  have hq := hW.1
  intro d
  induction d with
  | zero =>
    intro k hk
    have e : k = p := by omega
    subst e
    rw [q_X0_firstOf_4]
    simp (disch := omega) only [q_X0_firstOf_0, q_X0_firstOf_1, q_X0_firstOf_2, q_X0_firstOf_3, q_X0_firstOf_5, q_X0_firstOf_6, q_X0_firstOf_9, q_X0_firstOf_10, q_X0_firstOf_11, q_X0_firstOf_14, q_X0_firstOf_17, q_X0_firstOf_18, q_X0_firstOf_19, q_X0_firstOf_22, q_X0_firstOf_23, q_X0_firstOf_26, q_X0_firstOf_27, q_X0_firstOf_28, q_X0_firstOf_31, q_X0_firstOf_34, q_X0_firstOf_35, nI_add, pI_le, pI_lt, pI_eq, pI_neg, pI_nn, pI_le0, pI_gt0, pI_eq0, xbV_s, xbU_s, if_true, if_false, bI_eq0, Nat.reduceAdd, Nat.reduceSub, Nat.reduceEqDiff, Nat.reduceLeDiff, Nat.reduceLT, Bool.true_eq_false, Bool.false_eq_true, Nat.le_refl]
  | succ d ih =>
    intro k hk
    have n1 : ¬ p ≤ k := by omega
    have n2 : ¬ sq S ≤ k := by omega
    have g := h.2.2.2.2.1 k (by omega)
    rw [q_X0_firstOf_4]
    simp (disch := omega) only [q_X0_firstOf_0, q_X0_firstOf_1, q_X0_firstOf_2, q_X0_firstOf_3, q_X0_firstOf_5, q_X0_firstOf_6, q_X0_firstOf_9, q_X0_firstOf_10, q_X0_firstOf_11, q_X0_firstOf_14, q_X0_firstOf_17, q_X0_firstOf_18, q_X0_firstOf_19, q_X0_firstOf_22, q_X0_firstOf_23, q_X0_firstOf_26, q_X0_firstOf_27, q_X0_firstOf_28, q_X0_firstOf_31, q_X0_firstOf_34, q_X0_firstOf_35, nI_add, pI_le, pI_lt, pI_eq, pI_neg, pI_nn, pI_le0, pI_gt0, pI_eq0, xbV_s, xbU_s, if_true, if_false, bI_eq0, Nat.reduceAdd, Nat.reduceSub, Nat.reduceEqDiff, Nat.reduceLeDiff, Nat.reduceLT, Bool.true_eq_false, Bool.false_eq_true, n1, n2, a1, a3, h1, s_get a7, g]
    exact ih (k + 1) (by omega)
theorem s0_first {p : Nat} (hA : xCol a) (h : cR I a S) (hW : sWF S) (hp : p ≤ sq S) : f_X0_firstOf [.ref a, .int (nI p)] I = some (.inl (some (.int (nI (sF S p)))), I) := by
  rw [e_X0_firstOf]
  simp only [q_X0_firstOf_0, q_X0_firstOf_1, q_X0_firstOf_2, q_X0_firstOf_3, q_X0_firstOf_5, q_X0_firstOf_6, q_X0_firstOf_9, q_X0_firstOf_10, q_X0_firstOf_11, q_X0_firstOf_14, q_X0_firstOf_17, q_X0_firstOf_18, q_X0_firstOf_19, q_X0_firstOf_22, q_X0_firstOf_23, q_X0_firstOf_26, q_X0_firstOf_27, q_X0_firstOf_28, q_X0_firstOf_31, q_X0_firstOf_34, q_X0_firstOf_35]
  exact s0_first_l hA h hW hp p 0 (by omega)
theorem s0_pageOf_l {i p : Nat} (hA : xCol a) (h : cR I a S) (hW : sWF S) (hp : p < sq S) (h8 : sF S p ≤ i) (h9 : i < sF S (p + 1)) : ∀ d k, k + d = p → xgo k_X0_pageOf 4 [some (.ref a), some (.int (nI i)), some (.int (nI (sF S k))), some (.int (nI k))] [] I = some (.inl (some (.int (nI p))), I) := by
  obtain ⟨a1, a2, a3, a4, a5, a6, a7, a8, a9⟩ := hA
  have k6 := a6.1
  have k7 := a7.1
  have k8 := a8.1
  have h1 := h.2.1
  have hq := hW.1
  have hi : i < 120 := Nat.lt_of_lt_of_le h9 (Nat.le_trans (sF_le hW hp) (sn_120 hW))
  intro d
  induction d with
  | zero =>
    intro k hk
    have e : k = p := by omega
    subst e
    have hb := Nat.le_trans (sF_le hW (p := k + 1) hp) (sn_120 hW)
    have n2 : ¬ sq S ≤ k := by omega
    have g := h.2.2.2.2.1 k hp
    have e2 := sF_s S k
    have n3 : ¬ sF S k + sl S k ≤ i := by omega
    rw [q_X0_pageOf_4]
    simp (disch := omega) only [q_X0_pageOf_0, q_X0_pageOf_1, q_X0_pageOf_2, q_X0_pageOf_3, q_X0_pageOf_5, q_X0_pageOf_6, q_X0_pageOf_9, q_X0_pageOf_12, q_X0_pageOf_13, q_X0_pageOf_14, q_X0_pageOf_17, q_X0_pageOf_18, q_X0_pageOf_21, q_X0_pageOf_22, q_X0_pageOf_23, q_X0_pageOf_24, q_X0_pageOf_25, q_X0_pageOf_28, q_X0_pageOf_29, q_X0_pageOf_30, q_X0_pageOf_33, q_X0_pageOf_36, q_X0_pageOf_39, nI_add, pI_le, pI_lt, pI_eq, pI_neg, pI_nn, pI_le0, pI_gt0, pI_eq0, xbV_s, xbU_s, if_true, if_false, bI_eq0, Nat.reduceAdd, Nat.reduceSub, Nat.reduceEqDiff, Nat.reduceLeDiff, Nat.reduceLT, Bool.true_eq_false, Bool.false_eq_true, n2, n3, a1, a3, h1, s_get a7, g]
  | succ d ih =>
    intro k hk
    have hb := Nat.le_trans (sF_le hW (p := k + 1) (by omega)) (sn_120 hW)
    have n2 : ¬ sq S ≤ k := by omega
    have g := h.2.2.2.2.1 k (by omega)
    have e2 := sF_s S k
    have e3 := sF_mono S (p := k + 1) (q := p) (by omega)
    have n3 : sF S k + sl S k ≤ i := by omega
    rw [q_X0_pageOf_4]
    simp (disch := omega) only [q_X0_pageOf_0, q_X0_pageOf_1, q_X0_pageOf_2, q_X0_pageOf_3, q_X0_pageOf_5, q_X0_pageOf_6, q_X0_pageOf_9, q_X0_pageOf_12, q_X0_pageOf_13, q_X0_pageOf_14, q_X0_pageOf_17, q_X0_pageOf_18, q_X0_pageOf_21, q_X0_pageOf_22, q_X0_pageOf_23, q_X0_pageOf_24, q_X0_pageOf_25, q_X0_pageOf_28, q_X0_pageOf_29, q_X0_pageOf_30, q_X0_pageOf_33, q_X0_pageOf_36, q_X0_pageOf_39, nI_add, pI_le, pI_lt, pI_eq, pI_neg, pI_nn, pI_le0, pI_gt0, pI_eq0, xbV_s, xbU_s, if_true, if_false, bI_eq0, Nat.reduceAdd, Nat.reduceSub, Nat.reduceEqDiff, Nat.reduceLeDiff, Nat.reduceLT, Bool.true_eq_false, Bool.false_eq_true, n2, n3, a1, a3, h1, s_get a7, g]
    exact ih (k + 1) (by omega)
theorem s0_pageOf {i p : Nat} (hA : xCol a) (h : cR I a S) (hW : sWF S) (hp : p < sq S) (h8 : sF S p ≤ i) (h9 : i < sF S (p + 1)) : f_X0_pageOf [.ref a, .int (nI i)] I = some (.inl (some (.int (nI p))), I) := by
  rw [e_X0_pageOf]
  simp only [q_X0_pageOf_0, q_X0_pageOf_1, q_X0_pageOf_2, q_X0_pageOf_3, q_X0_pageOf_5, q_X0_pageOf_6, q_X0_pageOf_9, q_X0_pageOf_12, q_X0_pageOf_13, q_X0_pageOf_14, q_X0_pageOf_17, q_X0_pageOf_18, q_X0_pageOf_21, q_X0_pageOf_22, q_X0_pageOf_23, q_X0_pageOf_24, q_X0_pageOf_25, q_X0_pageOf_28, q_X0_pageOf_29, q_X0_pageOf_30, q_X0_pageOf_33, q_X0_pageOf_36, q_X0_pageOf_39]
  exact s0_pageOf_l hA h hW hp h8 h9 p 0 (by omega)
/-- how many pages are pinned; how often a value is there -/
def sPn (S : cS) (p : Nat) : Nat := if sp S p = 0 then 0 else 1
def sHit (S : cS) (v i : Nat) : Nat := if sv S i = v then 1 else 0
theorem sPn_le (S : cS) (k : Nat) : xsum (sPn S) k ≤ k := by
  have : xsum (sPn S) k ≤ 1 * k := xsum_le (fun j _ => by unfold sPn; split <;> omega)
  omega
theorem sHit_le (S : cS) (v k : Nat) : xsum (sHit S v) k ≤ k := by
  have : xsum (sHit S v) k ≤ 1 * k := xsum_le (fun j _ => by unfold sHit; split <;> omega)
  omega
theorem s0_pinned_l (hA : xCol a) (h : cR I a S) (hW : sWF S) : ∀ d k, k + d = sq S → xgo k_X0_pinnedPages 4 [some (.ref a), some (.int (nI (xsum (sPn S) k))), some (.int (nI k))] [] I = some (.inl (some (.int (nI (xsum (sPn S) (sq S))))), I) := by
  obtain ⟨a1, a2, a3, a4, a5, a6, a7, a8, a9⟩ := hA
  have k6 := a6.1
  have k7 := a7.1
  have k8 := a8.1
  have h1 := h.2.1
  have hq := hW.1
  intro d
  induction d with
  | zero =>
    intro k hk
    have e : k = sq S := by omega
    subst e
    rw [q_X0_pinnedPages_4]
    simp (disch := omega) only [q_X0_pinnedPages_0, q_X0_pinnedPages_1, q_X0_pinnedPages_2, q_X0_pinnedPages_3, q_X0_pinnedPages_5, q_X0_pinnedPages_6, q_X0_pinnedPages_9, q_X0_pinnedPages_12, q_X0_pinnedPages_13, q_X0_pinnedPages_14, q_X0_pinnedPages_17, q_X0_pinnedPages_18, q_X0_pinnedPages_21, q_X0_pinnedPages_24, q_X0_pinnedPages_27, q_X0_pinnedPages_28, q_X0_pinnedPages_31, q_X0_pinnedPages_32, q_X0_pinnedPages_33, q_X0_pinnedPages_34, q_X0_pinnedPages_37, q_X0_pinnedPages_40, q_X0_pinnedPages_41, nI_add, pI_le, pI_lt, pI_eq, pI_neg, pI_nn, pI_le0, pI_gt0, pI_eq0, xbV_s, xbU_s, if_true, if_false, bI_eq0, Nat.reduceAdd, Nat.reduceSub, Nat.reduceEqDiff, Nat.reduceLeDiff, Nat.reduceLT, Bool.true_eq_false, Bool.false_eq_true, a1, h1, Nat.le_refl]
  | succ d ih =>
    intro k hk
    have n2 : ¬ sq S ≤ k := by omega
    have g := h.2.2.2.2.2 k (by omega)
    have b9 := hW.2.2.2.2.2 k (by omega)
    have b8 := sPn_le S k
    have := ih (k + 1) (by omega)
    rw [xsum_s] at this
    rw [show sPn S k = if sp S k = 0 then 0 else 1 from rfl] at this
    unfold xpn at g
    rw [q_X0_pinnedPages_4]
    by_cases q : sp S k = 0
    · rw [if_pos q] at g
      rw [if_pos q] at this
      simp (disch := omega) only [q_X0_pinnedPages_0, q_X0_pinnedPages_1, q_X0_pinnedPages_2, q_X0_pinnedPages_3, q_X0_pinnedPages_5, q_X0_pinnedPages_6, q_X0_pinnedPages_9, q_X0_pinnedPages_12, q_X0_pinnedPages_13, q_X0_pinnedPages_14, q_X0_pinnedPages_17, q_X0_pinnedPages_18, q_X0_pinnedPages_21, q_X0_pinnedPages_24, q_X0_pinnedPages_27, q_X0_pinnedPages_28, q_X0_pinnedPages_31, q_X0_pinnedPages_32, q_X0_pinnedPages_33, q_X0_pinnedPages_34, q_X0_pinnedPages_37, q_X0_pinnedPages_40, q_X0_pinnedPages_41, nI_add, pI_le, pI_lt, pI_eq, pI_neg, pI_nn, pI_le0, pI_gt0, pI_eq0, xbV_s, xbU_s, if_true, if_false, bI_eq0, Nat.reduceAdd, Nat.reduceSub, Nat.reduceEqDiff, Nat.reduceLeDiff, Nat.reduceLT, Bool.true_eq_false, Bool.false_eq_true, n2, a1, a4, h1, s_get a8, g]
      exact this
    · rw [if_neg q] at g
      rw [if_neg q] at this
      simp (disch := omega) only [q_X0_pinnedPages_0, q_X0_pinnedPages_1, q_X0_pinnedPages_2, q_X0_pinnedPages_3, q_X0_pinnedPages_5, q_X0_pinnedPages_6, q_X0_pinnedPages_9, q_X0_pinnedPages_12, q_X0_pinnedPages_13, q_X0_pinnedPages_14, q_X0_pinnedPages_17, q_X0_pinnedPages_18, q_X0_pinnedPages_21, q_X0_pinnedPages_24, q_X0_pinnedPages_27, q_X0_pinnedPages_28, q_X0_pinnedPages_31, q_X0_pinnedPages_32, q_X0_pinnedPages_33, q_X0_pinnedPages_34, q_X0_pinnedPages_37, q_X0_pinnedPages_40, q_X0_pinnedPages_41, nI_add, pI_le, pI_lt, pI_eq, pI_neg, pI_nn, pI_le0, pI_gt0, pI_eq0, xbV_s, xbU_s, if_true, if_false, bI_eq0, Nat.reduceAdd, Nat.reduceSub, Nat.reduceEqDiff, Nat.reduceLeDiff, Nat.reduceLT, Bool.true_eq_false, Bool.false_eq_true, n2, a1, a4, h1, s_get a8, g, pI_ne9]
      exact this
theorem s0_pinned (hA : xCol a) (h : cR I a S) (hW : sWF S) : f_X0_pinnedPages [.ref a] I = some (.inl (some (.int (nI (xsum (sPn S) (sq S))))), I) := by
  rw [e_X0_pinnedPages]
  simp only [q_X0_pinnedPages_0, q_X0_pinnedPages_1, q_X0_pinnedPages_2, q_X0_pinnedPages_3, q_X0_pinnedPages_5, q_X0_pinnedPages_6, q_X0_pinnedPages_9, q_X0_pinnedPages_12, q_X0_pinnedPages_13, q_X0_pinnedPages_14, q_X0_pinnedPages_17, q_X0_pinnedPages_18, q_X0_pinnedPages_21, q_X0_pinnedPages_24, q_X0_pinnedPages_27, q_X0_pinnedPages_28, q_X0_pinnedPages_31, q_X0_pinnedPages_32, q_X0_pinnedPages_33, q_X0_pinnedPages_34, q_X0_pinnedPages_37, q_X0_pinnedPages_40, q_X0_pinnedPages_41]
  exact s0_pinned_l hA h hW (sq S) 0 (by omega)
theorem s0_times_l {v : Nat} (hv : v ≤ 1023) (hA : xCol a) (h : cR I a S) (hW : sWF S) : ∀ d k, k + d = sn S → xgo k_X0_timesOf 4 [some (.ref a), some (.int (nI v)), some (.int (nI (xsum (sHit S v) k))), some (.int (nI k))] [] I = some (.inl (some (.int (nI (xsum (sHit S v) (sn S))))), I) := by
  obtain ⟨a1, a2, a3, a4, a5, a6, a7, a8, a9⟩ := hA
  have k6 := a6.1
  have k7 := a7.1
  have k8 := a8.1
  have h1 := h.1
  have hq := sn_120 hW
  intro d
  induction d with
  | zero =>
    intro k hk
    have e : k = sn S := by omega
    subst e
    rw [q_X0_timesOf_4]
    simp (disch := omega) only [q_X0_timesOf_0, q_X0_timesOf_1, q_X0_timesOf_2, q_X0_timesOf_3, q_X0_timesOf_5, q_X0_timesOf_6, q_X0_timesOf_9, q_X0_timesOf_12, q_X0_timesOf_13, q_X0_timesOf_14, q_X0_timesOf_17, q_X0_timesOf_18, q_X0_timesOf_21, q_X0_timesOf_22, q_X0_timesOf_25, q_X0_timesOf_26, q_X0_timesOf_29, q_X0_timesOf_30, q_X0_timesOf_31, q_X0_timesOf_32, q_X0_timesOf_35, q_X0_timesOf_38, q_X0_timesOf_39, nI_add, pI_le, pI_lt, pI_eq, pI_neg, pI_nn, pI_le0, pI_gt0, pI_eq0, xbV_s, xbU_s, if_true, if_false, bI_eq0, Nat.reduceAdd, Nat.reduceSub, Nat.reduceEqDiff, Nat.reduceLeDiff, Nat.reduceLT, Bool.true_eq_false, Bool.false_eq_true, a1, h1, Nat.le_refl]
  | succ d ih =>
    intro k hk
    have n2 : ¬ sn S ≤ k := by omega
    have g := h.2.2.2.1 k (by omega)
    have b9 := hW.2.2.2.2.1 k (by omega)
    have b8 := sHit_le S v k
    have := ih (k + 1) (by omega)
    rw [xsum_s] at this
    rw [show sHit S v k = if sv S k = v then 1 else 0 from rfl] at this
    rw [q_X0_timesOf_4]
    by_cases q : sv S k = v
    · rw [if_pos q] at this
      simp (disch := omega) only [q_X0_timesOf_0, q_X0_timesOf_1, q_X0_timesOf_2, q_X0_timesOf_3, q_X0_timesOf_5, q_X0_timesOf_6, q_X0_timesOf_9, q_X0_timesOf_12, q_X0_timesOf_13, q_X0_timesOf_14, q_X0_timesOf_17, q_X0_timesOf_18, q_X0_timesOf_21, q_X0_timesOf_22, q_X0_timesOf_25, q_X0_timesOf_26, q_X0_timesOf_29, q_X0_timesOf_30, q_X0_timesOf_31, q_X0_timesOf_32, q_X0_timesOf_35, q_X0_timesOf_38, q_X0_timesOf_39, nI_add, pI_le, pI_lt, pI_eq, pI_neg, pI_nn, pI_le0, pI_gt0, pI_eq0, xbV_s, xbU_s, if_true, if_false, bI_eq0, Nat.reduceAdd, Nat.reduceSub, Nat.reduceEqDiff, Nat.reduceLeDiff, Nat.reduceLT, Bool.true_eq_false, Bool.false_eq_true, n2, a1, a2, h1, s_get a6, g, q]
      exact this
    · rw [if_neg q] at this
      simp (disch := omega) only [q_X0_timesOf_0, q_X0_timesOf_1, q_X0_timesOf_2, q_X0_timesOf_3, q_X0_timesOf_5, q_X0_timesOf_6, q_X0_timesOf_9, q_X0_timesOf_12, q_X0_timesOf_13, q_X0_timesOf_14, q_X0_timesOf_17, q_X0_timesOf_18, q_X0_timesOf_21, q_X0_timesOf_22, q_X0_timesOf_25, q_X0_timesOf_26, q_X0_timesOf_29, q_X0_timesOf_30, q_X0_timesOf_31, q_X0_timesOf_32, q_X0_timesOf_35, q_X0_timesOf_38, q_X0_timesOf_39, nI_add, pI_le, pI_lt, pI_eq, pI_neg, pI_nn, pI_le0, pI_gt0, pI_eq0, xbV_s, xbU_s, if_true, if_false, bI_eq0, Nat.reduceAdd, Nat.reduceSub, Nat.reduceEqDiff, Nat.reduceLeDiff, Nat.reduceLT, Bool.true_eq_false, Bool.false_eq_true, n2, a1, a2, h1, s_get a6, g, q]
      exact this
theorem s0_times {v : Nat} (hv : v ≤ 1023) (hA : xCol a) (h : cR I a S) (hW : sWF S) : f_X0_timesOf [.ref a, .int (nI v)] I = some (.inl (some (.int (nI (xsum (sHit S v) (sn S))))), I) := by
  rw [e_X0_timesOf]
  simp only [q_X0_timesOf_0, q_X0_timesOf_1, q_X0_timesOf_2, q_X0_timesOf_3, q_X0_timesOf_5, q_X0_timesOf_6, q_X0_timesOf_9, q_X0_timesOf_12, q_X0_timesOf_13, q_X0_timesOf_14, q_X0_timesOf_17, q_X0_timesOf_18, q_X0_timesOf_21, q_X0_timesOf_22, q_X0_timesOf_25, q_X0_timesOf_26, q_X0_timesOf_29, q_X0_timesOf_30, q_X0_timesOf_31, q_X0_timesOf_32, q_X0_timesOf_35, q_X0_timesOf_38, q_X0_timesOf_39]
  exact s0_times_l hv hA h hW (sn S) 0 (by omega)
/-- where a value is; none -/
def xPs (w : Nat → Nat) (v n : Nat) : Int32 := if pFree w v n = true then -9999 else nI (pPos w v n)
theorem s0_place_l {v : Nat} (hv : v < 2147483648) (hA : xCol a) (h : cR I a S) (hW : sWF S) : ∀ d k, k + d = sn S → pFree (sv S) v k = true → xgo k_X0_placeOf 2 [some (.ref a), some (.int (nI v)), some (.int (nI k))] [] I = some (.inl (some (.int (xPs (sv S) v (sn S)))), I) := by
  obtain ⟨a1, a2, a3, a4, a5, a6, a7, a8, a9⟩ := hA
  have k6 := a6.1
  have k7 := a7.1
  have k8 := a8.1
  have h1 := h.1
  have hq := sn_120 hW
  intro d
  induction d with
  | zero =>
    intro k hk hf
    have e : k = sn S := by omega
    subst e
    unfold xPs
    rw [if_pos hf, q_X0_placeOf_2]
    simp (disch := omega) only [q_X0_placeOf_0, q_X0_placeOf_1, q_X0_placeOf_3, q_X0_placeOf_4, q_X0_placeOf_7, q_X0_placeOf_10, q_X0_placeOf_11, q_X0_placeOf_14, q_X0_placeOf_15, q_X0_placeOf_18, q_X0_placeOf_19, q_X0_placeOf_22, q_X0_placeOf_23, q_X0_placeOf_24, q_X0_placeOf_27, q_X0_placeOf_30, q_X0_placeOf_33, nI_add, pI_le, pI_lt, pI_eq, pI_neg, pI_nn, pI_le0, pI_gt0, pI_eq0, xbV_s, xbU_s, if_true, if_false, bI_eq0, Nat.reduceAdd, Nat.reduceSub, Nat.reduceEqDiff, Nat.reduceLeDiff, Nat.reduceLT, Bool.true_eq_false, Bool.false_eq_true, a1, h1, Nat.le_refl]
  | succ d ih =>
    intro k hk hf
    have n2 : ¬ sn S ≤ k := by omega
    have g := h.2.2.2.1 k (by omega)
    have b9 := hW.2.2.2.2.1 k (by omega)
    by_cases q : sv S k = v
    · have e2 : xPs (sv S) v (sn S) = nI k := by
        unfold xPs
        rw [if_neg (fun z => pFree_iff.mp z k (by omega) q), pPos_hit hf q (by omega)]
      rw [q_X0_placeOf_2, e2]
      simp (disch := omega) only [q_X0_placeOf_0, q_X0_placeOf_1, q_X0_placeOf_3, q_X0_placeOf_4, q_X0_placeOf_7, q_X0_placeOf_10, q_X0_placeOf_11, q_X0_placeOf_14, q_X0_placeOf_15, q_X0_placeOf_18, q_X0_placeOf_19, q_X0_placeOf_22, q_X0_placeOf_23, q_X0_placeOf_24, q_X0_placeOf_27, q_X0_placeOf_30, q_X0_placeOf_33, nI_add, pI_le, pI_lt, pI_eq, pI_neg, pI_nn, pI_le0, pI_gt0, pI_eq0, xbV_s, xbU_s, if_true, if_false, bI_eq0, Nat.reduceAdd, Nat.reduceSub, Nat.reduceEqDiff, Nat.reduceLeDiff, Nat.reduceLT, Bool.true_eq_false, Bool.false_eq_true, n2, a1, a2, h1, s_get a6, g, q]
    · have := ih (k + 1) (by omega) (by unfold pFree; rw [hf]; simpa using q)
      rw [q_X0_placeOf_2]
      simp (disch := omega) only [q_X0_placeOf_0, q_X0_placeOf_1, q_X0_placeOf_3, q_X0_placeOf_4, q_X0_placeOf_7, q_X0_placeOf_10, q_X0_placeOf_11, q_X0_placeOf_14, q_X0_placeOf_15, q_X0_placeOf_18, q_X0_placeOf_19, q_X0_placeOf_22, q_X0_placeOf_23, q_X0_placeOf_24, q_X0_placeOf_27, q_X0_placeOf_30, q_X0_placeOf_33, nI_add, pI_le, pI_lt, pI_eq, pI_neg, pI_nn, pI_le0, pI_gt0, pI_eq0, xbV_s, xbU_s, if_true, if_false, bI_eq0, Nat.reduceAdd, Nat.reduceSub, Nat.reduceEqDiff, Nat.reduceLeDiff, Nat.reduceLT, Bool.true_eq_false, Bool.false_eq_true, n2, a1, a2, h1, s_get a6, g, q]
      exact this
theorem s0_place {v : Nat} (hv : v < 2147483648) (hA : xCol a) (h : cR I a S) (hW : sWF S) : f_X0_placeOf [.ref a, .int (nI v)] I = some (.inl (some (.int (xPs (sv S) v (sn S)))), I) := by
  rw [e_X0_placeOf]
  simp only [q_X0_placeOf_0, q_X0_placeOf_1, q_X0_placeOf_3, q_X0_placeOf_4, q_X0_placeOf_7, q_X0_placeOf_10, q_X0_placeOf_11, q_X0_placeOf_14, q_X0_placeOf_15, q_X0_placeOf_18, q_X0_placeOf_19, q_X0_placeOf_22, q_X0_placeOf_23, q_X0_placeOf_24, q_X0_placeOf_27, q_X0_placeOf_30, q_X0_placeOf_33]
  exact s0_place_l hv hA h hW (sn S) 0 (by omega) rfl
theorem xPs_at {w : Nat → Nat} {k n : Nat} (hk : k < n) (hn : n < 1000) : (xPs w (w k) n = nI k) = (pFree w (w k) k = true) := by
  have h1 : pFree w (w k) n = false := by
    cases q : pFree w (w k) n with
    | false => rfl
    | true => exact absurd rfl (pFree_iff.mp q k hk)
  obtain ⟨a1, a2, a3⟩ := pPos_lt h1
  unfold xPs
  rw [h1, if_neg (by decide), pI_eq (by omega) (by omega)]
  apply propext
  constructor
  · intro q; rw [q] at a3; exact a3
  · intro q; exact pPos_hit q rfl hk
theorem s0_diff_l (hA : xCol a) (h : cR I a S) (hW : sWF S) : ∀ d k, k + d = sn S → xgo k_X0_differentValues 4 [some (.ref a), some (.int (nI (pDiff (sv S) k))), some (.int (nI k))] [] I = some (.inl (some (.int (nI (pDiff (sv S) (sn S))))), I) := by
  have hB := hA
  obtain ⟨a1, a2, a3, a4, a5, a6, a7, a8, a9⟩ := hA
  have k6 := a6.1
  have k7 := a7.1
  have k8 := a8.1
  have h1 := h.1
  have hq := sn_120 hW
  intro d
  induction d with
  | zero =>
    intro k hk
    have e : k = sn S := by omega
    subst e
    rw [q_X0_differentValues_4]
    simp (disch := omega) only [q_X0_differentValues_0, q_X0_differentValues_1, q_X0_differentValues_2, q_X0_differentValues_3, q_X0_differentValues_5, q_X0_differentValues_6, q_X0_differentValues_9, q_X0_differentValues_12, q_X0_differentValues_13, q_X0_differentValues_14, q_X0_differentValues_15, q_X0_differentValues_18, q_X0_differentValues_19, q_X0_differentValues_22, q_X0_differentValues_25, q_X0_differentValues_26, q_X0_differentValues_29, q_X0_differentValues_30, q_X0_differentValues_33, q_X0_differentValues_34, q_X0_differentValues_35, q_X0_differentValues_36, q_X0_differentValues_39, q_X0_differentValues_42, q_X0_differentValues_43, nI_add, pI_le, pI_lt, pI_eq, pI_neg, pI_nn, pI_le0, pI_gt0, pI_eq0, xbV_s, xbU_s, if_true, if_false, bI_eq0, Nat.reduceAdd, Nat.reduceSub, Nat.reduceEqDiff, Nat.reduceLeDiff, Nat.reduceLT, Bool.true_eq_false, Bool.false_eq_true, a1, h1, Nat.le_refl]
  | succ d ih =>
    intro k hk
    have n2 : ¬ sn S ≤ k := by omega
    have g := h.2.2.2.1 k (by omega)
    have b9 := hW.2.2.2.2.1 k (by omega)
    have b8 := pDiff_le (sv S) k
    have e3 := xPs_at (w := sv S) (k := k) (n := sn S) (by omega) (by omega)
    have := ih (k + 1) (by omega)
    rw [q_X0_differentValues_4]
    by_cases q : pFree (sv S) (sv S k) k = true
    · rw [pDiff_new _ q] at this
      simp (disch := omega) only [q_X0_differentValues_0, q_X0_differentValues_1, q_X0_differentValues_2, q_X0_differentValues_3, q_X0_differentValues_5, q_X0_differentValues_6, q_X0_differentValues_9, q_X0_differentValues_12, q_X0_differentValues_13, q_X0_differentValues_14, q_X0_differentValues_15, q_X0_differentValues_18, q_X0_differentValues_19, q_X0_differentValues_22, q_X0_differentValues_25, q_X0_differentValues_26, q_X0_differentValues_29, q_X0_differentValues_30, q_X0_differentValues_33, q_X0_differentValues_34, q_X0_differentValues_35, q_X0_differentValues_36, q_X0_differentValues_39, q_X0_differentValues_42, q_X0_differentValues_43, nI_add, pI_le, pI_lt, pI_eq, pI_neg, pI_nn, pI_le0, pI_gt0, pI_eq0, xbV_s, xbU_s, if_true, if_false, bI_eq0, Nat.reduceAdd, Nat.reduceSub, Nat.reduceEqDiff, Nat.reduceLeDiff, Nat.reduceLT, Bool.true_eq_false, Bool.false_eq_true, n2, a1, a2, h1, s_get a6, g, s0_place (v := sv S k) (by omega) hB h hW, e3, q]
      exact this
    · rw [pDiff_old _ q] at this
      have q' : pFree (sv S) (sv S k) k = false := by simpa using q
      simp (disch := omega) only [q_X0_differentValues_0, q_X0_differentValues_1, q_X0_differentValues_2, q_X0_differentValues_3, q_X0_differentValues_5, q_X0_differentValues_6, q_X0_differentValues_9, q_X0_differentValues_12, q_X0_differentValues_13, q_X0_differentValues_14, q_X0_differentValues_15, q_X0_differentValues_18, q_X0_differentValues_19, q_X0_differentValues_22, q_X0_differentValues_25, q_X0_differentValues_26, q_X0_differentValues_29, q_X0_differentValues_30, q_X0_differentValues_33, q_X0_differentValues_34, q_X0_differentValues_35, q_X0_differentValues_36, q_X0_differentValues_39, q_X0_differentValues_42, q_X0_differentValues_43, nI_add, pI_le, pI_lt, pI_eq, pI_neg, pI_nn, pI_le0, pI_gt0, pI_eq0, xbV_s, xbU_s, if_true, if_false, bI_eq0, Nat.reduceAdd, Nat.reduceSub, Nat.reduceEqDiff, Nat.reduceLeDiff, Nat.reduceLT, Bool.true_eq_false, Bool.false_eq_true, n2, a1, a2, h1, s_get a6, g, s0_place (v := sv S k) (by omega) hB h hW, e3, q']
      exact this
theorem s0_diff (hA : xCol a) (h : cR I a S) (hW : sWF S) : f_X0_differentValues [.ref a] I = some (.inl (some (.int (nI (pDiff (sv S) (sn S))))), I) := by
  rw [e_X0_differentValues]
  simp only [q_X0_differentValues_0, q_X0_differentValues_1, q_X0_differentValues_2, q_X0_differentValues_3, q_X0_differentValues_5, q_X0_differentValues_6, q_X0_differentValues_9, q_X0_differentValues_12, q_X0_differentValues_13, q_X0_differentValues_14, q_X0_differentValues_15, q_X0_differentValues_18, q_X0_differentValues_19, q_X0_differentValues_22, q_X0_differentValues_25, q_X0_differentValues_26, q_X0_differentValues_29, q_X0_differentValues_30, q_X0_differentValues_33, q_X0_differentValues_34, q_X0_differentValues_35, q_X0_differentValues_36, q_X0_differentValues_39, q_X0_differentValues_42, q_X0_differentValues_43]
  exact s0_diff_l hA h hW (sn S) 0 (by omega)
def xLow (w : Nat → Nat) (n : Nat) : Int32 := if n = 0 then -9999 else nI (pMn w n)
def xTop (w : Nat → Nat) (n : Nat) : Int32 := if n = 0 then -9999 else nI (pMx w n)
theorem s0_low_l (hA : xCol a) (h : cR I a S) (hW : sWF S) : ∀ d k, k + d = sn S → xgo k_X0_smallestValue 6 [some (.ref a), some (.int (xLow (sv S) k)), some (.int (nI k))] [] I = some (.inl (some (.int (xLow (sv S) (sn S)))), I) := by
  obtain ⟨a1, a2, a3, a4, a5, a6, a7, a8, a9⟩ := hA
  have k6 := a6.1
  have k7 := a7.1
  have k8 := a8.1
  have h1 := h.1
  have hq := sn_120 hW
  intro d
  induction d with
  | zero =>
    intro k hk
    have e : k = sn S := by omega
    subst e
    rw [q_X0_smallestValue_6]
    simp (disch := omega) only [q_X0_smallestValue_0, q_X0_smallestValue_3, q_X0_smallestValue_4, q_X0_smallestValue_5, q_X0_smallestValue_7, q_X0_smallestValue_8, q_X0_smallestValue_11, q_X0_smallestValue_14, q_X0_smallestValue_15, q_X0_smallestValue_18, q_X0_smallestValue_19, q_X0_smallestValue_22, q_X0_smallestValue_23, q_X0_smallestValue_26, q_X0_smallestValue_29, q_X0_smallestValue_30, q_X0_smallestValue_31, q_X0_smallestValue_34, q_X0_smallestValue_35, q_X0_smallestValue_38, q_X0_smallestValue_41, q_X0_smallestValue_42, q_X0_smallestValue_45, q_X0_smallestValue_48, q_X0_smallestValue_49, nI_add, pI_le, pI_lt, pI_eq, pI_neg, pI_nn, pI_le0, pI_gt0, pI_eq0, xbV_s, xbU_s, if_true, if_false, bI_eq0, Nat.reduceAdd, Nat.reduceSub, Nat.reduceEqDiff, Nat.reduceLeDiff, Nat.reduceLT, Bool.true_eq_false, Bool.false_eq_true, a1, h1, Nat.le_refl]
  | succ d ih =>
    intro k hk
    have n2 : ¬ sn S ≤ k := by omega
    have g := h.2.2.2.1 k (by omega)
    have b9 := hW.2.2.2.2.1 k (by omega)
    have b8 := pMn_le (sv S) k
    have := ih (k + 1) (by omega)
    rw [show xLow (sv S) (k + 1) = nI (min (pMn (sv S) k) (sv S k)) from rfl] at this
    rw [q_X0_smallestValue_6]
    by_cases q : k = 0
    · subst q
      rw [show min (pMn (sv S) 0) (sv S 0) = sv S 0 by show min 1023 (sv S 0) = sv S 0; omega] at this
      simp (disch := omega) only [q_X0_smallestValue_0, q_X0_smallestValue_3, q_X0_smallestValue_4, q_X0_smallestValue_5, q_X0_smallestValue_7, q_X0_smallestValue_8, q_X0_smallestValue_11, q_X0_smallestValue_14, q_X0_smallestValue_15, q_X0_smallestValue_18, q_X0_smallestValue_19, q_X0_smallestValue_22, q_X0_smallestValue_23, q_X0_smallestValue_26, q_X0_smallestValue_29, q_X0_smallestValue_30, q_X0_smallestValue_31, q_X0_smallestValue_34, q_X0_smallestValue_35, q_X0_smallestValue_38, q_X0_smallestValue_41, q_X0_smallestValue_42, q_X0_smallestValue_45, q_X0_smallestValue_48, q_X0_smallestValue_49, nI_add, pI_le, pI_lt, pI_eq, pI_neg, pI_nn, pI_le0, pI_gt0, pI_eq0, xbV_s, xbU_s, if_true, if_false, bI_eq0, Nat.reduceAdd, Nat.reduceSub, Nat.reduceEqDiff, Nat.reduceLeDiff, Nat.reduceLT, Bool.true_eq_false, Bool.false_eq_true, n2, a1, a2, h1, s_get a6, g]
      exact this
    · have e : xLow (sv S) k = nI (pMn (sv S) k) := by unfold xLow; rw [if_neg q]
      rw [e]
      simp (disch := omega) only [q_X0_smallestValue_0, q_X0_smallestValue_3, q_X0_smallestValue_4, q_X0_smallestValue_5, q_X0_smallestValue_7, q_X0_smallestValue_8, q_X0_smallestValue_11, q_X0_smallestValue_14, q_X0_smallestValue_15, q_X0_smallestValue_18, q_X0_smallestValue_19, q_X0_smallestValue_22, q_X0_smallestValue_23, q_X0_smallestValue_26, q_X0_smallestValue_29, q_X0_smallestValue_30, q_X0_smallestValue_31, q_X0_smallestValue_34, q_X0_smallestValue_35, q_X0_smallestValue_38, q_X0_smallestValue_41, q_X0_smallestValue_42, q_X0_smallestValue_45, q_X0_smallestValue_48, q_X0_smallestValue_49, nI_add, pI_le, pI_lt, pI_eq, pI_neg, pI_nn, pI_le0, pI_gt0, pI_eq0, xbV_s, xbU_s, if_true, if_false, bI_eq0, Nat.reduceAdd, Nat.reduceSub, Nat.reduceEqDiff, Nat.reduceLeDiff, Nat.reduceLT, Bool.true_eq_false, Bool.false_eq_true, n2, a1, a2, h1, s_get a6, g, q, pI_mn]
      exact this
theorem s0_low (hA : xCol a) (h : cR I a S) (hW : sWF S) : f_X0_smallestValue [.ref a] I = some (.inl (some (.int (xLow (sv S) (sn S)))), I) := by
  rw [e_X0_smallestValue]
  simp only [q_X0_smallestValue_0, q_X0_smallestValue_3, q_X0_smallestValue_4, q_X0_smallestValue_5, q_X0_smallestValue_7, q_X0_smallestValue_8, q_X0_smallestValue_11, q_X0_smallestValue_14, q_X0_smallestValue_15, q_X0_smallestValue_18, q_X0_smallestValue_19, q_X0_smallestValue_22, q_X0_smallestValue_23, q_X0_smallestValue_26, q_X0_smallestValue_29, q_X0_smallestValue_30, q_X0_smallestValue_31, q_X0_smallestValue_34, q_X0_smallestValue_35, q_X0_smallestValue_38, q_X0_smallestValue_41, q_X0_smallestValue_42, q_X0_smallestValue_45, q_X0_smallestValue_48, q_X0_smallestValue_49]
  exact s0_low_l hA h hW (sn S) 0 (by omega)
theorem s0_top_l (hA : xCol a) (h : cR I a S) (hW : sWF S) : ∀ d k, k + d = sn S → xgo k_X0_greatestValue 6 [some (.ref a), some (.int (xTop (sv S) k)), some (.int (nI k))] [] I = some (.inl (some (.int (xTop (sv S) (sn S)))), I) := by
  obtain ⟨a1, a2, a3, a4, a5, a6, a7, a8, a9⟩ := hA
  have k6 := a6.1
  have k7 := a7.1
  have k8 := a8.1
  have h1 := h.1
  have hq := sn_120 hW
  intro d
  induction d with
  | zero =>
    intro k hk
    have e : k = sn S := by omega
    subst e
    rw [q_X0_greatestValue_6]
    simp (disch := omega) only [q_X0_greatestValue_0, q_X0_greatestValue_3, q_X0_greatestValue_4, q_X0_greatestValue_5, q_X0_greatestValue_7, q_X0_greatestValue_8, q_X0_greatestValue_11, q_X0_greatestValue_14, q_X0_greatestValue_15, q_X0_greatestValue_16, q_X0_greatestValue_19, q_X0_greatestValue_20, q_X0_greatestValue_23, q_X0_greatestValue_26, q_X0_greatestValue_27, q_X0_greatestValue_30, q_X0_greatestValue_33, q_X0_greatestValue_34, nI_add, pI_le, pI_lt, pI_eq, pI_neg, pI_nn, pI_le0, pI_gt0, pI_eq0, xbV_s, xbU_s, if_true, if_false, bI_eq0, Nat.reduceAdd, Nat.reduceSub, Nat.reduceEqDiff, Nat.reduceLeDiff, Nat.reduceLT, Bool.true_eq_false, Bool.false_eq_true, a1, h1, Nat.le_refl]
  | succ d ih =>
    intro k hk
    have n2 : ¬ sn S ≤ k := by omega
    have g := h.2.2.2.1 k (by omega)
    have b9 := hW.2.2.2.2.1 k (by omega)
    have b8 : pMx (sv S) k ≤ 1023 := pMx_le (fun j hj => hW.2.2.2.2.1 j (by omega))
    have := ih (k + 1) (by omega)
    rw [show xTop (sv S) (k + 1) = nI (max (pMx (sv S) k) (sv S k)) from rfl] at this
    rw [q_X0_greatestValue_6]
    by_cases q : k = 0
    · subst q
      have e2 : (if xTop (sv S) 0 < nI (sv S 0) then nI (sv S 0) else xTop (sv S) 0) = nI (sv S 0) := by
        rw [if_pos]
        show (-9999 : Int32) < nI (sv S 0)
        rw [Int32.lt_iff_toInt_lt, nI_toInt (by omega), show (-9999 : Int32).toInt = -9999 by decide]
        omega
      rw [show max (pMx (sv S) 0) (sv S 0) = sv S 0 by show max 0 (sv S 0) = sv S 0; omega] at this
      simp (disch := omega) only [q_X0_greatestValue_0, q_X0_greatestValue_3, q_X0_greatestValue_4, q_X0_greatestValue_5, q_X0_greatestValue_7, q_X0_greatestValue_8, q_X0_greatestValue_11, q_X0_greatestValue_14, q_X0_greatestValue_15, q_X0_greatestValue_16, q_X0_greatestValue_19, q_X0_greatestValue_20, q_X0_greatestValue_23, q_X0_greatestValue_26, q_X0_greatestValue_27, q_X0_greatestValue_30, q_X0_greatestValue_33, q_X0_greatestValue_34, nI_add, pI_le, pI_lt, pI_eq, pI_neg, pI_nn, pI_le0, pI_gt0, pI_eq0, xbV_s, xbU_s, if_true, if_false, bI_eq0, Nat.reduceAdd, Nat.reduceSub, Nat.reduceEqDiff, Nat.reduceLeDiff, Nat.reduceLT, Bool.true_eq_false, Bool.false_eq_true, n2, a1, a2, h1, s_get a6, g, e2]
      exact this
    · have e : xTop (sv S) k = nI (pMx (sv S) k) := by unfold xTop; rw [if_neg q]
      rw [e]
      simp (disch := omega) only [q_X0_greatestValue_0, q_X0_greatestValue_3, q_X0_greatestValue_4, q_X0_greatestValue_5, q_X0_greatestValue_7, q_X0_greatestValue_8, q_X0_greatestValue_11, q_X0_greatestValue_14, q_X0_greatestValue_15, q_X0_greatestValue_16, q_X0_greatestValue_19, q_X0_greatestValue_20, q_X0_greatestValue_23, q_X0_greatestValue_26, q_X0_greatestValue_27, q_X0_greatestValue_30, q_X0_greatestValue_33, q_X0_greatestValue_34, nI_add, pI_le, pI_lt, pI_eq, pI_neg, pI_nn, pI_le0, pI_gt0, pI_eq0, xbV_s, xbU_s, if_true, if_false, bI_eq0, Nat.reduceAdd, Nat.reduceSub, Nat.reduceEqDiff, Nat.reduceLeDiff, Nat.reduceLT, Bool.true_eq_false, Bool.false_eq_true, n2, a1, a2, h1, s_get a6, g, q, pI_mx]
      exact this
theorem s0_top (hA : xCol a) (h : cR I a S) (hW : sWF S) : f_X0_greatestValue [.ref a] I = some (.inl (some (.int (xTop (sv S) (sn S)))), I) := by
  rw [e_X0_greatestValue]
  simp only [q_X0_greatestValue_0, q_X0_greatestValue_3, q_X0_greatestValue_4, q_X0_greatestValue_5, q_X0_greatestValue_7, q_X0_greatestValue_8, q_X0_greatestValue_11, q_X0_greatestValue_14, q_X0_greatestValue_15, q_X0_greatestValue_16, q_X0_greatestValue_19, q_X0_greatestValue_20, q_X0_greatestValue_23, q_X0_greatestValue_26, q_X0_greatestValue_27, q_X0_greatestValue_30, q_X0_greatestValue_33, q_X0_greatestValue_34]
  exact s0_top_l hA h hW (sn S) 0 (by omega)
end PC
end P28
