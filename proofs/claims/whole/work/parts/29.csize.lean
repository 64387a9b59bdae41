/-! ===== the class: a column, its pages measured ===== -/
section P29
section PD
variable {a : Nat} {S : cS} {I : xMem}
theorem s0_mv_l {f n : Nat} {w : Nat → Nat} (hA : xCol a) (hn : n ≤ 12) (hf : f + n ≤ 120) (hw : ∀ j, j < n → w j ≤ 1023) (hv : ∀ j, j < n → I (a + 1 + 1) (f + j) = nI (w j)) : ∀ d k (I1 : xMem), k + d = n → zG (a + 7) 2 I I1 → cM I1 (a + 7) w k → ∃ I', xgo k_X0_measureValues 9 [some (.ref a), some (.int (nI f)), some (.int (nI n)), some (.int (nI k))] [] I1 = some (.inl (some (.ref (a + 7))), I') ∧ zG (a + 7) 2 I I' ∧ cM I' (a + 7) w n := by
  obtain ⟨a1, a2, a3, a4, a5, a6, a7, a8, a9⟩ := hA
  have k6 := a6.1
  have k9 := a9.1
  intro d
  induction d with
  | zero =>
    intro k I1 hk hG hM
    have e : k = n := by omega
    subst e
    refine ⟨I1, ?_, hG, hM⟩
    rw [q_X0_measureValues_9]
    simp (disch := omega) only [q_X0_measureValues_0, q_X0_measureValues_1, q_X0_measureValues_4, q_X0_measureValues_7, q_X0_measureValues_8, q_X0_measureValues_10, q_X0_measureValues_11, q_X0_measureValues_14, q_X0_measureValues_15, q_X0_measureValues_17, q_X0_measureValues_20, q_X0_measureValues_21, q_X0_measureValues_24, q_X0_measureValues_25, q_X0_measureValues_28, q_X0_measureValues_29, q_X0_measureValues_30, q_X0_measureValues_31, q_X0_measureValues_34, q_X0_measureValues_37, q_X0_measureValues_40, q_X0_measureValues_43, q_X0_measureValues_44, q_X0_measureValues_47, nI_add, pI_le, pI_lt, pI_eq, pI_neg, pI_nn, pI_le0, pI_gt0, pI_eq0, xbV_s, xbU_s, if_true, if_false, bI_eq0, Nat.reduceAdd, Nat.reduceSub, Nat.reduceEqDiff, Nat.reduceLeDiff, Nat.reduceLT, Bool.true_eq_false, Bool.false_eq_true, a1, a5, Nat.le_refl]
  | succ d ih =>
    intro k I1 hk hG hM
    have n1 : ¬ n ≤ k := by omega
    have n2 : ¬ 12 ≤ k := by omega
    have e1 : I1 (a + 1 + 1) = I (a + 1 + 1) := hG _ (by omega)
    have g := hv k (by omega)
    obtain ⟨I2, h1, h2, h3⟩ := s2_include a9 hM (by omega) (fun j hj => hw j (by omega))
    obtain ⟨I', h4, h5, h6⟩ := ih (k + 1) I2 (by omega) (hG.tr h2) h3
    refine ⟨I', ?_, h5, h6⟩
    rw [q_X0_measureValues_9]
    simp (disch := omega) only [q_X0_measureValues_0, q_X0_measureValues_1, q_X0_measureValues_4, q_X0_measureValues_7, q_X0_measureValues_8, q_X0_measureValues_10, q_X0_measureValues_11, q_X0_measureValues_14, q_X0_measureValues_15, q_X0_measureValues_17, q_X0_measureValues_20, q_X0_measureValues_21, q_X0_measureValues_24, q_X0_measureValues_25, q_X0_measureValues_28, q_X0_measureValues_29, q_X0_measureValues_30, q_X0_measureValues_31, q_X0_measureValues_34, q_X0_measureValues_37, q_X0_measureValues_40, q_X0_measureValues_43, q_X0_measureValues_44, q_X0_measureValues_47, nI_add, pI_le, pI_lt, pI_eq, pI_neg, pI_nn, pI_le0, pI_gt0, pI_eq0, xbV_s, xbU_s, if_true, if_false, bI_eq0, Nat.reduceAdd, Nat.reduceSub, Nat.reduceEqDiff, Nat.reduceLeDiff, Nat.reduceLT, Bool.true_eq_false, Bool.false_eq_true, n1, n2, a1, a2, a5, s_get a6, e1, g, h1]
    exact h4
theorem s0_mv {f n : Nat} {w : Nat → Nat} (hA : xCol a) (hn : n ≤ 12) (hf : f + n ≤ 120) (hw : ∀ j, j < n → w j ≤ 1023) (hv : ∀ j, j < n → I (a + 1 + 1) (f + j) = nI (w j)) : ∃ I', f_X0_measureValues [.ref a, .int (nI f), .int (nI n)] I = some (.inl (some (.ref (a + 7))), I') ∧ zG (a + 7) 2 I I' ∧ cM I' (a + 7) w n := by
  have a1 := hA.1
  have a5 := hA.2.2.2.2.1
  have a9 := hA.2.2.2.2.2.2.2.2
  have k9 := a9.1
  obtain ⟨I1, h1, h2, h3⟩ := s2_start (w := w) (I := I) a9
  obtain ⟨I', h4, h5, h6⟩ := s0_mv_l (I := I) hA hn hf hw hv n 0 I1 (by omega) h2 h3
  refine ⟨I', ?_, h5, h6⟩
  rw [e_X0_measureValues]
  simp (disch := omega) only [q_X0_measureValues_0, q_X0_measureValues_1, q_X0_measureValues_4, q_X0_measureValues_7, q_X0_measureValues_8, q_X0_measureValues_10, q_X0_measureValues_11, q_X0_measureValues_14, q_X0_measureValues_15, q_X0_measureValues_17, q_X0_measureValues_20, q_X0_measureValues_21, q_X0_measureValues_24, q_X0_measureValues_25, q_X0_measureValues_28, q_X0_measureValues_29, q_X0_measureValues_30, q_X0_measureValues_31, q_X0_measureValues_34, q_X0_measureValues_37, q_X0_measureValues_40, q_X0_measureValues_43, q_X0_measureValues_44, q_X0_measureValues_47, nI_add, pI_le, pI_lt, pI_eq, pI_neg, pI_nn, pI_le0, pI_gt0, pI_eq0, xbV_s, xbU_s, if_true, if_false, bI_eq0, Nat.reduceAdd, Nat.reduceSub, Nat.reduceEqDiff, Nat.reduceLeDiff, Nat.reduceLT, Bool.true_eq_false, Bool.false_eq_true, a1, a5, h1]
  exact h4
/-- values f .. f+n-1 of the state -/
theorem s0_ms {f n : Nat} (hA : xCol a) (h : cR I a S) (hW : sWF S) (hn : n ≤ 12) (hf : f + n ≤ sn S) : ∃ I', f_X0_measureValues [.ref a, .int (nI f), .int (nI n)] I = some (.inl (some (.ref (a + 7))), I') ∧ zG (a + 7) 2 I I' ∧ cM I' (a + 7) (fun j => sv S (f + j)) n ∧ cR I' a S := by
  have h9 := sn_120 hW
  obtain ⟨I', h1, h2, h3⟩ := s0_mv (I := I) (f := f) (n := n) (w := fun j => sv S (f + j)) hA hn (by omega) (fun j hj => hW.2.2.2.2.1 _ (by omega)) (fun j hj => h.2.2.2.1 _ (by omega))
  exact ⟨I', h1, h2, h3, h.me h2⟩
theorem s0_meas {p : Nat} (hA : xCol a) (h : cR I a S) (hW : sWF S) (hp : p < sq S) : ∃ I', f_X0_measurePage [.ref a, .int (nI p)] I = some (.inl (some (.ref (a + 7))), I') ∧ zG (a + 7) 2 I I' ∧ cM I' (a + 7) (sw S p) (sl S p) ∧ cR I' a S := by
  have a1 := hA.1
  have hl := hW.2.2.1 p hp
  have hi := sF_in hW hp
  have hq := hW.1
  obtain ⟨I', h1, h2, h3, h4⟩ := s0_ms (f := sF S p) (n := sl S p) hA h hW hl.2 hi
  refine ⟨I', ?_, h2, h3, h4⟩
  rw [e_X0_measurePage]
  simp (disch := omega) only [q_X0_measurePage_0, q_X0_measurePage_1, q_X0_measurePage_2, q_X0_measurePage_3, q_X0_measurePage_6, q_X0_measurePage_7, q_X0_measurePage_8, q_X0_measurePage_11, q_X0_measurePage_14, nI_add, pI_le, pI_lt, pI_eq, pI_neg, pI_nn, pI_le0, pI_gt0, pI_eq0, xbV_s, xbU_s, if_true, if_false, bI_eq0, Nat.reduceAdd, Nat.reduceSub, Nat.reduceEqDiff, Nat.reduceLeDiff, Nat.reduceLT, Bool.true_eq_false, Bool.false_eq_true, a1, s0_first hA h hW (Nat.le_of_lt hp), s0_lengthOf hA h hW hp, h1]
theorem s0_cod {p : Nat} (hA : xCol a) (h : cR I a S) (hW : sWF S) (hp : p < sq S) : ∃ I', f_X0_codingOf [.ref a, .int (nI p)] I = some (.inl (some (.int (nI (sC S p)))), I') ∧ zG (a + 7) 2 I I' ∧ cR I' a S := by
  have a1 := hA.1
  have a9 := hA.2.2.2.2.2.2.2.2
  have k9 := a9.1
  have hl := hW.2.2.1 p hp
  have hpin := hW.2.2.2.2.2 p hp
  obtain ⟨I', h1, h2, h3, h4⟩ := s0_meas hA h hW hp
  refine ⟨I', ?_, h2, h4⟩
  rw [e_X0_codingOf]
  simp (disch := omega) only [q_X0_codingOf_0, q_X0_codingOf_1, q_X0_codingOf_2, q_X0_codingOf_5, q_X0_codingOf_6, q_X0_codingOf_7, q_X0_codingOf_10, q_X0_codingOf_13, nI_add, pI_le, pI_lt, pI_eq, pI_neg, pI_nn, pI_le0, pI_gt0, pI_eq0, xbV_s, xbU_s, if_true, if_false, bI_eq0, Nat.reduceAdd, Nat.reduceSub, Nat.reduceEqDiff, Nat.reduceLeDiff, Nat.reduceLT, Bool.true_eq_false, Bool.false_eq_true, a1, h1, s0_pinOf hA h4 hW hp, s2_cod a9 h3 hl.1 hl.2 (sw_le hW hp) hpin]
  rfl
theorem s0_size {p : Nat} (hA : xCol a) (h : cR I a S) (hW : sWF S) (hp : p < sq S) : ∃ I', f_X0_sizeOf [.ref a, .int (nI p)] I = some (.inl (some (.int (nI (sZ S p)))), I') ∧ zG (a + 7) 2 I I' ∧ cR I' a S := by
  have a1 := hA.1
  have a9 := hA.2.2.2.2.2.2.2.2
  have k9 := a9.1
  have hl := hW.2.2.1 p hp
  have hpin := hW.2.2.2.2.2 p hp
  obtain ⟨I', h1, h2, h3, h4⟩ := s0_meas hA h hW hp
  refine ⟨I', ?_, h2, h4⟩
  rw [e_X0_sizeOf]
  simp (disch := omega) only [q_X0_sizeOf_0, q_X0_sizeOf_1, q_X0_sizeOf_2, q_X0_sizeOf_5, q_X0_sizeOf_6, q_X0_sizeOf_7, q_X0_sizeOf_10, q_X0_sizeOf_13, nI_add, pI_le, pI_lt, pI_eq, pI_neg, pI_nn, pI_le0, pI_gt0, pI_eq0, xbV_s, xbU_s, if_true, if_false, bI_eq0, Nat.reduceAdd, Nat.reduceSub, Nat.reduceEqDiff, Nat.reduceLeDiff, Nat.reduceLT, Bool.true_eq_false, Bool.false_eq_true, a1, h1, s0_pinOf hA h4 hW hp, s2_size a9 h3 hl.1 hl.2 (sw_le hW hp) hpin]
  rfl
theorem s0_total_l (hA : xCol a) (hW : sWF S) : ∀ d k (I1 : xMem), k + d = sq S → zG (a + 7) 2 I I1 → cR I1 a S → ∃ I', xgo k_X0_totalSize 6 [some (.ref a), some (.int (nI (xsum (sZ S) k))), some (.int (nI (sF S k))), some (.int (nI k))] [] I1 = some (.inl (some (.int (nI (sT S)))), I') ∧ zG (a + 7) 2 I I' ∧ cR I' a S := by
  have a1 := hA.1
  have a9 := hA.2.2.2.2.2.2.2.2
  have k9 := a9.1
  have hq := hW.1
  intro d
  induction d with
  | zero =>
    intro k I1 hk hG h
    have e : k = sq S := by omega
    subst e
    have h1 := h.2.1
    refine ⟨I1, ?_, hG, h⟩
    rw [q_X0_totalSize_6]
    simp (disch := omega) only [q_X0_totalSize_0, q_X0_totalSize_1, q_X0_totalSize_2, q_X0_totalSize_3, q_X0_totalSize_4, q_X0_totalSize_5, q_X0_totalSize_7, q_X0_totalSize_8, q_X0_totalSize_11, q_X0_totalSize_14, q_X0_totalSize_15, q_X0_totalSize_16, q_X0_totalSize_17, q_X0_totalSize_18, q_X0_totalSize_19, q_X0_totalSize_22, q_X0_totalSize_25, q_X0_totalSize_26, q_X0_totalSize_27, q_X0_totalSize_30, q_X0_totalSize_33, q_X0_totalSize_34, q_X0_totalSize_35, q_X0_totalSize_36, q_X0_totalSize_37, q_X0_totalSize_38, q_X0_totalSize_41, q_X0_totalSize_42, q_X0_totalSize_43, q_X0_totalSize_46, q_X0_totalSize_49, q_X0_totalSize_50, nI_add, pI_le, pI_lt, pI_eq, pI_neg, pI_nn, pI_le0, pI_gt0, pI_eq0, xbV_s, xbU_s, if_true, if_false, bI_eq0, Nat.reduceAdd, Nat.reduceSub, Nat.reduceEqDiff, Nat.reduceLeDiff, Nat.reduceLT, Bool.true_eq_false, Bool.false_eq_true, a1, h1, Nat.le_refl]
    rfl
  | succ d ih =>
    intro k I1 hk hG h
    have hp : k < sq S := by omega
    have h1 := h.2.1
    have n1 : ¬ sq S ≤ k := by omega
    have hl := hW.2.2.1 k hp
    have hi := sF_in hW hp
    have hpin := hW.2.2.2.2.2 k hp
    obtain ⟨I2, h2, h3, h4, h5⟩ := s0_ms (f := sF S k) (n := sl S k) hA h hW hl.2 hi
    obtain ⟨I', h6, h7, h8⟩ := ih (k + 1) I2 (by omega) (hG.tr h3) h5
    refine ⟨I', ?_, h7, h8⟩
    rw [q_X0_totalSize_6]
    simp (disch := omega) only [q_X0_totalSize_0, q_X0_totalSize_1, q_X0_totalSize_2, q_X0_totalSize_3, q_X0_totalSize_4, q_X0_totalSize_5, q_X0_totalSize_7, q_X0_totalSize_8, q_X0_totalSize_11, q_X0_totalSize_14, q_X0_totalSize_15, q_X0_totalSize_16, q_X0_totalSize_17, q_X0_totalSize_18, q_X0_totalSize_19, q_X0_totalSize_22, q_X0_totalSize_25, q_X0_totalSize_26, q_X0_totalSize_27, q_X0_totalSize_30, q_X0_totalSize_33, q_X0_totalSize_34, q_X0_totalSize_35, q_X0_totalSize_36, q_X0_totalSize_37, q_X0_totalSize_38, q_X0_totalSize_41, q_X0_totalSize_42, q_X0_totalSize_43, q_X0_totalSize_46, q_X0_totalSize_49, q_X0_totalSize_50, nI_add, pI_le, pI_lt, pI_eq, pI_neg, pI_nn, pI_le0, pI_gt0, pI_eq0, xbV_s, xbU_s, if_true, if_false, bI_eq0, Nat.reduceAdd, Nat.reduceSub, Nat.reduceEqDiff, Nat.reduceLeDiff, Nat.reduceLT, Bool.true_eq_false, Bool.false_eq_true, a1, h1, n1, s0_lengthOf hA h hW hp, h2, s0_lengthOf hA h5 hW hp, s0_pinOf hA h5 hW hp, s2_size a9 h4 hl.1 hl.2 (sw_le hW hp) hpin]
    exact h6
theorem s0_total (hA : xCol a) (h : cR I a S) (hW : sWF S) : ∃ I', f_X0_totalSize [.ref a] I = some (.inl (some (.int (nI (sT S)))), I') ∧ zG (a + 7) 2 I I' ∧ cR I' a S := by
  obtain ⟨I', h1, h2, h3⟩ := s0_total_l (I := I) hA hW (sq S) 0 I (by omega) zG.rf h
  refine ⟨I', ?_, h2, h3⟩
  rw [e_X0_totalSize]
  simp only [q_X0_totalSize_0, q_X0_totalSize_1, q_X0_totalSize_2, q_X0_totalSize_3, q_X0_totalSize_4, q_X0_totalSize_5, q_X0_totalSize_7, q_X0_totalSize_8, q_X0_totalSize_11, q_X0_totalSize_14, q_X0_totalSize_15, q_X0_totalSize_16, q_X0_totalSize_17, q_X0_totalSize_18, q_X0_totalSize_19, q_X0_totalSize_22, q_X0_totalSize_25, q_X0_totalSize_26, q_X0_totalSize_27, q_X0_totalSize_30, q_X0_totalSize_33, q_X0_totalSize_34, q_X0_totalSize_35, q_X0_totalSize_36, q_X0_totalSize_37, q_X0_totalSize_38, q_X0_totalSize_41, q_X0_totalSize_42, q_X0_totalSize_43, q_X0_totalSize_46, q_X0_totalSize_49, q_X0_totalSize_50]
  exact h1
/-- the bits of both parts of a page that is cut -/
def sPt (S : cS) (p k : Nat) : Nat := pPin (sw S p) k (sp S p) + pPin (fun j => sv S (sF S p + k + j)) (sl S p - k) (sp S p)
theorem s0_parts {p k : Nat} (hA : xCol a) (h : cR I a S) (hW : sWF S) (hp : p < sq S) (h1 : 1 ≤ k) (h2 : k < sl S p) : ∃ I', f_X0_sizeOfParts [.ref a, .int (nI p), .int (nI k)] I = some (.inl (some (.int (nI (sPt S p k)))), I') ∧ zG (a + 7) 2 I I' ∧ cR I' a S := by
  have a1 := hA.1
  have a9 := hA.2.2.2.2.2.2.2.2
  have k9 := a9.1
  have hl := hW.2.2.1 p hp
  have hi := sF_in hW hp
  have hn := sn_120 hW
  have hq := hW.1
  have hpin := hW.2.2.2.2.2 p hp
  obtain ⟨I1, f1, f2, f3, f4⟩ := s0_ms (f := sF S p) (n := k) hA h hW (by omega) (by omega)
  obtain ⟨I2, g1, g2, g3, g4⟩ := s0_ms (f := sF S p + k) (n := sl S p - k) hA f4 hW (by omega) (by omega)
  have e : nI (sl S p) - nI k = nI (sl S p - k) := pI_sub (by omega)
  refine ⟨I2, ?_, f2.tr g2, g4⟩
  rw [e_X0_sizeOfParts]
  simp (disch := omega) only [q_X0_sizeOfParts_0, q_X0_sizeOfParts_1, q_X0_sizeOfParts_2, q_X0_sizeOfParts_5, q_X0_sizeOfParts_6, q_X0_sizeOfParts_7, q_X0_sizeOfParts_8, q_X0_sizeOfParts_9, q_X0_sizeOfParts_12, q_X0_sizeOfParts_13, q_X0_sizeOfParts_14, q_X0_sizeOfParts_17, q_X0_sizeOfParts_20, q_X0_sizeOfParts_21, q_X0_sizeOfParts_22, q_X0_sizeOfParts_23, q_X0_sizeOfParts_24, q_X0_sizeOfParts_25, q_X0_sizeOfParts_26, q_X0_sizeOfParts_29, q_X0_sizeOfParts_30, q_X0_sizeOfParts_31, q_X0_sizeOfParts_34, q_X0_sizeOfParts_35, q_X0_sizeOfParts_36, q_X0_sizeOfParts_39, q_X0_sizeOfParts_42, q_X0_sizeOfParts_43, nI_add, pI_le, pI_lt, pI_eq, pI_neg, pI_nn, pI_le0, pI_gt0, pI_eq0, xbV_s, xbU_s, if_true, if_false, bI_eq0, Nat.reduceAdd, Nat.reduceSub, Nat.reduceEqDiff, Nat.reduceLeDiff, Nat.reduceLT, Bool.true_eq_false, Bool.false_eq_true, a1, s0_first hA h hW (Nat.le_of_lt hp), f1, s0_pinOf hA f4 hW hp, s2_size a9 f3 h1 (by omega : k ≤ 12) (fun j hj => hW.2.2.2.2.1 _ (by omega)) hpin, s0_lengthOf hA f4 hW hp, e, g1, s0_pinOf hA g4 hW hp, s2_size a9 g3 (by omega : 0 < sl S p - k) (by omega : sl S p - k ≤ 12) (fun j hj => hW.2.2.2.2.1 _ (by omega)) hpin]
  rfl
theorem s0_canJoin {p : Nat} (hA : xCol a) (h : cR I a S) (hW : sWF S) (hp : p < 1000) : f_X0_canJoin [.ref a, .int (nI p)] I = some (.inl (some (.int (bI (sOk S p)))), I) := by
  have a1 := hA.1
  have hx := s0_hasNext (x := nI p) hA h hW
  rw [xLt_nI (by omega)] at hx
  rw [e_X0_canJoin]
  by_cases q : p + 1 < sq S
  · rw [decide_eq_true (by omega)] at hx
    have l1 := hW.2.2.1 p (by omega)
    have l2 := hW.2.2.1 (p + 1) q
    by_cases r : sl S p + sl S (p + 1) ≤ 12
    · rw [sOk_iff.mpr ⟨q, r⟩, bI_t]
      have r' : ¬ 12 < sl S p + sl S (p + 1) := by omega
      simp (disch := omega) only [q_X0_canJoin_0, q_X0_canJoin_1, q_X0_canJoin_2, q_X0_canJoin_5, q_X0_canJoin_8, q_X0_canJoin_9, q_X0_canJoin_10, q_X0_canJoin_13, q_X0_canJoin_14, q_X0_canJoin_15, q_X0_canJoin_16, q_X0_canJoin_17, q_X0_canJoin_20, q_X0_canJoin_21, q_X0_canJoin_23, q_X0_canJoin_26, q_X0_canJoin_27, q_X0_canJoin_30, q_X0_canJoin_31_b, q_X0_canJoin_31_0, q_X0_canJoin_31_1, nI_add, pI_le, pI_lt, pI_eq, pI_neg, pI_nn, pI_le0, pI_gt0, pI_eq0, xbV_s, xbU_s, if_true, if_false, bI_eq0, Nat.reduceAdd, Nat.reduceSub, Nat.reduceEqDiff, Nat.reduceLeDiff, Nat.reduceLT, Bool.true_eq_false, Bool.false_eq_true, a1, hx, s0_lengthOf hA h hW (by omega : p < sq S), s0_lengthOf hA h hW q, r']
    · have e : sOk S p = false := by unfold sOk; exact decide_eq_false (by omega)
      rw [e, bI_f]
      have r' : 12 < sl S p + sl S (p + 1) := by omega
      simp (disch := omega) only [q_X0_canJoin_0, q_X0_canJoin_1, q_X0_canJoin_2, q_X0_canJoin_5, q_X0_canJoin_8, q_X0_canJoin_9, q_X0_canJoin_10, q_X0_canJoin_13, q_X0_canJoin_14, q_X0_canJoin_15, q_X0_canJoin_16, q_X0_canJoin_17, q_X0_canJoin_20, q_X0_canJoin_21, q_X0_canJoin_23, q_X0_canJoin_26, q_X0_canJoin_27, q_X0_canJoin_30, q_X0_canJoin_31_b, q_X0_canJoin_31_0, q_X0_canJoin_31_1, nI_add, pI_le, pI_lt, pI_eq, pI_neg, pI_nn, pI_le0, pI_gt0, pI_eq0, xbV_s, xbU_s, if_true, if_false, bI_eq0, Nat.reduceAdd, Nat.reduceSub, Nat.reduceEqDiff, Nat.reduceLeDiff, Nat.reduceLT, Bool.true_eq_false, Bool.false_eq_true, a1, hx, s0_lengthOf hA h hW (by omega : p < sq S), s0_lengthOf hA h hW q, r']
  · rw [decide_eq_false (by omega)] at hx
    have e : sOk S p = false := by unfold sOk; exact decide_eq_false (by omega)
    rw [e, bI_f]
    simp (disch := omega) only [q_X0_canJoin_0, q_X0_canJoin_1, q_X0_canJoin_2, q_X0_canJoin_5, q_X0_canJoin_8, q_X0_canJoin_9, q_X0_canJoin_10, q_X0_canJoin_13, q_X0_canJoin_14, q_X0_canJoin_15, q_X0_canJoin_16, q_X0_canJoin_17, q_X0_canJoin_20, q_X0_canJoin_21, q_X0_canJoin_23, q_X0_canJoin_26, q_X0_canJoin_27, q_X0_canJoin_30, q_X0_canJoin_31_b, q_X0_canJoin_31_0, q_X0_canJoin_31_1, nI_add, pI_le, pI_lt, pI_eq, pI_neg, pI_nn, pI_le0, pI_gt0, pI_eq0, xbV_s, xbU_s, if_true, if_false, bI_eq0, Nat.reduceAdd, Nat.reduceSub, Nat.reduceEqDiff, Nat.reduceLeDiff, Nat.reduceLT, Bool.true_eq_false, Bool.false_eq_true, a1, hx]
theorem s0_canJoin0 {x : Int32} (hA : xCol a) (h : cR I a S) (hW : sWF S) (hx : xLt x (sq S - 1) = false) : f_X0_canJoin [.ref a, .int x] I = some (.inl (some (.int (nI 0))), I) := by
  have a1 := hA.1
  rw [e_X0_canJoin]
  simp (disch := omega) only [q_X0_canJoin_0, q_X0_canJoin_1, q_X0_canJoin_2, q_X0_canJoin_5, q_X0_canJoin_8, q_X0_canJoin_9, q_X0_canJoin_10, q_X0_canJoin_13, q_X0_canJoin_14, q_X0_canJoin_15, q_X0_canJoin_16, q_X0_canJoin_17, q_X0_canJoin_20, q_X0_canJoin_21, q_X0_canJoin_23, q_X0_canJoin_26, q_X0_canJoin_27, q_X0_canJoin_30, q_X0_canJoin_31_b, q_X0_canJoin_31_0, q_X0_canJoin_31_1, nI_add, pI_le, pI_lt, pI_eq, pI_neg, pI_nn, pI_le0, pI_gt0, pI_eq0, xbV_s, xbU_s, if_true, if_false, bI_eq0, Nat.reduceAdd, Nat.reduceSub, Nat.reduceEqDiff, Nat.reduceLeDiff, Nat.reduceLT, Bool.true_eq_false, Bool.false_eq_true, a1, s0_hasNext hA h hW, hx]
theorem xpn_eq {c d : Nat} (hc : c ≤ 5) (hd : d ≤ 5) : (xpn c = xpn d) = (c = d) := by
  have key : ∀ c, c ≤ 5 → ∀ d, d ≤ 5 → (xpn c = xpn d ↔ c = d) := by decide
  exact propext (key c hc d hd)
theorem s0_joinedPin {p : Nat} (hA : xCol a) (h : cR I a S) (hW : sWF S) (hp : p + 1 < sq S) : f_X0_joinedPin [.ref a, .int (nI p)] I = some (.inl (some (.int (xpn (sMp S p)))), I) := by
  have a1 := hA.1
  have l1 := hW.2.2.2.2.2 p (by omega)
  have l2 := hW.2.2.2.2.2 (p + 1) hp
  unfold sMp
  rw [e_X0_joinedPin]
  by_cases r : sp S p = sp S (p + 1)
  · rw [if_pos r]
    have e : (xpn (sp S p) = xpn (sp S (p + 1))) = True := by rw [xpn_eq l1 l2]; exact eq_true r
    simp (disch := omega) only [q_X0_joinedPin_0, q_X0_joinedPin_1, q_X0_joinedPin_2, q_X0_joinedPin_5, q_X0_joinedPin_6, q_X0_joinedPin_7, q_X0_joinedPin_8, q_X0_joinedPin_9, q_X0_joinedPin_12, q_X0_joinedPin_15, q_X0_joinedPin_16, q_X0_joinedPin_17, q_X0_joinedPin_20, q_X0_joinedPin_23, q_X0_joinedPin_26, nI_add, pI_le, pI_lt, pI_eq, pI_neg, pI_nn, pI_le0, pI_gt0, pI_eq0, xbV_s, xbU_s, if_true, if_false, bI_eq0, Nat.reduceAdd, Nat.reduceSub, Nat.reduceEqDiff, Nat.reduceLeDiff, Nat.reduceLT, Bool.true_eq_false, Bool.false_eq_true, a1, s0_pinOf hA h hW (by omega : p < sq S), s0_pinOf hA h hW hp, e]
  · rw [if_neg r]
    have e : (xpn (sp S p) = xpn (sp S (p + 1))) = False := by rw [xpn_eq l1 l2]; exact eq_false r
    simp (disch := omega) only [q_X0_joinedPin_0, q_X0_joinedPin_1, q_X0_joinedPin_2, q_X0_joinedPin_5, q_X0_joinedPin_6, q_X0_joinedPin_7, q_X0_joinedPin_8, q_X0_joinedPin_9, q_X0_joinedPin_12, q_X0_joinedPin_15, q_X0_joinedPin_16, q_X0_joinedPin_17, q_X0_joinedPin_20, q_X0_joinedPin_23, q_X0_joinedPin_26, nI_add, pI_le, pI_lt, pI_eq, pI_neg, pI_nn, pI_le0, pI_gt0, pI_eq0, xbV_s, xbU_s, if_true, if_false, bI_eq0, Nat.reduceAdd, Nat.reduceSub, Nat.reduceEqDiff, Nat.reduceLeDiff, Nat.reduceLT, Bool.true_eq_false, Bool.false_eq_true, a1, s0_pinOf hA h hW (by omega : p < sq S), s0_pinOf hA h hW hp, e]
    rfl
def sSv (S : cS) (p : Nat) : Int32 := if sOk S p = true then nI (sZ S p + sZ S (p + 1)) - nI (sThen S p) else -9999
theorem s0_saved0 {x : Int32} (hA : xCol a) (h : cR I a S) (hW : sWF S) (hx : xLt x (sq S - 1) = false) : f_X0_savedByJoin [.ref a, .int x] I = some (.inl (some (.int (-9999))), I) := by
  have a1 := hA.1
  rw [e_X0_savedByJoin]
  simp (disch := omega) only [q_X0_savedByJoin_0, q_X0_savedByJoin_1, q_X0_savedByJoin_2, q_X0_savedByJoin_5, q_X0_savedByJoin_8, q_X0_savedByJoin_11, q_X0_savedByJoin_12, q_X0_savedByJoin_13, q_X0_savedByJoin_14, q_X0_savedByJoin_17, q_X0_savedByJoin_18, q_X0_savedByJoin_19, q_X0_savedByJoin_20, q_X0_savedByJoin_23, q_X0_savedByJoin_24, q_X0_savedByJoin_25, q_X0_savedByJoin_26, q_X0_savedByJoin_27, q_X0_savedByJoin_28, q_X0_savedByJoin_31, q_X0_savedByJoin_33, q_X0_savedByJoin_34, q_X0_savedByJoin_35, q_X0_savedByJoin_36, q_X0_savedByJoin_39, q_X0_savedByJoin_40, q_X0_savedByJoin_41, q_X0_savedByJoin_44, q_X0_savedByJoin_47, q_X0_savedByJoin_48, q_X0_savedByJoin_49, q_X0_savedByJoin_50, q_X0_savedByJoin_51, q_X0_savedByJoin_53, q_X0_savedByJoin_56, q_X0_savedByJoin_57, q_X0_savedByJoin_58, q_X0_savedByJoin_59, q_X0_savedByJoin_60, q_X0_savedByJoin_63, q_X0_savedByJoin_66, q_X0_savedByJoin_67, q_X0_savedByJoin_68, q_X0_savedByJoin_69, q_X0_savedByJoin_70, q_X0_savedByJoin_72, q_X0_savedByJoin_73, q_X0_savedByJoin_76, q_X0_savedByJoin_77, q_X0_savedByJoin_78, q_X0_savedByJoin_81, q_X0_savedByJoin_84, q_X0_savedByJoin_85, nI_add, pI_le, pI_lt, pI_eq, pI_neg, pI_nn, pI_le0, pI_gt0, pI_eq0, xbV_s, xbU_s, if_true, if_false, bI_eq0, Nat.reduceAdd, Nat.reduceSub, Nat.reduceEqDiff, Nat.reduceLeDiff, Nat.reduceLT, Bool.true_eq_false, Bool.false_eq_true, a1, s0_canJoin0 hA h hW hx]
theorem s0_saved {p : Nat} (hA : xCol a) (h : cR I a S) (hW : sWF S) (hp : p < 1000) : ∃ I', f_X0_savedByJoin [.ref a, .int (nI p)] I = some (.inl (some (.int (sSv S p))), I') ∧ zG (a + 7) 2 I I' ∧ cR I' a S := by
  have a1 := hA.1
  have a9 := hA.2.2.2.2.2.2.2.2
  have k9 := a9.1
  have hn := sn_120 hW
  have hq := hW.1
  unfold sSv
  by_cases q : sOk S p = true
  · rw [if_pos q]
    obtain ⟨q1, q2⟩ := sOk_iff.mp q
    have hp1 : p < sq S := by omega
    have l1 := hW.2.2.1 p hp1
    have l2 := hW.2.2.1 (p + 1) q1
    have i1 := sF_in hW hp1
    have i2 := sF_in hW q1
    have e2 := sF_s S p
    have p1 := hW.2.2.2.2.2 p hp1
    have p2 := hW.2.2.2.2.2 (p + 1) q1
    have p3 := sMp_le hW hp1
    obtain ⟨I1, f1, f2, f3, f4⟩ := s0_ms (f := sF S p) (n := sl S p) hA h hW (by omega) (by omega)
    obtain ⟨I2, g1, g2, g3, g4⟩ := s0_ms (f := sF S p + sl S p) (n := sl S (p + 1)) hA f4 hW (by omega) (by omega)
    obtain ⟨I3, j1, j2, j3, j4⟩ := s0_ms (f := sF S p) (n := sl S p + sl S (p + 1)) hA g4 hW (by omega) (by omega)
    refine ⟨I3, ?_, (f2.tr g2).tr j2, j4⟩
    rw [e_X0_savedByJoin]
    simp (disch := omega) only [q_X0_savedByJoin_0, q_X0_savedByJoin_1, q_X0_savedByJoin_2, q_X0_savedByJoin_5, q_X0_savedByJoin_8, q_X0_savedByJoin_11, q_X0_savedByJoin_12, q_X0_savedByJoin_13, q_X0_savedByJoin_14, q_X0_savedByJoin_17, q_X0_savedByJoin_18, q_X0_savedByJoin_19, q_X0_savedByJoin_20, q_X0_savedByJoin_23, q_X0_savedByJoin_24, q_X0_savedByJoin_25, q_X0_savedByJoin_26, q_X0_savedByJoin_27, q_X0_savedByJoin_28, q_X0_savedByJoin_31, q_X0_savedByJoin_33, q_X0_savedByJoin_34, q_X0_savedByJoin_35, q_X0_savedByJoin_36, q_X0_savedByJoin_39, q_X0_savedByJoin_40, q_X0_savedByJoin_41, q_X0_savedByJoin_44, q_X0_savedByJoin_47, q_X0_savedByJoin_48, q_X0_savedByJoin_49, q_X0_savedByJoin_50, q_X0_savedByJoin_51, q_X0_savedByJoin_53, q_X0_savedByJoin_56, q_X0_savedByJoin_57, q_X0_savedByJoin_58, q_X0_savedByJoin_59, q_X0_savedByJoin_60, q_X0_savedByJoin_63, q_X0_savedByJoin_66, q_X0_savedByJoin_67, q_X0_savedByJoin_68, q_X0_savedByJoin_69, q_X0_savedByJoin_70, q_X0_savedByJoin_72, q_X0_savedByJoin_73, q_X0_savedByJoin_76, q_X0_savedByJoin_77, q_X0_savedByJoin_78, q_X0_savedByJoin_81, q_X0_savedByJoin_84, q_X0_savedByJoin_85, nI_add, pI_le, pI_lt, pI_eq, pI_neg, pI_nn, pI_le0, pI_gt0, pI_eq0, xbV_s, xbU_s, if_true, if_false, bI_eq0, Nat.reduceAdd, Nat.reduceSub, Nat.reduceEqDiff, Nat.reduceLeDiff, Nat.reduceLT, Bool.true_eq_false, Bool.false_eq_true, a1, s0_canJoin hA h hW hp, q, s0_first hA h hW (Nat.le_of_lt hp1), s0_lengthOf hA h hW hp1, s0_lengthOf hA h hW q1, f1, s0_pinOf hA f4 hW hp1, s2_size a9 f3 l1.1 l1.2 (fun j hj => hW.2.2.2.2.1 _ (by omega)) p1, g1, s0_pinOf hA g4 hW q1, s2_size a9 g3 l2.1 l2.2 (fun j hj => hW.2.2.2.2.1 _ (by omega)) p2, j1, s0_joinedPin hA j4 hW q1, s2_size a9 j3 (by omega : 0 < sl S p + sl S (p + 1)) q2 (fun j hj => hW.2.2.2.2.1 _ (by omega)) p3]
    rfl
  · have q' : sOk S p = false := by simpa using q
    rw [if_neg q]
    refine ⟨I, ?_, zG.rf, h⟩
    rw [e_X0_savedByJoin]
    simp (disch := omega) only [q_X0_savedByJoin_0, q_X0_savedByJoin_1, q_X0_savedByJoin_2, q_X0_savedByJoin_5, q_X0_savedByJoin_8, q_X0_savedByJoin_11, q_X0_savedByJoin_12, q_X0_savedByJoin_13, q_X0_savedByJoin_14, q_X0_savedByJoin_17, q_X0_savedByJoin_18, q_X0_savedByJoin_19, q_X0_savedByJoin_20, q_X0_savedByJoin_23, q_X0_savedByJoin_24, q_X0_savedByJoin_25, q_X0_savedByJoin_26, q_X0_savedByJoin_27, q_X0_savedByJoin_28, q_X0_savedByJoin_31, q_X0_savedByJoin_33, q_X0_savedByJoin_34, q_X0_savedByJoin_35, q_X0_savedByJoin_36, q_X0_savedByJoin_39, q_X0_savedByJoin_40, q_X0_savedByJoin_41, q_X0_savedByJoin_44, q_X0_savedByJoin_47, q_X0_savedByJoin_48, q_X0_savedByJoin_49, q_X0_savedByJoin_50, q_X0_savedByJoin_51, q_X0_savedByJoin_53, q_X0_savedByJoin_56, q_X0_savedByJoin_57, q_X0_savedByJoin_58, q_X0_savedByJoin_59, q_X0_savedByJoin_60, q_X0_savedByJoin_63, q_X0_savedByJoin_66, q_X0_savedByJoin_67, q_X0_savedByJoin_68, q_X0_savedByJoin_69, q_X0_savedByJoin_70, q_X0_savedByJoin_72, q_X0_savedByJoin_73, q_X0_savedByJoin_76, q_X0_savedByJoin_77, q_X0_savedByJoin_78, q_X0_savedByJoin_81, q_X0_savedByJoin_84, q_X0_savedByJoin_85, nI_add, pI_le, pI_lt, pI_eq, pI_neg, pI_nn, pI_le0, pI_gt0, pI_eq0, xbV_s, xbU_s, if_true, if_false, bI_eq0, Nat.reduceAdd, Nat.reduceSub, Nat.reduceEqDiff, Nat.reduceLeDiff, Nat.reduceLT, Bool.true_eq_false, Bool.false_eq_true, a1, s0_canJoin hA h hW hp, q']
theorem s0_room (hA : xCol a) (h : cR I a S) (hW : sWF S) : f_X0_lastPageHasRoom [.ref a] I = some (.inl (some (.int (bI (sHasRoom S)))), I) := by
  have a1 := hA.1
  have h1 := h.2.1
  have h2 := h.2.2.1
  have hq := hW.1
  have hm := hW.2.1
  rw [e_X0_lastPageHasRoom]
  by_cases q : sq S = 0
  · have e2 : sHasRoom S = false := by unfold sHasRoom; exact decide_eq_false (by omega)
    rw [e2, bI_f]
    simp (disch := omega) only [q_X0_lastPageHasRoom_0, q_X0_lastPageHasRoom_1, q_X0_lastPageHasRoom_4, q_X0_lastPageHasRoom_7, q_X0_lastPageHasRoom_8, q_X0_lastPageHasRoom_9, q_X0_lastPageHasRoom_12, q_X0_lastPageHasRoom_13, q_X0_lastPageHasRoom_14, q_X0_lastPageHasRoom_17, q_X0_lastPageHasRoom_18, q_X0_lastPageHasRoom_21, q_X0_lastPageHasRoom_24, q_X0_lastPageHasRoom_25, q_X0_lastPageHasRoom_28, q_X0_lastPageHasRoom_29_b, q_X0_lastPageHasRoom_29_0, q_X0_lastPageHasRoom_29_1, nI_add, pI_le, pI_lt, pI_eq, pI_neg, pI_nn, pI_le0, pI_gt0, pI_eq0, xbV_s, xbU_s, if_true, if_false, bI_eq0, Nat.reduceAdd, Nat.reduceSub, Nat.reduceEqDiff, Nat.reduceLeDiff, Nat.reduceLT, Bool.true_eq_false, Bool.false_eq_true, a1, h1, q]
  · have hl := hW.2.2.1 (sq S - 1) (by omega)
    have e : nI (sq S) - nI 1 = nI (sq S - 1) := pI_sub (by omega)
    by_cases r : sm S ≤ sl S (sq S - 1)
    · have e2 : sHasRoom S = false := by unfold sHasRoom; exact decide_eq_false (by omega)
      rw [e2, bI_f]
      simp (disch := omega) only [q_X0_lastPageHasRoom_0, q_X0_lastPageHasRoom_1, q_X0_lastPageHasRoom_4, q_X0_lastPageHasRoom_7, q_X0_lastPageHasRoom_8, q_X0_lastPageHasRoom_9, q_X0_lastPageHasRoom_12, q_X0_lastPageHasRoom_13, q_X0_lastPageHasRoom_14, q_X0_lastPageHasRoom_17, q_X0_lastPageHasRoom_18, q_X0_lastPageHasRoom_21, q_X0_lastPageHasRoom_24, q_X0_lastPageHasRoom_25, q_X0_lastPageHasRoom_28, q_X0_lastPageHasRoom_29_b, q_X0_lastPageHasRoom_29_0, q_X0_lastPageHasRoom_29_1, nI_add, pI_le, pI_lt, pI_eq, pI_neg, pI_nn, pI_le0, pI_gt0, pI_eq0, xbV_s, xbU_s, if_true, if_false, bI_eq0, Nat.reduceAdd, Nat.reduceSub, Nat.reduceEqDiff, Nat.reduceLeDiff, Nat.reduceLT, Bool.true_eq_false, Bool.false_eq_true, a1, h1, h2, q, e, s0_lengthOf hA h hW (by omega : sq S - 1 < sq S), r]
    · have e2 : sHasRoom S = true := sHasRoom_iff.mpr ⟨by omega, by omega⟩
      rw [e2, bI_t]
      simp (disch := omega) only [q_X0_lastPageHasRoom_0, q_X0_lastPageHasRoom_1, q_X0_lastPageHasRoom_4, q_X0_lastPageHasRoom_7, q_X0_lastPageHasRoom_8, q_X0_lastPageHasRoom_9, q_X0_lastPageHasRoom_12, q_X0_lastPageHasRoom_13, q_X0_lastPageHasRoom_14, q_X0_lastPageHasRoom_17, q_X0_lastPageHasRoom_18, q_X0_lastPageHasRoom_21, q_X0_lastPageHasRoom_24, q_X0_lastPageHasRoom_25, q_X0_lastPageHasRoom_28, q_X0_lastPageHasRoom_29_b, q_X0_lastPageHasRoom_29_0, q_X0_lastPageHasRoom_29_1, nI_add, pI_le, pI_lt, pI_eq, pI_neg, pI_nn, pI_le0, pI_gt0, pI_eq0, xbV_s, xbU_s, if_true, if_false, bI_eq0, Nat.reduceAdd, Nat.reduceSub, Nat.reduceEqDiff, Nat.reduceLeDiff, Nat.reduceLT, Bool.true_eq_false, Bool.false_eq_true, a1, h1, h2, q, e, s0_lengthOf hA h hW (by omega : sq S - 1 < sq S), r]
theorem s0_canAppend (hA : xCol a) (h : cR I a S) (hW : sWF S) : f_X0_canAppend [.ref a] I = some (.inl (some (.int (bI (sCanAdd S)))), I) := by
  have a1 := hA.1
  have hq := hW.1
  have hr := s0_room hA h hW
  have hf := s0_isFull hA h hW
  rw [e_X0_canAppend]
  unfold sCanAdd
  cases hb : sHasRoom S with
  | true =>
    rw [Bool.true_or, bI_t]
    simp (disch := omega) only [q_X0_canAppend_0, q_X0_canAppend_1, q_X0_canAppend_4, q_X0_canAppend_7, q_X0_canAppend_8, q_X0_canAppend_11, q_X0_canAppend_14, q_X0_canAppend_15, q_X0_canAppend_18, q_X0_canAppend_19_b, q_X0_canAppend_19_0, q_X0_canAppend_19_1, nI_add, pI_le, pI_lt, pI_eq, pI_neg, pI_nn, pI_le0, pI_gt0, pI_eq0, xbV_s, xbU_s, if_true, if_false, bI_eq0, Nat.reduceAdd, Nat.reduceSub, Nat.reduceEqDiff, Nat.reduceLeDiff, Nat.reduceLT, Bool.true_eq_false, Bool.false_eq_true, a1, hr, hb]
  | false =>
    rw [Bool.false_or]
    by_cases r : sq S = 10
    · rw [decide_eq_true r] at hf
      rw [decide_eq_false (by omega), bI_f]
      simp (disch := omega) only [q_X0_canAppend_0, q_X0_canAppend_1, q_X0_canAppend_4, q_X0_canAppend_7, q_X0_canAppend_8, q_X0_canAppend_11, q_X0_canAppend_14, q_X0_canAppend_15, q_X0_canAppend_18, q_X0_canAppend_19_b, q_X0_canAppend_19_0, q_X0_canAppend_19_1, nI_add, pI_le, pI_lt, pI_eq, pI_neg, pI_nn, pI_le0, pI_gt0, pI_eq0, xbV_s, xbU_s, if_true, if_false, bI_eq0, Nat.reduceAdd, Nat.reduceSub, Nat.reduceEqDiff, Nat.reduceLeDiff, Nat.reduceLT, Bool.true_eq_false, Bool.false_eq_true, a1, hr, hb, hf]
    · rw [decide_eq_false r] at hf
      rw [decide_eq_true (by omega), bI_t]
      simp (disch := omega) only [q_X0_canAppend_0, q_X0_canAppend_1, q_X0_canAppend_4, q_X0_canAppend_7, q_X0_canAppend_8, q_X0_canAppend_11, q_X0_canAppend_14, q_X0_canAppend_15, q_X0_canAppend_18, q_X0_canAppend_19_b, q_X0_canAppend_19_0, q_X0_canAppend_19_1, nI_add, pI_le, pI_lt, pI_eq, pI_neg, pI_nn, pI_le0, pI_gt0, pI_eq0, xbV_s, xbU_s, if_true, if_false, bI_eq0, Nat.reduceAdd, Nat.reduceSub, Nat.reduceEqDiff, Nat.reduceLeDiff, Nat.reduceLT, Bool.true_eq_false, Bool.false_eq_true, a1, hr, hb, hf]
end PD
end P29
