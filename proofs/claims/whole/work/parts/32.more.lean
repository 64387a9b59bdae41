/-! ===== cut on the reference's side; the cost of a scan ===== -/
section P32
theorem s9_cut_l {m p k q : Nat} {l pn v : Nat → Nat} {I : xMem} (h1 : xK m = 10) (h2 : xL m = 142) (hq : q < 10) (hp : p < q) : ∀ d i (I1 : xMem), i = p + 1 + d → i ≤ q → xO m I I1 → I1 m 0 = I m 0 → I1 m 1 = I m 1 → (∀ j, j < i → j < q → I1 m (2 + j) = nI (l j) ∧ I1 m (12 + j) = nI (pn j)) → (∀ j, i < j → j ≤ q → I1 m (2 + j) = nI (l (j - 1)) ∧ I1 m (12 + j) = nI (pn (j - 1))) → (∀ j, I1 m (22 + j) = I m (22 + j)) → ∃ I', xgo k_X9_cutOn 4 [some (.ref m), some (.int (nI p)), some (.int (nI k)), some (.int (nI i))] [] I1 = xgo k_X9_cutOn 43 [some (.ref m), some (.int (nI p)), some (.int (nI k)), some (.int (nI (p + 1)))] [] I' ∧ xO m I I' ∧ I' m 0 = I m 0 ∧ I' m 1 = I m 1 ∧ (∀ j, j < p + 1 → I' m (2 + j) = nI (l j) ∧ I' m (12 + j) = nI (pn j)) ∧ (∀ j, p + 1 < j → j ≤ q → I' m (2 + j) = nI (l (j - 1)) ∧ I' m (12 + j) = nI (pn (j - 1))) ∧ (∀ j, I' m (22 + j) = I m (22 + j)) := by
  intro d
  induction d with
  | zero =>
    intro i I1 hi hiq hO a0 a1 a2 a3 a4
    have e : i = p + 1 := by omega
    subst e
    refine ⟨I1, ?_, hO, a0, a1, fun j hj => a2 j hj (by omega), a3, a4⟩
    rw [q_X9_cutOn_4]
    simp (disch := omega) only [q_X9_cutOn_5, q_X9_cutOn_6, q_X9_cutOn_7, q_X9_cutOn_8, q_X9_cutOn_11, q_X9_cutOn_12, q_X9_cutOn_13, q_X9_cutOn_14, q_X9_cutOn_15, q_X9_cutOn_16, q_X9_cutOn_17, q_X9_cutOn_18, q_X9_cutOn_19, q_X9_cutOn_20, q_X9_cutOn_21, q_X9_cutOn_22, q_X9_cutOn_23, q_X9_cutOn_24, q_X9_cutOn_26, q_X9_cutOn_27, q_X9_cutOn_28, q_X9_cutOn_29, q_X9_cutOn_31, q_X9_cutOn_32, q_X9_cutOn_33, q_X9_cutOn_34, q_X9_cutOn_35, q_X9_cutOn_36, q_X9_cutOn_37, q_X9_cutOn_40, nI_add, pI_le, pI_lt, pI_eq, pI_neg, pI_nn, pI_le0, pI_gt0, pI_eq0, xbV_s, xbU_s, if_true, if_false, bI_eq0, Nat.reduceAdd, Nat.reduceSub, Nat.reduceEqDiff, Nat.reduceLeDiff, Nat.reduceLT, Bool.true_eq_false, Bool.false_eq_true, Nat.le_refl]
  | succ d ih =>
    intro i I1 hi hiq hO a0 a1 a2 a3 a4
    have n1 : ¬ i ≤ p + 1 := by omega
    obtain ⟨g1, g2⟩ := a2 (i - 1) (by omega) (by omega)
    have e1 : nI (2 + i) - nI 1 = nI (2 + (i - 1)) := by rw [pI_sub (by omega)]; rw [show 2 + i - 1 = 2 + (i - 1) by omega]
    have e2 : nI (12 + i) - nI 1 = nI (12 + (i - 1)) := by rw [pI_sub (by omega)]; rw [show 12 + i - 1 = 12 + (i - 1) by omega]
    have e3 : nI i + -1 = nI (i - 1) := by
      rw [← pI_sub (show 1 ≤ i by omega), Int32.sub_eq_add_neg]
      rfl
    obtain ⟨I', f1, f2⟩ := ih (i - 1) (xup (xup I1 m (2 + i) (nI (l (i - 1)))) m (12 + i) (nI (pn (i - 1)))) (by omega) (by omega) hO.up.up (by rw [xup_d (by omega), xup_d (by omega)]; exact a0) (by rw [xup_d (by omega), xup_d (by omega)]; exact a1) (fun j hj hj2 => by
      rw [xup_d (by omega), xup_d (by omega), xup_d (by omega), xup_d (by omega)]
      exact a2 j (by omega) hj2) (fun j hj hj2 => by
      by_cases e : j = i
      · subst e
        rw [xup_d (by omega), xup_s, xup_s]
        exact ⟨rfl, rfl⟩
      · rw [xup_d (by omega), xup_d (by omega), xup_d (by omega), xup_d (by omega)]
        exact a3 j (by omega) hj2) (fun j => by rw [xup_d (by omega), xup_d (by omega)]; exact a4 j)
    refine ⟨I', ?_, f2⟩
    rw [q_X9_cutOn_4]
    simp (disch := omega) only [q_X9_cutOn_5, q_X9_cutOn_6, q_X9_cutOn_7, q_X9_cutOn_8, q_X9_cutOn_11, q_X9_cutOn_12, q_X9_cutOn_13, q_X9_cutOn_14, q_X9_cutOn_15, q_X9_cutOn_16, q_X9_cutOn_17, q_X9_cutOn_18, q_X9_cutOn_19, q_X9_cutOn_20, q_X9_cutOn_21, q_X9_cutOn_22, q_X9_cutOn_23, q_X9_cutOn_24, q_X9_cutOn_26, q_X9_cutOn_27, q_X9_cutOn_28, q_X9_cutOn_29, q_X9_cutOn_31, q_X9_cutOn_32, q_X9_cutOn_33, q_X9_cutOn_34, q_X9_cutOn_35, q_X9_cutOn_36, q_X9_cutOn_37, q_X9_cutOn_40, nI_add, pI_le, pI_lt, pI_eq, pI_neg, pI_nn, pI_le0, pI_gt0, pI_eq0, xbV_s, xbU_s, if_true, if_false, bI_eq0, Nat.reduceAdd, Nat.reduceSub, Nat.reduceEqDiff, Nat.reduceLeDiff, Nat.reduceLT, Bool.true_eq_false, Bool.false_eq_true, n1, h1, h2, e1, e2, e3, g1, g2, xup_d]
    exact f1
theorem s9_cutOn {m p k : Nat} {S : cS} {I : xMem} (h : mR I m S) (hW : sWF S) (hp : p < sq S) (hq : sq S < 10) (hk : k < sl S p) : ∃ I', f_X9_cutOn [.ref m, .int (nI p), .int (nI k)] I = some (.inl none, I') ∧ xO m I I' ∧ mR I' m (sCut S p k) := by
  obtain ⟨h1, h2, h3, h4, h5, h6, h7⟩ := h
  have hl := hW.2.2.1 p hp
  obtain ⟨I1, f1, f2, f3, f4, f5, f6, f7⟩ := s9_cut_l (k := k) (l := sl S) (pn := sp S) (v := sv S) (I := I) h1 h2 hq hp (sq S - (p + 1)) (sq S) I (by omega) (Nat.le_refl _) xO.rf rfl rfl (fun j hj _ => ⟨h5 j hj, h6 j hj⟩) (fun j hj hj2 => by omega) (fun j => rfl)
  obtain ⟨g1, g2⟩ := f5 p (by omega)
  have e1 : nI (sl S p) - nI k = nI (sl S p - k) := pI_sub (by omega)
  rw [h3] at f3
  refine ⟨xup (xup (xup (xup I1 m 0 (nI (sq S + 1))) m (2 + p + 1) (nI (sl S p - k))) m (2 + p) (nI k)) m (12 + p + 1) (nI (sp S p)), ?_, f2.up.up.up.up, h1, h2, ?_, ?_, fun j hj => ?_, fun j hj => ?_, fun j hj => ?_⟩
  · rw [e_X9_cutOn]
    simp (disch := omega) only [q_X9_cutOn_0, q_X9_cutOn_1, q_X9_cutOn_2, q_X9_cutOn_3, nI_add, pI_le, pI_lt, pI_eq, pI_neg, pI_nn, pI_le0, pI_gt0, pI_eq0, xbV_s, xbU_s, if_true, if_false, bI_eq0, Nat.reduceAdd, Nat.reduceSub, Nat.reduceEqDiff, Nat.reduceLeDiff, Nat.reduceLT, Bool.true_eq_false, Bool.false_eq_true, h1, h2, h3]
    rw [f1]
    simp (disch := omega) only [q_X9_cutOn_43, q_X9_cutOn_44, q_X9_cutOn_45, q_X9_cutOn_46, q_X9_cutOn_47, q_X9_cutOn_48, q_X9_cutOn_49, q_X9_cutOn_50, q_X9_cutOn_51, q_X9_cutOn_52, q_X9_cutOn_53, q_X9_cutOn_54, q_X9_cutOn_55, q_X9_cutOn_56, q_X9_cutOn_57, q_X9_cutOn_58, q_X9_cutOn_59, q_X9_cutOn_60, q_X9_cutOn_61, q_X9_cutOn_62, q_X9_cutOn_63, q_X9_cutOn_64, q_X9_cutOn_65, q_X9_cutOn_66, q_X9_cutOn_67, q_X9_cutOn_68, q_X9_cutOn_69, q_X9_cutOn_70, q_X9_cutOn_71, q_X9_cutOn_73, q_X9_cutOn_74, q_X9_cutOn_75, q_X9_cutOn_76, q_X9_cutOn_77, q_X9_cutOn_78, q_X9_cutOn_80, q_X9_cutOn_81, q_X9_cutOn_82, q_X9_cutOn_83, q_X9_cutOn_84, nI_add, pI_le, pI_lt, pI_eq, pI_neg, pI_nn, pI_le0, pI_gt0, pI_eq0, xbV_s, xbU_s, if_true, if_false, bI_eq0, Nat.reduceAdd, Nat.reduceSub, Nat.reduceEqDiff, Nat.reduceLeDiff, Nat.reduceLT, Bool.true_eq_false, Bool.false_eq_true, h1, h2, f3, g1, g2, e1, xup_d]
  · rw [xup_d (by omega), xup_d (by omega), xup_d (by omega), xup_s]; rfl
  · rw [xup_d (by omega), xup_d (by omega), xup_d (by omega), xup_d (by omega), f4]; exact h4
  · have hj : j < sq S + 1 := hj
    show xup _ m (12 + p + 1) _ m (2 + j) = nI (nin (nup (sl S) p k) (p + 1) (sl S p - k) j)
    unfold nin nup
    rw [xup_d (by omega)]
    by_cases e : j = p
    · rw [e, if_pos (by omega), if_pos rfl, xup_s]
    · by_cases e2 : j = p + 1
      · rw [if_neg (by omega), if_pos e2, xup_d (by omega), show 2 + j = 2 + p + 1 by omega, xup_s]
      · by_cases e3 : j < p + 1
        · rw [if_pos e3, if_neg e, xup_d (by omega), xup_d (by omega), xup_d (by omega)]
          exact (f5 j e3).1
        · rw [if_neg e3, if_neg e2, if_neg (by omega), xup_d (by omega), xup_d (by omega), xup_d (by omega)]
          exact (f6 j (by omega) (by omega)).1
  · have hj : j < sq S + 1 := hj
    show xup _ m (12 + p + 1) _ m (12 + j) = nI (nin (sp S) (p + 1) (sp S p) j)
    unfold nin
    by_cases e2 : j = p + 1
    · rw [if_neg (by omega), if_pos e2, show 12 + j = 12 + p + 1 by omega, xup_s]
    · by_cases e3 : j < p + 1
      · rw [if_pos e3, xup_d (by omega), xup_d (by omega), xup_d (by omega), xup_d (by omega)]
        exact (f5 j e3).2
      · rw [if_neg e3, if_neg e2, xup_d (by omega), xup_d (by omega), xup_d (by omega), xup_d (by omega)]
        exact (f6 j (by omega) (by omega)).2
  · rw [xup_d (by omega), xup_d (by omega), xup_d (by omega), xup_d (by omega), f7]
    exact h7 j hj
/-- what it costs to look through page p for v -/
def sCost (S : cS) (v p : Nat) : Nat := if v < pMn (sw S p) (sl S p) ∨ pMx (sw S p) (sl S p) < v then 1 else if sC S p = 1 then (if pFree (sw S p) v (sl S p) = true then 1 + pDiff (sw S p) (sl S p) else 2 + pWord (sw S p) v (sl S p) + sl S p) else 1 + (if sC S p = 2 then pRuns (sw S p) (sl S p) else sl S p)
theorem sC_le {S : cS} (hW : sWF S) {p : Nat} (hp : p < sq S) : sC S p ≤ 4 := pCod_le _ _ (hW.2.2.2.2.2 p hp)
theorem pWord_miss {w : Nat → Nat} {x n : Nat} (h : pFree w x n = true) : pWord w x n = pDiff w n := by
  unfold pWord
  rw [pPos_miss h]
theorem s9_cost {m p v : Nat} {S : cS} {I : xMem} (h : mR I m S) (hW : sWF S) (hp : p < sq S) (hv : v ≤ 1023) : f_X9_costOf [.ref m, .int (nI p), .int (nI v)] I = some (.inl (some (.int (nI (sCost S v p)))), I) := by
  have hP := h.page hW hp
  have hl := hW.2.2.1 p hp
  have h1 := h.1
  have h2 := h.2.1
  have h5 := h.2.2.2.2.1 p hp
  have hq := hW.1
  have hc := sC_le hW hp
  have b1 := pMn_le (sw S p) (sl S p)
  have b2 : pMx (sw S p) (sl S p) ≤ 1023 := pMx_le (sw_le hW hp)
  have b3 := pDiff_le (sw S p) (sl S p)
  rw [e_X9_costOf]
  unfold sCost
  by_cases q1 : v < pMn (sw S p) (sl S p)
  · rw [if_pos (Or.inl q1)]
    simp (disch := omega) only [q_X9_costOf_0, q_X9_costOf_2, q_X9_costOf_3, q_X9_costOf_4, q_X9_costOf_7, q_X9_costOf_8, q_X9_costOf_9, q_X9_costOf_10, q_X9_costOf_11, q_X9_costOf_12, q_X9_costOf_13, q_X9_costOf_14, q_X9_costOf_16, q_X9_costOf_17, q_X9_costOf_18, q_X9_costOf_19, q_X9_costOf_21, q_X9_costOf_24, q_X9_costOf_27, q_X9_costOf_28, q_X9_costOf_29, q_X9_costOf_30, q_X9_costOf_32, q_X9_costOf_35, q_X9_costOf_38, q_X9_costOf_39, q_X9_costOf_40, q_X9_costOf_41, q_X9_costOf_42, q_X9_costOf_45, q_X9_costOf_47, q_X9_costOf_49, q_X9_costOf_50, q_X9_costOf_53, q_X9_costOf_54, q_X9_costOf_55, q_X9_costOf_57, q_X9_costOf_60, q_X9_costOf_62, q_X9_costOf_63, q_X9_costOf_64, q_X9_costOf_66, q_X9_costOf_67, q_X9_costOf_70, q_X9_costOf_72, q_X9_costOf_74, q_X9_costOf_76, q_X9_costOf_79, q_X9_costOf_80, q_X9_costOf_82, q_X9_costOf_83, q_X9_costOf_86, q_X9_costOf_87, q_X9_costOf_89, q_X9_costOf_90, q_X9_costOf_92, q_X9_costOf_93, q_X9_costOf_94, q_X9_costOf_95, q_X9_costOf_97, q_X9_costOf_98, q_X9_costOf_101, q_X9_costOf_102, q_X9_costOf_103, q_X9_costOf_105, q_X9_costOf_108, q_X9_costOf_111, q_X9_costOf_113, q_X9_costOf_114, nI_add, pI_le, pI_lt, pI_eq, pI_neg, pI_nn, pI_le0, pI_gt0, pI_eq0, xbV_s, xbU_s, if_true, if_false, bI_eq0, Nat.reduceAdd, Nat.reduceSub, Nat.reduceEqDiff, Nat.reduceLeDiff, Nat.reduceLT, Bool.true_eq_false, Bool.false_eq_true, h1, h2, h5, s9_first h hW (Nat.le_of_lt hp), s9_smallest hP, s9_greatest hP, q1]
  · by_cases q2 : pMx (sw S p) (sl S p) < v
    · have q2' : ¬ v ≤ pMx (sw S p) (sl S p) := by omega
      rw [if_pos (Or.inr q2)]
      simp (disch := omega) only [q_X9_costOf_0, q_X9_costOf_2, q_X9_costOf_3, q_X9_costOf_4, q_X9_costOf_7, q_X9_costOf_8, q_X9_costOf_9, q_X9_costOf_10, q_X9_costOf_11, q_X9_costOf_12, q_X9_costOf_13, q_X9_costOf_14, q_X9_costOf_16, q_X9_costOf_17, q_X9_costOf_18, q_X9_costOf_19, q_X9_costOf_21, q_X9_costOf_24, q_X9_costOf_27, q_X9_costOf_28, q_X9_costOf_29, q_X9_costOf_30, q_X9_costOf_32, q_X9_costOf_35, q_X9_costOf_38, q_X9_costOf_39, q_X9_costOf_40, q_X9_costOf_41, q_X9_costOf_42, q_X9_costOf_45, q_X9_costOf_47, q_X9_costOf_49, q_X9_costOf_50, q_X9_costOf_53, q_X9_costOf_54, q_X9_costOf_55, q_X9_costOf_57, q_X9_costOf_60, q_X9_costOf_62, q_X9_costOf_63, q_X9_costOf_64, q_X9_costOf_66, q_X9_costOf_67, q_X9_costOf_70, q_X9_costOf_72, q_X9_costOf_74, q_X9_costOf_76, q_X9_costOf_79, q_X9_costOf_80, q_X9_costOf_82, q_X9_costOf_83, q_X9_costOf_86, q_X9_costOf_87, q_X9_costOf_89, q_X9_costOf_90, q_X9_costOf_92, q_X9_costOf_93, q_X9_costOf_94, q_X9_costOf_95, q_X9_costOf_97, q_X9_costOf_98, q_X9_costOf_101, q_X9_costOf_102, q_X9_costOf_103, q_X9_costOf_105, q_X9_costOf_108, q_X9_costOf_111, q_X9_costOf_113, q_X9_costOf_114, nI_add, pI_le, pI_lt, pI_eq, pI_neg, pI_nn, pI_le0, pI_gt0, pI_eq0, xbV_s, xbU_s, if_true, if_false, bI_eq0, Nat.reduceAdd, Nat.reduceSub, Nat.reduceEqDiff, Nat.reduceLeDiff, Nat.reduceLT, Bool.true_eq_false, Bool.false_eq_true, h1, h2, h5, s9_first h hW (Nat.le_of_lt hp), s9_smallest hP, s9_greatest hP, q1, q2']
    · have q2' : v ≤ pMx (sw S p) (sl S p) := by omega
      rw [if_neg (by omega)]
      by_cases q3 : sC S p = 1
      · rw [if_pos q3]
        cases q4 : pFree (sw S p) v (sl S p) with
        | true =>
          rw [if_pos rfl]
          have e := pWord_miss q4
          simp (disch := omega) only [q_X9_costOf_0, q_X9_costOf_2, q_X9_costOf_3, q_X9_costOf_4, q_X9_costOf_7, q_X9_costOf_8, q_X9_costOf_9, q_X9_costOf_10, q_X9_costOf_11, q_X9_costOf_12, q_X9_costOf_13, q_X9_costOf_14, q_X9_costOf_16, q_X9_costOf_17, q_X9_costOf_18, q_X9_costOf_19, q_X9_costOf_21, q_X9_costOf_24, q_X9_costOf_27, q_X9_costOf_28, q_X9_costOf_29, q_X9_costOf_30, q_X9_costOf_32, q_X9_costOf_35, q_X9_costOf_38, q_X9_costOf_39, q_X9_costOf_40, q_X9_costOf_41, q_X9_costOf_42, q_X9_costOf_45, q_X9_costOf_47, q_X9_costOf_49, q_X9_costOf_50, q_X9_costOf_53, q_X9_costOf_54, q_X9_costOf_55, q_X9_costOf_57, q_X9_costOf_60, q_X9_costOf_62, q_X9_costOf_63, q_X9_costOf_64, q_X9_costOf_66, q_X9_costOf_67, q_X9_costOf_70, q_X9_costOf_72, q_X9_costOf_74, q_X9_costOf_76, q_X9_costOf_79, q_X9_costOf_80, q_X9_costOf_82, q_X9_costOf_83, q_X9_costOf_86, q_X9_costOf_87, q_X9_costOf_89, q_X9_costOf_90, q_X9_costOf_92, q_X9_costOf_93, q_X9_costOf_94, q_X9_costOf_95, q_X9_costOf_97, q_X9_costOf_98, q_X9_costOf_101, q_X9_costOf_102, q_X9_costOf_103, q_X9_costOf_105, q_X9_costOf_108, q_X9_costOf_111, q_X9_costOf_113, q_X9_costOf_114, nI_add, pI_le, pI_lt, pI_eq, pI_neg, pI_nn, pI_le0, pI_gt0, pI_eq0, xbV_s, xbU_s, if_true, if_false, bI_eq0, Nat.reduceAdd, Nat.reduceSub, Nat.reduceEqDiff, Nat.reduceLeDiff, Nat.reduceLT, Bool.true_eq_false, Bool.false_eq_true, h1, h2, h5, s9_first h hW (Nat.le_of_lt hp), s9_smallest hP, s9_greatest hP, q1, q2', s9_cod h hW hp, q3, s9_diff hP, s9_word hP (by omega : v < 2147483648), e]
        | false =>
          rw [if_neg (by decide)]
          have e := pWord_lt q4
          have e2 : ¬ pWord (sw S p) v (sl S p) = pDiff (sw S p) (sl S p) := by omega
          simp (disch := omega) only [q_X9_costOf_0, q_X9_costOf_2, q_X9_costOf_3, q_X9_costOf_4, q_X9_costOf_7, q_X9_costOf_8, q_X9_costOf_9, q_X9_costOf_10, q_X9_costOf_11, q_X9_costOf_12, q_X9_costOf_13, q_X9_costOf_14, q_X9_costOf_16, q_X9_costOf_17, q_X9_costOf_18, q_X9_costOf_19, q_X9_costOf_21, q_X9_costOf_24, q_X9_costOf_27, q_X9_costOf_28, q_X9_costOf_29, q_X9_costOf_30, q_X9_costOf_32, q_X9_costOf_35, q_X9_costOf_38, q_X9_costOf_39, q_X9_costOf_40, q_X9_costOf_41, q_X9_costOf_42, q_X9_costOf_45, q_X9_costOf_47, q_X9_costOf_49, q_X9_costOf_50, q_X9_costOf_53, q_X9_costOf_54, q_X9_costOf_55, q_X9_costOf_57, q_X9_costOf_60, q_X9_costOf_62, q_X9_costOf_63, q_X9_costOf_64, q_X9_costOf_66, q_X9_costOf_67, q_X9_costOf_70, q_X9_costOf_72, q_X9_costOf_74, q_X9_costOf_76, q_X9_costOf_79, q_X9_costOf_80, q_X9_costOf_82, q_X9_costOf_83, q_X9_costOf_86, q_X9_costOf_87, q_X9_costOf_89, q_X9_costOf_90, q_X9_costOf_92, q_X9_costOf_93, q_X9_costOf_94, q_X9_costOf_95, q_X9_costOf_97, q_X9_costOf_98, q_X9_costOf_101, q_X9_costOf_102, q_X9_costOf_103, q_X9_costOf_105, q_X9_costOf_108, q_X9_costOf_111, q_X9_costOf_113, q_X9_costOf_114, nI_add, pI_le, pI_lt, pI_eq, pI_neg, pI_nn, pI_le0, pI_gt0, pI_eq0, xbV_s, xbU_s, if_true, if_false, bI_eq0, Nat.reduceAdd, Nat.reduceSub, Nat.reduceEqDiff, Nat.reduceLeDiff, Nat.reduceLT, Bool.true_eq_false, Bool.false_eq_true, h1, h2, h5, s9_first h hW (Nat.le_of_lt hp), s9_smallest hP, s9_greatest hP, q1, q2', s9_cod h hW hp, q3, s9_diff hP, s9_word hP (by omega : v < 2147483648), e2]
      · rw [if_neg q3]
        by_cases q5 : sC S p = 2
        · rw [if_pos q5]
          simp (disch := omega) only [q_X9_costOf_0, q_X9_costOf_2, q_X9_costOf_3, q_X9_costOf_4, q_X9_costOf_7, q_X9_costOf_8, q_X9_costOf_9, q_X9_costOf_10, q_X9_costOf_11, q_X9_costOf_12, q_X9_costOf_13, q_X9_costOf_14, q_X9_costOf_16, q_X9_costOf_17, q_X9_costOf_18, q_X9_costOf_19, q_X9_costOf_21, q_X9_costOf_24, q_X9_costOf_27, q_X9_costOf_28, q_X9_costOf_29, q_X9_costOf_30, q_X9_costOf_32, q_X9_costOf_35, q_X9_costOf_38, q_X9_costOf_39, q_X9_costOf_40, q_X9_costOf_41, q_X9_costOf_42, q_X9_costOf_45, q_X9_costOf_47, q_X9_costOf_49, q_X9_costOf_50, q_X9_costOf_53, q_X9_costOf_54, q_X9_costOf_55, q_X9_costOf_57, q_X9_costOf_60, q_X9_costOf_62, q_X9_costOf_63, q_X9_costOf_64, q_X9_costOf_66, q_X9_costOf_67, q_X9_costOf_70, q_X9_costOf_72, q_X9_costOf_74, q_X9_costOf_76, q_X9_costOf_79, q_X9_costOf_80, q_X9_costOf_82, q_X9_costOf_83, q_X9_costOf_86, q_X9_costOf_87, q_X9_costOf_89, q_X9_costOf_90, q_X9_costOf_92, q_X9_costOf_93, q_X9_costOf_94, q_X9_costOf_95, q_X9_costOf_97, q_X9_costOf_98, q_X9_costOf_101, q_X9_costOf_102, q_X9_costOf_103, q_X9_costOf_105, q_X9_costOf_108, q_X9_costOf_111, q_X9_costOf_113, q_X9_costOf_114, nI_add, pI_le, pI_lt, pI_eq, pI_neg, pI_nn, pI_le0, pI_gt0, pI_eq0, xbV_s, xbU_s, if_true, if_false, bI_eq0, Nat.reduceAdd, Nat.reduceSub, Nat.reduceEqDiff, Nat.reduceLeDiff, Nat.reduceLT, Bool.true_eq_false, Bool.false_eq_true, h1, h2, h5, s9_first h hW (Nat.le_of_lt hp), s9_smallest hP, s9_greatest hP, q1, q2', s9_cod h hW hp, q5, s9_runs hP hl.1]
        · rw [if_neg q5]
          simp (disch := omega) only [q_X9_costOf_0, q_X9_costOf_2, q_X9_costOf_3, q_X9_costOf_4, q_X9_costOf_7, q_X9_costOf_8, q_X9_costOf_9, q_X9_costOf_10, q_X9_costOf_11, q_X9_costOf_12, q_X9_costOf_13, q_X9_costOf_14, q_X9_costOf_16, q_X9_costOf_17, q_X9_costOf_18, q_X9_costOf_19, q_X9_costOf_21, q_X9_costOf_24, q_X9_costOf_27, q_X9_costOf_28, q_X9_costOf_29, q_X9_costOf_30, q_X9_costOf_32, q_X9_costOf_35, q_X9_costOf_38, q_X9_costOf_39, q_X9_costOf_40, q_X9_costOf_41, q_X9_costOf_42, q_X9_costOf_45, q_X9_costOf_47, q_X9_costOf_49, q_X9_costOf_50, q_X9_costOf_53, q_X9_costOf_54, q_X9_costOf_55, q_X9_costOf_57, q_X9_costOf_60, q_X9_costOf_62, q_X9_costOf_63, q_X9_costOf_64, q_X9_costOf_66, q_X9_costOf_67, q_X9_costOf_70, q_X9_costOf_72, q_X9_costOf_74, q_X9_costOf_76, q_X9_costOf_79, q_X9_costOf_80, q_X9_costOf_82, q_X9_costOf_83, q_X9_costOf_86, q_X9_costOf_87, q_X9_costOf_89, q_X9_costOf_90, q_X9_costOf_92, q_X9_costOf_93, q_X9_costOf_94, q_X9_costOf_95, q_X9_costOf_97, q_X9_costOf_98, q_X9_costOf_101, q_X9_costOf_102, q_X9_costOf_103, q_X9_costOf_105, q_X9_costOf_108, q_X9_costOf_111, q_X9_costOf_113, q_X9_costOf_114, nI_add, pI_le, pI_lt, pI_eq, pI_neg, pI_nn, pI_le0, pI_gt0, pI_eq0, xbV_s, xbU_s, if_true, if_false, bI_eq0, Nat.reduceAdd, Nat.reduceSub, Nat.reduceEqDiff, Nat.reduceLeDiff, Nat.reduceLT, Bool.true_eq_false, Bool.false_eq_true, h1, h2, h5, s9_first h hW (Nat.le_of_lt hp), s9_smallest hP, s9_greatest hP, q1, q2', s9_cod h hW hp, q3, q5]
theorem xsel2_1 {t d : Nat} : xsel2 (nI 1) [(1, t), (2, d)] 69 = t := rfl
theorem xsel2_2 {t d : Nat} : xsel2 (nI 2) [(1, t), (2, d)] 69 = d := rfl
theorem s0_search {a p v : Nat} {S : cS} {I : xMem} (hA : xCol a) (hM : cM I (a + 7) (sw S p) (sl S p)) (hW : sWF S) (hp : p < sq S) (hv : v ≤ 1023) (q : ¬ (v < pMn (sw S p) (sl S p) ∨ pMx (sw S p) (sl S p) < v)) : f_X0_searchCost [.ref a, .ref (a + 7), .int (xpn (sp S p)), .int (nI v)] I = some (.inl (some (.int (nI (sCost S v p - 1)))), I) := by
  have a9 := hA.2.2.2.2.2.2.2.2
  have k9 := a9.1
  have hl := hW.2.2.1 p hp
  have hpin := hW.2.2.2.2.2 p hp
  have hc := sC_le hW hp
  have h1 := hM.1
  have h2 := hM.2.1
  obtain ⟨f3, f4, f5, f6, f7, f8⟩ := hM.2.2.2.1 hl.1
  have b3 := pDiff_le (sw S p) (sl S p)
  have hcod := s2_cod a9 hM hl.1 hl.2 (sw_le hW hp) hpin
  have hcod : f_X2_codingWhen [.ref (a + 7), .int (xpn (sp S p))] I = some (.inl (some (.int (nI (sC S p)))), I) := hcod
  have hnum := s2_num (x := v) a9 hM hl.2 (sw_le hW hp) hv
  rw [e_X0_searchCost]
  unfold sCost
  rw [if_neg q]
  by_cases q3 : sC S p = 1
  · rw [if_pos q3]
    rw [q3] at hcod
    unfold xWn at hnum
    cases q4 : pFree (sw S p) v (sl S p) with
    | true =>
      rw [q4, if_pos rfl] at hnum
      rw [if_pos rfl]
      simp (disch := omega) only [q_X0_searchCost_0, q_X0_searchCost_1, q_X0_searchCost_2, q_X0_searchCost_5, q_X0_searchCost_32, q_X0_searchCost_33, q_X0_searchCost_34, q_X0_searchCost_37, q_X0_searchCost_39, q_X0_searchCost_41, q_X0_searchCost_44, q_X0_searchCost_47, q_X0_searchCost_48, q_X0_searchCost_51, q_X0_searchCost_54, q_X0_searchCost_56, q_X0_searchCost_57, q_X0_searchCost_58, q_X0_searchCost_59, q_X0_searchCost_62, q_X0_searchCost_63, q_X0_searchCost_64, q_X0_searchCost_65, q_X0_searchCost_68, q_X0_searchCost_69, q_X0_searchCost_70, q_X0_searchCost_73, nI_add, pI_le, pI_lt, pI_eq, pI_neg, pI_nn, pI_le0, pI_gt0, pI_eq0, xbV_s, xbU_s, if_true, if_false, bI_eq0, Nat.reduceAdd, Nat.reduceSub, Nat.reduceEqDiff, Nat.reduceLeDiff, Nat.reduceLT, Bool.true_eq_false, Bool.false_eq_true, k9, hcod, xsel2_1, hnum, h1]
      rw [Nat.add_sub_cancel_left]
    | false =>
      have e := pWord_lt q4
      rw [q4, if_neg (by decide)] at hnum
      rw [if_neg (by decide)]
      simp (disch := omega) only [q_X0_searchCost_0, q_X0_searchCost_1, q_X0_searchCost_2, q_X0_searchCost_5, q_X0_searchCost_32, q_X0_searchCost_33, q_X0_searchCost_34, q_X0_searchCost_37, q_X0_searchCost_39, q_X0_searchCost_41, q_X0_searchCost_44, q_X0_searchCost_47, q_X0_searchCost_48, q_X0_searchCost_51, q_X0_searchCost_54, q_X0_searchCost_56, q_X0_searchCost_57, q_X0_searchCost_58, q_X0_searchCost_59, q_X0_searchCost_62, q_X0_searchCost_63, q_X0_searchCost_64, q_X0_searchCost_65, q_X0_searchCost_68, q_X0_searchCost_69, q_X0_searchCost_70, q_X0_searchCost_73, nI_add, pI_le, pI_lt, pI_eq, pI_neg, pI_nn, pI_le0, pI_gt0, pI_eq0, xbV_s, xbU_s, if_true, if_false, bI_eq0, Nat.reduceAdd, Nat.reduceSub, Nat.reduceEqDiff, Nat.reduceLeDiff, Nat.reduceLT, Bool.true_eq_false, Bool.false_eq_true, k9, hcod, xsel2_1, hnum, h2, pI_ne9]
      rw [show pWord (sw S p) v (sl S p) + 1 + sl S p = 2 + pWord (sw S p) v (sl S p) + sl S p - 1 by omega]
  · rw [if_neg q3]
    by_cases q5 : sC S p = 2
    · rw [q5] at hcod
      rw [if_pos q5]
      simp (disch := omega) only [q_X0_searchCost_0, q_X0_searchCost_1, q_X0_searchCost_2, q_X0_searchCost_5, q_X0_searchCost_32, q_X0_searchCost_33, q_X0_searchCost_34, q_X0_searchCost_37, q_X0_searchCost_39, q_X0_searchCost_41, q_X0_searchCost_44, q_X0_searchCost_47, q_X0_searchCost_48, q_X0_searchCost_51, q_X0_searchCost_54, q_X0_searchCost_56, q_X0_searchCost_57, q_X0_searchCost_58, q_X0_searchCost_59, q_X0_searchCost_62, q_X0_searchCost_63, q_X0_searchCost_64, q_X0_searchCost_65, q_X0_searchCost_68, q_X0_searchCost_69, q_X0_searchCost_70, q_X0_searchCost_73, nI_add, pI_le, pI_lt, pI_eq, pI_neg, pI_nn, pI_le0, pI_gt0, pI_eq0, xbV_s, xbU_s, if_true, if_false, bI_eq0, Nat.reduceAdd, Nat.reduceSub, Nat.reduceEqDiff, Nat.reduceLeDiff, Nat.reduceLT, Bool.true_eq_false, Bool.false_eq_true, k9, hcod, xsel2_2, f6]
      rw [Nat.add_sub_cancel_left]
    · rw [if_neg q5]
      have e : xsel2 (nI (sC S p)) [(1, 32), (2, 64)] 69 = 69 := by
        have key : ∀ c, c ≤ 4 → c ≠ 1 → c ≠ 2 → xsel2 (nI c) [(1, 32), (2, 64)] 69 = 69 := by decide
        exact key _ hc q3 q5
      simp (disch := omega) only [q_X0_searchCost_0, q_X0_searchCost_1, q_X0_searchCost_2, q_X0_searchCost_5, q_X0_searchCost_32, q_X0_searchCost_33, q_X0_searchCost_34, q_X0_searchCost_37, q_X0_searchCost_39, q_X0_searchCost_41, q_X0_searchCost_44, q_X0_searchCost_47, q_X0_searchCost_48, q_X0_searchCost_51, q_X0_searchCost_54, q_X0_searchCost_56, q_X0_searchCost_57, q_X0_searchCost_58, q_X0_searchCost_59, q_X0_searchCost_62, q_X0_searchCost_63, q_X0_searchCost_64, q_X0_searchCost_65, q_X0_searchCost_68, q_X0_searchCost_69, q_X0_searchCost_70, q_X0_searchCost_73, nI_add, pI_le, pI_lt, pI_eq, pI_neg, pI_nn, pI_le0, pI_gt0, pI_eq0, xbV_s, xbU_s, if_true, if_false, bI_eq0, Nat.reduceAdd, Nat.reduceSub, Nat.reduceEqDiff, Nat.reduceLeDiff, Nat.reduceLT, Bool.true_eq_false, Bool.false_eq_true, k9, hcod, e, h2]
      rw [Nat.add_sub_cancel_left]
theorem sCost_pos (S : cS) (v p : Nat) : 1 ≤ sCost S v p := by
  unfold sCost
  split
  · omega
  · split
    · split <;> omega
    · omega
theorem s0_scan_l {a v : Nat} {S : cS} {I : xMem} (hA : xCol a) (hW : sWF S) (hv : v ≤ 1023) : ∀ d k (I1 : xMem) (l : Option Value), k + d = sq S → zG (a + 7) 2 I I1 → cR I1 a S → ∃ I', xgo k_X0_scanCost 4 [some (.ref a), some (.int (nI v)), some (.int (nI (xsum (sCost S v) k))), some (.int (nI k)), l] [] I1 = some (.inl (some (.int (nI (xsum (sCost S v) (sq S))))), I') ∧ zG (a + 7) 2 I I' ∧ cR I' a S := by
  have a1 := hA.1
  have a9 := hA.2.2.2.2.2.2.2.2
  have k9 := a9.1
  have hq := hW.1
  intro d
  induction d with
  | zero =>
    intro k I1 l hk hG h
    have e : k = sq S := by omega
    have h1 := h.2.1
    rw [e]
    refine ⟨I1, ?_, hG, h⟩
    rw [q_X0_scanCost_4]
    simp (disch := omega) only [q_X0_scanCost_0, q_X0_scanCost_1, q_X0_scanCost_2, q_X0_scanCost_3, q_X0_scanCost_5, q_X0_scanCost_6, q_X0_scanCost_9, q_X0_scanCost_12, q_X0_scanCost_13, q_X0_scanCost_14, q_X0_scanCost_17, q_X0_scanCost_19, q_X0_scanCost_22, q_X0_scanCost_23, q_X0_scanCost_25, q_X0_scanCost_28, q_X0_scanCost_31, q_X0_scanCost_32, q_X0_scanCost_34, q_X0_scanCost_37, q_X0_scanCost_40, q_X0_scanCost_41, q_X0_scanCost_42, q_X0_scanCost_44, q_X0_scanCost_45, q_X0_scanCost_46, q_X0_scanCost_49, q_X0_scanCost_50, q_X0_scanCost_53, q_X0_scanCost_54, q_X0_scanCost_55, q_X0_scanCost_58, q_X0_scanCost_61, q_X0_scanCost_62, nI_add, pI_le, pI_lt, pI_eq, pI_neg, pI_nn, pI_le0, pI_gt0, pI_eq0, xbV_s, xbU_s, if_true, if_false, bI_eq0, Nat.reduceAdd, Nat.reduceSub, Nat.reduceEqDiff, Nat.reduceLeDiff, Nat.reduceLT, Bool.true_eq_false, Bool.false_eq_true, a1, h1, Nat.le_refl]
  | succ d ih =>
    intro k I1 l hk hG h
    have hp : k < sq S := by omega
    have h1 := h.2.1
    have n1 : ¬ sq S ≤ k := by omega
    have hl := hW.2.2.1 k hp
    obtain ⟨I2, g1, g2, g3, g4⟩ := s0_meas hA h hW hp
    obtain ⟨f3, f4, f5, f6, f7, f8⟩ := g3.2.2.2.1 hl.1
    have b1 := pMn_le (sw S k) (sl S k)
    have b2 : pMx (sw S k) (sl S k) ≤ 1023 := pMx_le (sw_le hW hp)
    obtain ⟨I', j1, j2, j3⟩ := ih (k + 1) I2 (some (.ref (a + 7))) (by omega) (hG.tr g2) g4
    have hpos := sCost_pos S v k
    refine ⟨I', ?_, j2, j3⟩
    rw [q_X0_scanCost_4]
    by_cases q1 : v < pMn (sw S k) (sl S k)
    · have e : sCost S v k = 1 := by unfold sCost; rw [if_pos (Or.inl q1)]
      rw [xsum_s, e] at j1
      simp (disch := omega) only [q_X0_scanCost_0, q_X0_scanCost_1, q_X0_scanCost_2, q_X0_scanCost_3, q_X0_scanCost_5, q_X0_scanCost_6, q_X0_scanCost_9, q_X0_scanCost_12, q_X0_scanCost_13, q_X0_scanCost_14, q_X0_scanCost_17, q_X0_scanCost_19, q_X0_scanCost_22, q_X0_scanCost_23, q_X0_scanCost_25, q_X0_scanCost_28, q_X0_scanCost_31, q_X0_scanCost_32, q_X0_scanCost_34, q_X0_scanCost_37, q_X0_scanCost_40, q_X0_scanCost_41, q_X0_scanCost_42, q_X0_scanCost_44, q_X0_scanCost_45, q_X0_scanCost_46, q_X0_scanCost_49, q_X0_scanCost_50, q_X0_scanCost_53, q_X0_scanCost_54, q_X0_scanCost_55, q_X0_scanCost_58, q_X0_scanCost_61, q_X0_scanCost_62, nI_add, pI_le, pI_lt, pI_eq, pI_neg, pI_nn, pI_le0, pI_gt0, pI_eq0, xbV_s, xbU_s, if_true, if_false, bI_eq0, Nat.reduceAdd, Nat.reduceSub, Nat.reduceEqDiff, Nat.reduceLeDiff, Nat.reduceLT, Bool.true_eq_false, Bool.false_eq_true, a1, k9, h1, n1, g1, f4, q1]
      exact j1
    · by_cases q2 : pMx (sw S k) (sl S k) < v
      · have e : sCost S v k = 1 := by unfold sCost; rw [if_pos (Or.inr q2)]
        rw [xsum_s, e] at j1
        simp (disch := omega) only [q_X0_scanCost_0, q_X0_scanCost_1, q_X0_scanCost_2, q_X0_scanCost_3, q_X0_scanCost_5, q_X0_scanCost_6, q_X0_scanCost_9, q_X0_scanCost_12, q_X0_scanCost_13, q_X0_scanCost_14, q_X0_scanCost_17, q_X0_scanCost_19, q_X0_scanCost_22, q_X0_scanCost_23, q_X0_scanCost_25, q_X0_scanCost_28, q_X0_scanCost_31, q_X0_scanCost_32, q_X0_scanCost_34, q_X0_scanCost_37, q_X0_scanCost_40, q_X0_scanCost_41, q_X0_scanCost_42, q_X0_scanCost_44, q_X0_scanCost_45, q_X0_scanCost_46, q_X0_scanCost_49, q_X0_scanCost_50, q_X0_scanCost_53, q_X0_scanCost_54, q_X0_scanCost_55, q_X0_scanCost_58, q_X0_scanCost_61, q_X0_scanCost_62, nI_add, pI_le, pI_lt, pI_eq, pI_neg, pI_nn, pI_le0, pI_gt0, pI_eq0, xbV_s, xbU_s, if_true, if_false, bI_eq0, Nat.reduceAdd, Nat.reduceSub, Nat.reduceEqDiff, Nat.reduceLeDiff, Nat.reduceLT, Bool.true_eq_false, Bool.false_eq_true, a1, k9, h1, n1, g1, f4, f5, q1, q2]
        exact j1
      · rw [xsum_s] at j1
        rw [show xsum (sCost S v) k + sCost S v k = xsum (sCost S v) k + 1 + (sCost S v k - 1) by omega] at j1
        simp (disch := omega) only [q_X0_scanCost_0, q_X0_scanCost_1, q_X0_scanCost_2, q_X0_scanCost_3, q_X0_scanCost_5, q_X0_scanCost_6, q_X0_scanCost_9, q_X0_scanCost_12, q_X0_scanCost_13, q_X0_scanCost_14, q_X0_scanCost_17, q_X0_scanCost_19, q_X0_scanCost_22, q_X0_scanCost_23, q_X0_scanCost_25, q_X0_scanCost_28, q_X0_scanCost_31, q_X0_scanCost_32, q_X0_scanCost_34, q_X0_scanCost_37, q_X0_scanCost_40, q_X0_scanCost_41, q_X0_scanCost_42, q_X0_scanCost_44, q_X0_scanCost_45, q_X0_scanCost_46, q_X0_scanCost_49, q_X0_scanCost_50, q_X0_scanCost_53, q_X0_scanCost_54, q_X0_scanCost_55, q_X0_scanCost_58, q_X0_scanCost_61, q_X0_scanCost_62, nI_add, pI_le, pI_lt, pI_eq, pI_neg, pI_nn, pI_le0, pI_gt0, pI_eq0, xbV_s, xbU_s, if_true, if_false, bI_eq0, Nat.reduceAdd, Nat.reduceSub, Nat.reduceEqDiff, Nat.reduceLeDiff, Nat.reduceLT, Bool.true_eq_false, Bool.false_eq_true, a1, k9, h1, n1, g1, f4, f5, q1, q2, s0_pinOf hA g4 hW hp, s0_search hA g3 hW hp hv (by omega)]
        exact j1
theorem s0_scan {a v : Nat} {S : cS} {I : xMem} (hA : xCol a) (h : cR I a S) (hW : sWF S) (hv : v ≤ 1023) : ∃ I', f_X0_scanCost [.ref a, .int (nI v)] I = some (.inl (some (.int (nI (xsum (sCost S v) (sq S))))), I') ∧ zG (a + 7) 2 I I' ∧ cR I' a S := by
  obtain ⟨I', h1, h2, h3⟩ := s0_scan_l (I := I) hA hW hv (sq S) 0 I none (by omega) zG.rf h
  refine ⟨I', ?_, h2, h3⟩
  rw [e_X0_scanCost]
  simp only [q_X0_scanCost_0, q_X0_scanCost_1, q_X0_scanCost_2, q_X0_scanCost_3]
  exact h1
theorem s9_refused {k : Nat} {I : xMem} (hk : k ≤ 3) : f_X9_refused [.ref 189, .int (nI k)] I = some (.inl (some (.int (bI (decide (0 < k))))), xup I 189 0 (nI k)) := by
  have x9 := x189
  rw [e_X9_refused]
  by_cases e : k = 0
  · subst e
    simp (disch := omega) only [q_X9_refused_0, q_X9_refused_1, q_X9_refused_2, q_X9_refused_5, q_X9_refused_6, q_X9_refused_9, q_X9_refused_10, q_X9_refused_13, q_X9_refused_14_b, q_X9_refused_14_0, q_X9_refused_14_1, nI_add, pI_le, pI_lt, pI_eq, pI_neg, pI_nn, pI_le0, pI_gt0, pI_eq0, xbV_s, xbU_s, if_true, if_false, bI_eq0, Nat.reduceAdd, Nat.reduceSub, Nat.reduceEqDiff, Nat.reduceLeDiff, Nat.reduceLT, Bool.true_eq_false, Bool.false_eq_true, x9]
    rfl
  · rw [decide_eq_true (by omega), bI_t]
    simp (disch := omega) only [q_X9_refused_0, q_X9_refused_1, q_X9_refused_2, q_X9_refused_5, q_X9_refused_6, q_X9_refused_9, q_X9_refused_10, q_X9_refused_13, q_X9_refused_14_b, q_X9_refused_14_0, q_X9_refused_14_1, nI_add, pI_le, pI_lt, pI_eq, pI_neg, pI_nn, pI_le0, pI_gt0, pI_eq0, xbV_s, xbU_s, if_true, if_false, bI_eq0, Nat.reduceAdd, Nat.reduceSub, Nat.reduceEqDiff, Nat.reduceLeDiff, Nat.reduceLT, Bool.true_eq_false, Bool.false_eq_true, x9, e]
end P32
