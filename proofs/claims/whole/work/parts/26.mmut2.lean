/-! ===== the reference: remove, cut, merge, compact ===== -/
section P26
theorem s9_rem_l {m i p was : Nat} {q lim n : Nat} {l pn v : Nat → Nat} {I : xMem} (h1 : xK m = 10) (h2 : xL m = 142) (hn : n ≤ 120) (hn0 : 0 < n) (hq : q ≤ 10) : ∀ d k (I' : xMem), k + d = n - 1 → i ≤ k → xO m I I' → mX I' m q lim q l q pn n (fun j => if j < k then nrm v i j else v j) → ∃ I'', xgo k_X9_removeOn 22 [some (.ref m), some (.int (nI i)), some (.int (nI p)), some (.int (nI was)), some (.int (nI n)), some (.int (nI k))] [] I' = xgo k_X9_removeOn 53 [some (.ref m), some (.int (nI i)), some (.int (nI p)), some (.int (nI was)), some (.int (nI n)), some (.int (nI (n - 1)))] [] I'' ∧ xO m I I'' ∧ mX I'' m q lim q l q pn (n - 1) (nrm v i) := by
  intro d
  induction d with
  | zero =>
    intro k I' hk hik hO hX
    have e : k = n - 1 := by omega
    subst e
    refine ⟨I', ?_, hO, mX_cg hX (fun j hj => ⟨hj, rfl⟩) (fun j hj => ⟨hj, rfl⟩) (fun j hj => ⟨by omega, by rw [if_pos hj]⟩)⟩
    rw [q_X9_removeOn_22]
    simp (disch := omega) only [q_X9_removeOn_24, q_X9_removeOn_26, q_X9_removeOn_27, q_X9_removeOn_28, nI_add, pI_le, pI_lt, pI_eq, pI_neg, pI_nn, pI_le0, pI_gt0, pI_eq0, xbV_s, xbU_s, if_true, if_false, bI_eq0, Nat.reduceAdd, Nat.reduceSub, Nat.reduceEqDiff, Nat.reduceLeDiff, Nat.reduceLT, Bool.true_eq_false, Bool.false_eq_true, pI_sub, Nat.le_refl]
  | succ d ih =>
    intro k I' hk hik hO hX
    have g1 := hX.2.2.2.2 (k + 1) (by omega)
    dsimp only at g1
    rw [if_neg (show ¬ k + 1 < k by omega)] at g1
    have e1 : 22 + (k + 1) = 22 + k + 1 := by omega
    rw [e1] at g1
    have hn9 : ¬ n - 1 ≤ k := by omega
    have hX2 := mX_v hX (i := k) n (v (k + 1)) (fun j hj _ => hj) hq hq
    obtain ⟨I'', h3, h4, h5⟩ := ih (k + 1) (xup I' m (22 + k) (nI (v (k + 1)))) (by omega) (by omega) hO.up (mX_cg hX2 (fun j hj => ⟨hj, rfl⟩) (fun j hj => ⟨hj, rfl⟩) (fun j hj => ⟨hj, nrm_step hik⟩))
    refine ⟨I'', ?_, h4, h5⟩
    rw [q_X9_removeOn_22]
    simp (disch := omega) only [q_X9_removeOn_24, q_X9_removeOn_26, q_X9_removeOn_27, q_X9_removeOn_28, q_X9_removeOn_31, q_X9_removeOn_32, q_X9_removeOn_34, q_X9_removeOn_36, q_X9_removeOn_37, q_X9_removeOn_38, q_X9_removeOn_40, q_X9_removeOn_42, q_X9_removeOn_43, q_X9_removeOn_44, q_X9_removeOn_45, q_X9_removeOn_46, q_X9_removeOn_47, q_X9_removeOn_50, nI_add, pI_le, pI_lt, pI_eq, pI_neg, pI_nn, pI_le0, pI_gt0, pI_eq0, xbV_s, xbU_s, if_true, if_false, bI_eq0, Nat.reduceAdd, Nat.reduceSub, Nat.reduceEqDiff, Nat.reduceLeDiff, Nat.reduceLT, Bool.true_eq_false, Bool.false_eq_true, h1, h2, hn9, g1, pI_sub]
    exact h3
theorem s9_remove {m i p : Nat} {S : cS} {I : xMem} (h : mR I m S) (hW : sWF S) (hi : i < sn S) (hp : p < sq S) (h8 : sF S p ≤ i) (h9 : i < sF S (p + 1)) : ∃ I', f_X9_removeOn [.ref m, .int (nI i)] I = some (.inl (some (.int (nI (sv S i)))), I') ∧ xO m I I' ∧ mR I' m (sRem S i p) := by
  have h1 := h.1
  have h2 := h.2.1
  have hq := hW.1
  have hn := sn_120 hW
  have hl := hW.2.2.1 p hp
  have g0 := h.2.2.2.2.2.2 i hi
  obtain ⟨I1, h3, h4, h5⟩ := s9_rem_l (i := i) (p := p) (was := sv S i) (v := sv S) (I := I) h1 h2 hn (by omega) hq (sn S - 1 - i) i I (by omega) (Nat.le_refl _) xO.rf (mX_cg (mX.of h) (fun j hj => ⟨hj, rfl⟩) (fun j hj => ⟨hj, rfl⟩) (fun j hj => ⟨hj, nrm_start⟩))
  have g1 := h5.2.2.1 p hp
  have e : nI (sl S p) - nI 1 = nI (sl S p - 1) := pI_sub (by omega)
  unfold sRem
  by_cases r : sl S p = 1
  · rw [if_pos r]
    have hX2 := mX_l h5 (p := p) (sq S) 0 (by omega) (fun j hj _ => hj) hq
    rw [show sq S = sq S - 1 + 1 by omega] at hX2
    obtain ⟨I2, h6, h7, h10⟩ := s9_cutPage (p := p) h1 h2 (by omega) (by omega) hX2
    refine ⟨I2, ?_, h4.up.tr h7, mX.to h1 h2 h10⟩
    rw [e_X9_removeOn]
    simp (disch := omega) only [q_X9_removeOn_0, q_X9_removeOn_1, q_X9_removeOn_2, q_X9_removeOn_5, q_X9_removeOn_6, q_X9_removeOn_7, q_X9_removeOn_9, q_X9_removeOn_10, q_X9_removeOn_11, q_X9_removeOn_12, q_X9_removeOn_13, q_X9_removeOn_14, q_X9_removeOn_17, q_X9_removeOn_19, q_X9_removeOn_20, q_X9_removeOn_24, q_X9_removeOn_26, q_X9_removeOn_27, q_X9_removeOn_28, q_X9_removeOn_31, q_X9_removeOn_32, q_X9_removeOn_34, q_X9_removeOn_36, q_X9_removeOn_37, q_X9_removeOn_38, q_X9_removeOn_40, q_X9_removeOn_42, q_X9_removeOn_43, q_X9_removeOn_44, q_X9_removeOn_45, q_X9_removeOn_46, q_X9_removeOn_47, q_X9_removeOn_50, q_X9_removeOn_53, q_X9_removeOn_54, q_X9_removeOn_55, q_X9_removeOn_56, q_X9_removeOn_57, q_X9_removeOn_58, q_X9_removeOn_59, q_X9_removeOn_60, q_X9_removeOn_61, q_X9_removeOn_62, q_X9_removeOn_63, q_X9_removeOn_64, q_X9_removeOn_65, q_X9_removeOn_66, q_X9_removeOn_67, q_X9_removeOn_70, q_X9_removeOn_71, q_X9_removeOn_72, q_X9_removeOn_75, q_X9_removeOn_76, nI_add, pI_le, pI_lt, pI_eq, pI_neg, pI_nn, pI_le0, pI_gt0, pI_eq0, xbV_s, xbU_s, if_true, if_false, bI_eq0, Nat.reduceAdd, Nat.reduceSub, Nat.reduceEqDiff, Nat.reduceLeDiff, Nat.reduceLT, Bool.true_eq_false, Bool.false_eq_true, h1, h2, s9_pageOf h hW hp h8 h9, s9_values h hW, g0]
    rw [h3]
    rw [r] at e g1
    simp (disch := omega) only [q_X9_removeOn_0, q_X9_removeOn_1, q_X9_removeOn_2, q_X9_removeOn_5, q_X9_removeOn_6, q_X9_removeOn_7, q_X9_removeOn_9, q_X9_removeOn_10, q_X9_removeOn_11, q_X9_removeOn_12, q_X9_removeOn_13, q_X9_removeOn_14, q_X9_removeOn_17, q_X9_removeOn_19, q_X9_removeOn_20, q_X9_removeOn_24, q_X9_removeOn_26, q_X9_removeOn_27, q_X9_removeOn_28, q_X9_removeOn_31, q_X9_removeOn_32, q_X9_removeOn_34, q_X9_removeOn_36, q_X9_removeOn_37, q_X9_removeOn_38, q_X9_removeOn_40, q_X9_removeOn_42, q_X9_removeOn_43, q_X9_removeOn_44, q_X9_removeOn_45, q_X9_removeOn_46, q_X9_removeOn_47, q_X9_removeOn_50, q_X9_removeOn_53, q_X9_removeOn_54, q_X9_removeOn_55, q_X9_removeOn_56, q_X9_removeOn_57, q_X9_removeOn_58, q_X9_removeOn_59, q_X9_removeOn_60, q_X9_removeOn_61, q_X9_removeOn_62, q_X9_removeOn_63, q_X9_removeOn_64, q_X9_removeOn_65, q_X9_removeOn_66, q_X9_removeOn_67, q_X9_removeOn_70, q_X9_removeOn_71, q_X9_removeOn_72, q_X9_removeOn_75, q_X9_removeOn_76, nI_add, pI_le, pI_lt, pI_eq, pI_neg, pI_nn, pI_le0, pI_gt0, pI_eq0, xbV_s, xbU_s, if_true, if_false, bI_eq0, Nat.reduceAdd, Nat.reduceSub, Nat.reduceEqDiff, Nat.reduceLeDiff, Nat.reduceLT, Bool.true_eq_false, Bool.false_eq_true, h1, h2, g1, e, xup_s, h6]
  · rw [if_neg r]
    have r2 : ¬ sl S p - 1 = 0 := by omega
    have hX2 := mX_l h5 (p := p) (sq S) (sl S p - 1) (by omega) (fun j hj _ => hj) hq
    refine ⟨xup I1 m (2 + p) (nI (sl S p - 1)), ?_, h4.up, mX.to h1 h2 hX2⟩
    rw [e_X9_removeOn]
    simp (disch := omega) only [q_X9_removeOn_0, q_X9_removeOn_1, q_X9_removeOn_2, q_X9_removeOn_5, q_X9_removeOn_6, q_X9_removeOn_7, q_X9_removeOn_9, q_X9_removeOn_10, q_X9_removeOn_11, q_X9_removeOn_12, q_X9_removeOn_13, q_X9_removeOn_14, q_X9_removeOn_17, q_X9_removeOn_19, q_X9_removeOn_20, q_X9_removeOn_24, q_X9_removeOn_26, q_X9_removeOn_27, q_X9_removeOn_28, q_X9_removeOn_31, q_X9_removeOn_32, q_X9_removeOn_34, q_X9_removeOn_36, q_X9_removeOn_37, q_X9_removeOn_38, q_X9_removeOn_40, q_X9_removeOn_42, q_X9_removeOn_43, q_X9_removeOn_44, q_X9_removeOn_45, q_X9_removeOn_46, q_X9_removeOn_47, q_X9_removeOn_50, q_X9_removeOn_53, q_X9_removeOn_54, q_X9_removeOn_55, q_X9_removeOn_56, q_X9_removeOn_57, q_X9_removeOn_58, q_X9_removeOn_59, q_X9_removeOn_60, q_X9_removeOn_61, q_X9_removeOn_62, q_X9_removeOn_63, q_X9_removeOn_64, q_X9_removeOn_65, q_X9_removeOn_66, q_X9_removeOn_67, q_X9_removeOn_70, q_X9_removeOn_71, q_X9_removeOn_72, q_X9_removeOn_75, q_X9_removeOn_76, nI_add, pI_le, pI_lt, pI_eq, pI_neg, pI_nn, pI_le0, pI_gt0, pI_eq0, xbV_s, xbU_s, if_true, if_false, bI_eq0, Nat.reduceAdd, Nat.reduceSub, Nat.reduceEqDiff, Nat.reduceLeDiff, Nat.reduceLT, Bool.true_eq_false, Bool.false_eq_true, h1, h2, s9_pageOf h hW hp h8 h9, s9_values h hW, g0]
    rw [h3]
    simp (disch := omega) only [q_X9_removeOn_0, q_X9_removeOn_1, q_X9_removeOn_2, q_X9_removeOn_5, q_X9_removeOn_6, q_X9_removeOn_7, q_X9_removeOn_9, q_X9_removeOn_10, q_X9_removeOn_11, q_X9_removeOn_12, q_X9_removeOn_13, q_X9_removeOn_14, q_X9_removeOn_17, q_X9_removeOn_19, q_X9_removeOn_20, q_X9_removeOn_24, q_X9_removeOn_26, q_X9_removeOn_27, q_X9_removeOn_28, q_X9_removeOn_31, q_X9_removeOn_32, q_X9_removeOn_34, q_X9_removeOn_36, q_X9_removeOn_37, q_X9_removeOn_38, q_X9_removeOn_40, q_X9_removeOn_42, q_X9_removeOn_43, q_X9_removeOn_44, q_X9_removeOn_45, q_X9_removeOn_46, q_X9_removeOn_47, q_X9_removeOn_50, q_X9_removeOn_53, q_X9_removeOn_54, q_X9_removeOn_55, q_X9_removeOn_56, q_X9_removeOn_57, q_X9_removeOn_58, q_X9_removeOn_59, q_X9_removeOn_60, q_X9_removeOn_61, q_X9_removeOn_62, q_X9_removeOn_63, q_X9_removeOn_64, q_X9_removeOn_65, q_X9_removeOn_66, q_X9_removeOn_67, q_X9_removeOn_70, q_X9_removeOn_71, q_X9_removeOn_72, q_X9_removeOn_75, q_X9_removeOn_76, nI_add, pI_le, pI_lt, pI_eq, pI_neg, pI_nn, pI_le0, pI_gt0, pI_eq0, xbV_s, xbU_s, if_true, if_false, bI_eq0, Nat.reduceAdd, Nat.reduceSub, Nat.reduceEqDiff, Nat.reduceLeDiff, Nat.reduceLT, Bool.true_eq_false, Bool.false_eq_true, h1, h2, g1, e, xup_s, r2]
def xRg (y : Int32) (n : Nat) : Bool := decide (1 ≤ y.toInt ∧ y.toInt < n)
theorem xRg_in64 {x : Int32} {n : Nat} (hn : n < 1000000) : decide ((1 : Int64).toInt ≤ x.toInt64.toInt ∧ x.toInt64.toInt ≤ (nI n - nI 1).toInt64.toInt) = xRg x n := by
  rw [Int32.toInt_toInt64, Int32.toInt_toInt64, pk_sub_toInt (by omega) (by omega)]
  unfold xRg
  rw [show (1 : Int64).toInt = 1 from rfl]
  by_cases q : 1 ≤ x.toInt ∧ x.toInt < (n : Int)
  · rw [decide_eq_true q, decide_eq_true (by omega)]
  · rw [decide_eq_false q, decide_eq_false (by omega)]
theorem xRg_ex {x : Int32} {n : Nat} (h : xRg x n = true) (hn : n < 2147483648) : ∃ j, 1 ≤ j ∧ j < n ∧ x = nI j := by
  unfold xRg at h
  have h := of_decide_eq_true h
  refine ⟨x.toInt.toNat, by omega, by omega, ?_⟩
  apply Int32.toInt_inj.mp
  rw [nI_toInt (by omega)]
  omega
theorem xRg_nI {j n : Nat} (h : j < 2147483648) : xRg (nI j) n = decide (1 ≤ j ∧ j < n) := by
  unfold xRg
  rw [nI_toInt h]
  by_cases q : 1 ≤ j ∧ j < n
  · rw [decide_eq_true q, decide_eq_true]; omega
  · rw [decide_eq_false q, decide_eq_false]; omega
theorem s9_whyCut0 {m : Nat} {x y : Int32} {S : cS} {I : xMem} (h : mR I m S) (hW : sWF S) (hx : xLt x (sq S) = false) : f_X9_whyNotCut [.ref m, .int x, .int y] I = some (.inl (some (.int (nI 1))), I) := by
  rw [e_X9_whyNotCut]
  simp (disch := omega) only [q_X9_whyNotCut_0, q_X9_whyNotCut_1, q_X9_whyNotCut_2, q_X9_whyNotCut_5, q_X9_whyNotCut_8, q_X9_whyNotCut_9, q_X9_whyNotCut_12, q_X9_whyNotCut_13, q_X9_whyNotCut_14, q_X9_whyNotCut_15, q_X9_whyNotCut_16, q_X9_whyNotCut_17, q_X9_whyNotCut_18, q_X9_whyNotCut_19, q_X9_whyNotCut_20, q_X9_whyNotCut_21, q_X9_whyNotCut_22, q_X9_whyNotCut_23, q_X9_whyNotCut_26, q_X9_whyNotCut_29, q_X9_whyNotCut_30, q_X9_whyNotCut_33, q_X9_whyNotCut_34, q_X9_whyNotCut_35, q_X9_whyNotCut_36, q_X9_whyNotCut_38, q_X9_whyNotCut_41, q_X9_whyNotCut_42, q_X9_whyNotCut_45, q_X9_whyNotCut_46, nI_add, pI_le, pI_lt, pI_eq, pI_neg, pI_nn, pI_le0, pI_gt0, pI_eq0, xbV_s, xbU_s, if_true, if_false, bI_eq0, Nat.reduceAdd, Nat.reduceSub, Nat.reduceEqDiff, Nat.reduceLeDiff, Nat.reduceLT, Bool.true_eq_false, Bool.false_eq_true, s9_isPage h hW, hx]
theorem s9_whyCut {m p : Nat} {y : Int32} {S : cS} {I : xMem} (h : mR I m S) (hW : sWF S) (hp : p < sq S) : f_X9_whyNotCut [.ref m, .int (nI p), .int y] I = some (.inl (some (.int (if xRg y (sl S p) = true then (if sq S = 10 then nI 3 else nI 0) else nI 2))), I) := by
  have hq := hW.1
  have hl := hW.2.2.1 p hp
  have h1 := h.1
  have h2 := h.2.1
  have h3 := h.2.2.1
  have h5 := h.2.2.2.2.1 p hp
  have e1 : xLt (nI p) (sq S) = true := by rw [xLt_nI (by omega)]; exact decide_eq_true hp
  rw [e_X9_whyNotCut]
  cases hy : xRg y (sl S p) with
  | false => simp (disch := omega) only [q_X9_whyNotCut_0, q_X9_whyNotCut_1, q_X9_whyNotCut_2, q_X9_whyNotCut_5, q_X9_whyNotCut_8, q_X9_whyNotCut_9, q_X9_whyNotCut_12, q_X9_whyNotCut_13, q_X9_whyNotCut_14, q_X9_whyNotCut_15, q_X9_whyNotCut_16, q_X9_whyNotCut_17, q_X9_whyNotCut_18, q_X9_whyNotCut_19, q_X9_whyNotCut_20, q_X9_whyNotCut_21, q_X9_whyNotCut_22, q_X9_whyNotCut_23, q_X9_whyNotCut_26, q_X9_whyNotCut_29, q_X9_whyNotCut_30, q_X9_whyNotCut_33, q_X9_whyNotCut_34, q_X9_whyNotCut_35, q_X9_whyNotCut_36, q_X9_whyNotCut_38, q_X9_whyNotCut_41, q_X9_whyNotCut_42, q_X9_whyNotCut_45, q_X9_whyNotCut_46, nI_add, pI_le, pI_lt, pI_eq, pI_neg, pI_nn, pI_le0, pI_gt0, pI_eq0, xbV_s, xbU_s, if_true, if_false, bI_eq0, Nat.reduceAdd, Nat.reduceSub, Nat.reduceEqDiff, Nat.reduceLeDiff, Nat.reduceLT, Bool.true_eq_false, Bool.false_eq_true, s9_isPage h hW, e1, h1, h2, h5, s9_in, xRg_in64, hy]
  | true =>
    by_cases r : sq S = 10
    · have e1' := e1
      rw [r] at e1'
      simp (disch := omega) only [q_X9_whyNotCut_0, q_X9_whyNotCut_1, q_X9_whyNotCut_2, q_X9_whyNotCut_5, q_X9_whyNotCut_8, q_X9_whyNotCut_9, q_X9_whyNotCut_12, q_X9_whyNotCut_13, q_X9_whyNotCut_14, q_X9_whyNotCut_15, q_X9_whyNotCut_16, q_X9_whyNotCut_17, q_X9_whyNotCut_18, q_X9_whyNotCut_19, q_X9_whyNotCut_20, q_X9_whyNotCut_21, q_X9_whyNotCut_22, q_X9_whyNotCut_23, q_X9_whyNotCut_26, q_X9_whyNotCut_29, q_X9_whyNotCut_30, q_X9_whyNotCut_33, q_X9_whyNotCut_34, q_X9_whyNotCut_35, q_X9_whyNotCut_36, q_X9_whyNotCut_38, q_X9_whyNotCut_41, q_X9_whyNotCut_42, q_X9_whyNotCut_45, q_X9_whyNotCut_46, nI_add, pI_le, pI_lt, pI_eq, pI_neg, pI_nn, pI_le0, pI_gt0, pI_eq0, xbV_s, xbU_s, if_true, if_false, bI_eq0, Nat.reduceAdd, Nat.reduceSub, Nat.reduceEqDiff, Nat.reduceLeDiff, Nat.reduceLT, Bool.true_eq_false, Bool.false_eq_true, s9_isPage h hW, e1, e1', h1, h2, h3, h5, s9_in, xRg_in64, hy, r]
    · simp (disch := omega) only [q_X9_whyNotCut_0, q_X9_whyNotCut_1, q_X9_whyNotCut_2, q_X9_whyNotCut_5, q_X9_whyNotCut_8, q_X9_whyNotCut_9, q_X9_whyNotCut_12, q_X9_whyNotCut_13, q_X9_whyNotCut_14, q_X9_whyNotCut_15, q_X9_whyNotCut_16, q_X9_whyNotCut_17, q_X9_whyNotCut_18, q_X9_whyNotCut_19, q_X9_whyNotCut_20, q_X9_whyNotCut_21, q_X9_whyNotCut_22, q_X9_whyNotCut_23, q_X9_whyNotCut_26, q_X9_whyNotCut_29, q_X9_whyNotCut_30, q_X9_whyNotCut_33, q_X9_whyNotCut_34, q_X9_whyNotCut_35, q_X9_whyNotCut_36, q_X9_whyNotCut_38, q_X9_whyNotCut_41, q_X9_whyNotCut_42, q_X9_whyNotCut_45, q_X9_whyNotCut_46, nI_add, pI_le, pI_lt, pI_eq, pI_neg, pI_nn, pI_le0, pI_gt0, pI_eq0, xbV_s, xbU_s, if_true, if_false, bI_eq0, Nat.reduceAdd, Nat.reduceSub, Nat.reduceEqDiff, Nat.reduceLeDiff, Nat.reduceLT, Bool.true_eq_false, Bool.false_eq_true, s9_isPage h hW, e1, h1, h2, h3, h5, s9_in, xRg_in64, hy, r]
theorem s9_whyMrg0 {m : Nat} {x : Int32} {S : cS} {I : xMem} (h : mR I m S) (hW : sWF S) (hx : xLt x (sq S) = false) : f_X9_whyNotMerge [.ref m, .int x] I = some (.inl (some (.int (nI 1))), I) := by
  rw [e_X9_whyNotMerge]
  simp (disch := omega) only [q_X9_whyNotMerge_0, q_X9_whyNotMerge_1, q_X9_whyNotMerge_2, q_X9_whyNotMerge_5, q_X9_whyNotMerge_8, q_X9_whyNotMerge_9, q_X9_whyNotMerge_10, q_X9_whyNotMerge_11, q_X9_whyNotMerge_12, q_X9_whyNotMerge_15, q_X9_whyNotMerge_18, q_X9_whyNotMerge_19, q_X9_whyNotMerge_22, q_X9_whyNotMerge_23, q_X9_whyNotMerge_24, q_X9_whyNotMerge_25, q_X9_whyNotMerge_26, q_X9_whyNotMerge_27, q_X9_whyNotMerge_28, q_X9_whyNotMerge_29, q_X9_whyNotMerge_30, q_X9_whyNotMerge_31, q_X9_whyNotMerge_32, q_X9_whyNotMerge_33, q_X9_whyNotMerge_34, q_X9_whyNotMerge_35, q_X9_whyNotMerge_37, q_X9_whyNotMerge_40, q_X9_whyNotMerge_41, q_X9_whyNotMerge_44, q_X9_whyNotMerge_45, nI_add, pI_le, pI_lt, pI_eq, pI_neg, pI_nn, pI_le0, pI_gt0, pI_eq0, xbV_s, xbU_s, if_true, if_false, bI_eq0, Nat.reduceAdd, Nat.reduceSub, Nat.reduceEqDiff, Nat.reduceLeDiff, Nat.reduceLT, Bool.true_eq_false, Bool.false_eq_true, s9_isPage h hW, hx]
theorem s9_whyMrg {m p : Nat} {S : cS} {I : xMem} (h : mR I m S) (hW : sWF S) (hp : p < sq S) : f_X9_whyNotMerge [.ref m, .int (nI p)] I = some (.inl (some (.int (if p + 1 < sq S then (if sl S p + sl S (p + 1) ≤ 12 then nI 0 else nI 2) else nI 1))), I) := by
  have hq := hW.1
  have hl := hW.2.2.1 p hp
  have h1 := h.1
  have h2 := h.2.1
  have h5 := h.2.2.2.2.1
  have e1 : xLt (nI p) (sq S) = true := by rw [xLt_nI (by omega)]; exact decide_eq_true hp
  rw [e_X9_whyNotMerge]
  by_cases r : p + 1 < sq S
  · have e2 : xLt (nI (p + 1)) (sq S) = true := by rw [xLt_nI (by omega)]; exact decide_eq_true r
    have hl2 := hW.2.2.1 (p + 1) r
    have g1 := h5 p hp
    have g2 := h5 (p + 1) r
    rw [show 2 + (p + 1) = 2 + p + 1 by omega] at g2
    by_cases r2 : sl S p + sl S (p + 1) ≤ 12
    · simp (disch := omega) only [q_X9_whyNotMerge_0, q_X9_whyNotMerge_1, q_X9_whyNotMerge_2, q_X9_whyNotMerge_5, q_X9_whyNotMerge_8, q_X9_whyNotMerge_9, q_X9_whyNotMerge_10, q_X9_whyNotMerge_11, q_X9_whyNotMerge_12, q_X9_whyNotMerge_15, q_X9_whyNotMerge_18, q_X9_whyNotMerge_19, q_X9_whyNotMerge_22, q_X9_whyNotMerge_23, q_X9_whyNotMerge_24, q_X9_whyNotMerge_25, q_X9_whyNotMerge_26, q_X9_whyNotMerge_27, q_X9_whyNotMerge_28, q_X9_whyNotMerge_29, q_X9_whyNotMerge_30, q_X9_whyNotMerge_31, q_X9_whyNotMerge_32, q_X9_whyNotMerge_33, q_X9_whyNotMerge_34, q_X9_whyNotMerge_35, q_X9_whyNotMerge_37, q_X9_whyNotMerge_40, q_X9_whyNotMerge_41, q_X9_whyNotMerge_44, q_X9_whyNotMerge_45, nI_add, pI_le, pI_lt, pI_eq, pI_neg, pI_nn, pI_le0, pI_gt0, pI_eq0, xbV_s, xbU_s, if_true, if_false, bI_eq0, Nat.reduceAdd, Nat.reduceSub, Nat.reduceEqDiff, Nat.reduceLeDiff, Nat.reduceLT, Bool.true_eq_false, Bool.false_eq_true, s9_isPage h hW, e1, e2, h1, h2, g1, g2, r, r2]
    · simp (disch := omega) only [q_X9_whyNotMerge_0, q_X9_whyNotMerge_1, q_X9_whyNotMerge_2, q_X9_whyNotMerge_5, q_X9_whyNotMerge_8, q_X9_whyNotMerge_9, q_X9_whyNotMerge_10, q_X9_whyNotMerge_11, q_X9_whyNotMerge_12, q_X9_whyNotMerge_15, q_X9_whyNotMerge_18, q_X9_whyNotMerge_19, q_X9_whyNotMerge_22, q_X9_whyNotMerge_23, q_X9_whyNotMerge_24, q_X9_whyNotMerge_25, q_X9_whyNotMerge_26, q_X9_whyNotMerge_27, q_X9_whyNotMerge_28, q_X9_whyNotMerge_29, q_X9_whyNotMerge_30, q_X9_whyNotMerge_31, q_X9_whyNotMerge_32, q_X9_whyNotMerge_33, q_X9_whyNotMerge_34, q_X9_whyNotMerge_35, q_X9_whyNotMerge_37, q_X9_whyNotMerge_40, q_X9_whyNotMerge_41, q_X9_whyNotMerge_44, q_X9_whyNotMerge_45, nI_add, pI_le, pI_lt, pI_eq, pI_neg, pI_nn, pI_le0, pI_gt0, pI_eq0, xbV_s, xbU_s, if_true, if_false, bI_eq0, Nat.reduceAdd, Nat.reduceSub, Nat.reduceEqDiff, Nat.reduceLeDiff, Nat.reduceLT, Bool.true_eq_false, Bool.false_eq_true, s9_isPage h hW, e1, e2, h1, h2, g1, g2, r, r2]
  · have e2 : xLt (nI (p + 1)) (sq S) = false := by rw [xLt_nI (by omega)]; exact decide_eq_false r
    simp (disch := omega) only [q_X9_whyNotMerge_0, q_X9_whyNotMerge_1, q_X9_whyNotMerge_2, q_X9_whyNotMerge_5, q_X9_whyNotMerge_8, q_X9_whyNotMerge_9, q_X9_whyNotMerge_10, q_X9_whyNotMerge_11, q_X9_whyNotMerge_12, q_X9_whyNotMerge_15, q_X9_whyNotMerge_18, q_X9_whyNotMerge_19, q_X9_whyNotMerge_22, q_X9_whyNotMerge_23, q_X9_whyNotMerge_24, q_X9_whyNotMerge_25, q_X9_whyNotMerge_26, q_X9_whyNotMerge_27, q_X9_whyNotMerge_28, q_X9_whyNotMerge_29, q_X9_whyNotMerge_30, q_X9_whyNotMerge_31, q_X9_whyNotMerge_32, q_X9_whyNotMerge_33, q_X9_whyNotMerge_34, q_X9_whyNotMerge_35, q_X9_whyNotMerge_37, q_X9_whyNotMerge_40, q_X9_whyNotMerge_41, q_X9_whyNotMerge_44, q_X9_whyNotMerge_45, nI_add, pI_le, pI_lt, pI_eq, pI_neg, pI_nn, pI_le0, pI_gt0, pI_eq0, xbV_s, xbU_s, if_true, if_false, bI_eq0, Nat.reduceAdd, Nat.reduceSub, Nat.reduceEqDiff, Nat.reduceLeDiff, Nat.reduceLT, Bool.true_eq_false, Bool.false_eq_true, s9_isPage h hW, e1, e2, r]
theorem s9_mpin {m p : Nat} {S : cS} {I : xMem} (h : mR I m S) (hW : sWF S) (hp : p + 1 < sq S) : f_X9_mergedPin [.ref m, .int (nI p)] I = some (.inl (some (.int (nI (sMp S p)))), I) := by
  have hq := hW.1
  have h1 := h.1
  have h2 := h.2.1
  have g1 := h.2.2.2.2.2.1 p (by omega)
  have g2 := h.2.2.2.2.2.1 (p + 1) hp
  have b1 := hW.2.2.2.2.2 p (by omega)
  have b2 := hW.2.2.2.2.2 (p + 1) hp
  rw [show 12 + (p + 1) = 12 + p + 1 by omega] at g2
  unfold sMp
  rw [e_X9_mergedPin]
  by_cases r : sp S p = sp S (p + 1)
  · rw [if_pos r]
    rw [← r] at g2
    simp (disch := omega) only [q_X9_mergedPin_0, q_X9_mergedPin_1, q_X9_mergedPin_3, q_X9_mergedPin_4, q_X9_mergedPin_5, q_X9_mergedPin_6, q_X9_mergedPin_7, q_X9_mergedPin_9, q_X9_mergedPin_10, q_X9_mergedPin_11, q_X9_mergedPin_12, q_X9_mergedPin_13, q_X9_mergedPin_14, q_X9_mergedPin_17, q_X9_mergedPin_18, q_X9_mergedPin_20, q_X9_mergedPin_21, q_X9_mergedPin_22, q_X9_mergedPin_23, q_X9_mergedPin_26, q_X9_mergedPin_27, nI_add, pI_le, pI_lt, pI_eq, pI_neg, pI_nn, pI_le0, pI_gt0, pI_eq0, xbV_s, xbU_s, if_true, if_false, bI_eq0, Nat.reduceAdd, Nat.reduceSub, Nat.reduceEqDiff, Nat.reduceLeDiff, Nat.reduceLT, Bool.true_eq_false, Bool.false_eq_true, h1, h2, g1, g2]
  · rw [if_neg r]
    simp (disch := omega) only [q_X9_mergedPin_0, q_X9_mergedPin_1, q_X9_mergedPin_3, q_X9_mergedPin_4, q_X9_mergedPin_5, q_X9_mergedPin_6, q_X9_mergedPin_7, q_X9_mergedPin_9, q_X9_mergedPin_10, q_X9_mergedPin_11, q_X9_mergedPin_12, q_X9_mergedPin_13, q_X9_mergedPin_14, q_X9_mergedPin_17, q_X9_mergedPin_18, q_X9_mergedPin_20, q_X9_mergedPin_21, q_X9_mergedPin_22, q_X9_mergedPin_23, q_X9_mergedPin_26, q_X9_mergedPin_27, nI_add, pI_le, pI_lt, pI_eq, pI_neg, pI_nn, pI_le0, pI_gt0, pI_eq0, xbV_s, xbU_s, if_true, if_false, bI_eq0, Nat.reduceAdd, Nat.reduceSub, Nat.reduceEqDiff, Nat.reduceLeDiff, Nat.reduceLT, Bool.true_eq_false, Bool.false_eq_true, h1, h2, g1, g2, r]
theorem s9_mergeOn {m p : Nat} {S : cS} {I : xMem} (h : mR I m S) (hW : sWF S) (hp : p + 1 < sq S) : ∃ I', f_X9_mergeOn [.ref m, .int (nI p)] I = some (.inl none, I') ∧ xO m I I' ∧ mR I' m (sMrg S p) := by
  have hq := hW.1
  have h1 := h.1
  have h2 := h.2.1
  have g1 := h.2.2.2.2.1 p (by omega)
  have g2 := h.2.2.2.2.1 (p + 1) hp
  rw [show 2 + (p + 1) = 2 + p + 1 by omega] at g2
  have hX2 := mX_l (mX_p (mX.of h) (p := p) (sq S) (sMp S p) (by omega) (fun j hj _ => hj) (by omega) (by omega)) (p := p) (sq S) (sl S p + sl S (p + 1)) (by omega) (fun j hj _ => hj) (by omega)
  rw [show sq S = sq S - 1 + 1 by omega] at hX2
  obtain ⟨I2, h6, h7, h10⟩ := s9_cutPage (p := p + 1) h1 h2 (by omega) (by omega) hX2
  refine ⟨I2, ?_, xO.rf.up.up.tr h7, mX.to h1 h2 h10⟩
  rw [e_X9_mergeOn]
  simp (disch := omega) only [q_X9_mergeOn_0, q_X9_mergeOn_1, q_X9_mergeOn_3, q_X9_mergeOn_4, q_X9_mergeOn_5, q_X9_mergeOn_6, q_X9_mergeOn_7, q_X9_mergeOn_10, q_X9_mergeOn_11, q_X9_mergeOn_12, q_X9_mergeOn_13, q_X9_mergeOn_14, q_X9_mergeOn_15, q_X9_mergeOn_16, q_X9_mergeOn_17, q_X9_mergeOn_18, q_X9_mergeOn_19, q_X9_mergeOn_20, q_X9_mergeOn_21, q_X9_mergeOn_22, q_X9_mergeOn_23, q_X9_mergeOn_24, q_X9_mergeOn_25, q_X9_mergeOn_26, q_X9_mergeOn_27, q_X9_mergeOn_28, q_X9_mergeOn_29, q_X9_mergeOn_30, q_X9_mergeOn_33, nI_add, pI_le, pI_lt, pI_eq, pI_neg, pI_nn, pI_le0, pI_gt0, pI_eq0, xbV_s, xbU_s, if_true, if_false, bI_eq0, Nat.reduceAdd, Nat.reduceSub, Nat.reduceEqDiff, Nat.reduceLeDiff, Nat.reduceLT, Bool.true_eq_false, Bool.false_eq_true, h1, h2, s9_mpin h hW hp, g1, g2, xup_d, h6]
theorem sw_two {S : cS} (h : sWF S) {p : Nat} (hp : p + 1 < sq S) : ∀ j, j < sl S p + sl S (p + 1) → sw S p j ≤ 1023 := fun j hj => h.2.2.2.2.1 _ (by
  have a := sF_in h hp
  have b := sF_s S p
  omega)
theorem sThen_le {S : cS} (h : sWF S) {p : Nat} (hp : p + 1 < sq S) (h12 : sl S p + sl S (p + 1) ≤ 12) : sThen S p ≤ 189 := pPin_le h12 (sw_two h hp) _
theorem s9_gainOn {m p : Nat} {S : cS} {I : xMem} (h : mR I m S) (hW : sWF S) (hp : p + 1 < sq S) (h12 : sl S p + sl S (p + 1) ≤ 12) : f_X9_gainOn [.ref m, .int (nI p)] I = some (.inl (some (.int (nI (sZ S p + sZ S (p + 1)) - nI (sThen S p)))), I) := by
  have hq := hW.1
  have hl := hW.2.2.1 p (by omega)
  have h1 := h.1
  have h2 := h.2.1
  have g1 := h.2.2.2.2.1 p (by omega)
  have g2 := h.2.2.2.2.1 (p + 1) hp
  have hn := sn_120 hW
  have a := sF_in hW hp
  have b := sF_s S p
  rw [show 2 + (p + 1) = 2 + p + 1 by omega] at g2
  have hP : mW I m (22 + sF S p) (sl S p + sl S (p + 1)) (sw S p) := by
    refine ⟨h1, by omega, by rw [h2]; decide, fun j hj => ?_, sw_two hW hp⟩
    have := h.2.2.2.2.2.2 (sF S p + j) (by omega)
    rw [show 22 + sF S p + j = 22 + (sF S p + j) by omega]
    exact this
  rw [e_X9_gainOn]
  simp (disch := omega) only [q_X9_gainOn_0, q_X9_gainOn_1, q_X9_gainOn_3, q_X9_gainOn_4, q_X9_gainOn_5, q_X9_gainOn_8, q_X9_gainOn_9, q_X9_gainOn_10, q_X9_gainOn_11, q_X9_gainOn_12, q_X9_gainOn_13, q_X9_gainOn_14, q_X9_gainOn_15, q_X9_gainOn_16, q_X9_gainOn_17, q_X9_gainOn_18, q_X9_gainOn_19, q_X9_gainOn_20, q_X9_gainOn_21, q_X9_gainOn_22, q_X9_gainOn_23, q_X9_gainOn_24, q_X9_gainOn_27, q_X9_gainOn_30, q_X9_gainOn_31, q_X9_gainOn_32, q_X9_gainOn_33, q_X9_gainOn_36, q_X9_gainOn_37, q_X9_gainOn_38, q_X9_gainOn_39, q_X9_gainOn_40, q_X9_gainOn_43, q_X9_gainOn_44, q_X9_gainOn_45, q_X9_gainOn_46, nI_add, pI_le, pI_lt, pI_eq, pI_neg, pI_nn, pI_le0, pI_gt0, pI_eq0, xbV_s, xbU_s, if_true, if_false, bI_eq0, Nat.reduceAdd, Nat.reduceSub, Nat.reduceEqDiff, Nat.reduceLeDiff, Nat.reduceLT, Bool.true_eq_false, Bool.false_eq_true, h1, h2, s9_mpin h hW hp, g1, g2, s9_first h hW (by omega : p ≤ sq S), s9_pinned hP (by omega) h12 (sMp_le hW (by omega : p < sq S)), s9_size h hW (by omega : p < sq S), s9_size h hW hp]
  rfl
theorem pG_le {a b : Nat} (ha : a < 1000000) (hb : b < 1000000) : (nI a - nI b ≤ 0) = (a ≤ b) := by
  rw [Int32.le_iff_toInt_le, pk_sub_toInt (by omega) (by omega), Int32.toInt_zero]
  exact propext ⟨fun h => by omega, fun h => by omega⟩
theorem s9_cmp_i {m n : Nat} {S : cS} {I : xMem} (h : mR I m S) (hW : sWF S) : ∀ d p, p + d = sq S - 1 → ∃ I', xgo k_X9_compactOn 4 [some (.ref m), some (.int (nI n)), some (.int (nI p))] [] I = (if sFind S d p < sq S - 1 then xgo k_X9_compactOn 4 [some (.ref m), some (.int (nI (n + 1))), some (.int (nI 0))] [] I' else some (.inl (some (.int (nI n))), I)) ∧ (sFind S d p < sq S - 1 → xO m I I' ∧ mR I' m (sMrg S (sFind S d p))) := by
  have hq := hW.1
  have h1 := h.1
  have h2 := h.2.1
  have h3 := h.2.2.1
  intro d
  induction d with
  | zero =>
    intro p hp
    have e : sFind S 0 p = p := rfl
    refine ⟨I, ?_, fun hf => by rw [e] at hf; omega⟩
    rw [if_neg (by rw [e]; omega), q_X9_compactOn_4]
    by_cases r : sq S = 0
    · have e2 : nI 0 - nI 1 ≤ nI 0 := by decide
      have e3 : p = 0 := by omega
      subst e3
      simp (disch := omega) only [q_X9_compactOn_0, q_X9_compactOn_1, q_X9_compactOn_2, q_X9_compactOn_3, q_X9_compactOn_5, q_X9_compactOn_6, q_X9_compactOn_7, q_X9_compactOn_8, q_X9_compactOn_9, q_X9_compactOn_10, q_X9_compactOn_13, q_X9_compactOn_14, q_X9_compactOn_15, q_X9_compactOn_18, q_X9_compactOn_21, q_X9_compactOn_22, q_X9_compactOn_23, q_X9_compactOn_26, q_X9_compactOn_29, q_X9_compactOn_30, q_X9_compactOn_31, q_X9_compactOn_34, q_X9_compactOn_37, q_X9_compactOn_38, q_X9_compactOn_39, q_X9_compactOn_42, q_X9_compactOn_45, q_X9_compactOn_48, q_X9_compactOn_49, nI_add, pI_le, pI_lt, pI_eq, pI_neg, pI_nn, pI_le0, pI_gt0, pI_eq0, xbV_s, xbU_s, if_true, if_false, bI_eq0, Nat.reduceAdd, Nat.reduceSub, Nat.reduceEqDiff, Nat.reduceLeDiff, Nat.reduceLT, Bool.true_eq_false, Bool.false_eq_true, h1, h2, h3, r, e2]
    · have e4 : sq S - 1 ≤ p := by omega
      simp (disch := omega) only [q_X9_compactOn_0, q_X9_compactOn_1, q_X9_compactOn_2, q_X9_compactOn_3, q_X9_compactOn_5, q_X9_compactOn_6, q_X9_compactOn_7, q_X9_compactOn_8, q_X9_compactOn_9, q_X9_compactOn_10, q_X9_compactOn_13, q_X9_compactOn_14, q_X9_compactOn_15, q_X9_compactOn_18, q_X9_compactOn_21, q_X9_compactOn_22, q_X9_compactOn_23, q_X9_compactOn_26, q_X9_compactOn_29, q_X9_compactOn_30, q_X9_compactOn_31, q_X9_compactOn_34, q_X9_compactOn_37, q_X9_compactOn_38, q_X9_compactOn_39, q_X9_compactOn_42, q_X9_compactOn_45, q_X9_compactOn_48, q_X9_compactOn_49, nI_add, pI_le, pI_lt, pI_eq, pI_neg, pI_nn, pI_le0, pI_gt0, pI_eq0, xbV_s, xbU_s, if_true, if_false, bI_eq0, Nat.reduceAdd, Nat.reduceSub, Nat.reduceEqDiff, Nat.reduceLeDiff, Nat.reduceLT, Bool.true_eq_false, Bool.false_eq_true, h1, h2, h3, pI_sub, e4]
  | succ d ih =>
    intro p hp
    have hp1 : p + 1 < sq S := by omega
    have hn9 : ¬ sq S - 1 ≤ p := by omega
    by_cases g : sGn S p = true
    · have e : sFind S (d + 1) p = p := by unfold sFind; rw [if_pos g]
      obtain ⟨g1, g2⟩ := sGn_ok g
      have g3 : ¬ sZ S p + sZ S (p + 1) ≤ sThen S p := by
        unfold sGn at g
        rw [Bool.and_eq_true, decide_eq_true_iff] at g
        omega
      have b1 := sZ_le hW (p := p) (by omega)
      have b2 := sZ_le hW hp1
      have b3 := sThen_le hW hp1 g2
      obtain ⟨I2, h6, h7, h8⟩ := s9_mergeOn h hW hp1
      refine ⟨I2, ?_, fun _ => by rw [e]; exact ⟨h7, h8⟩⟩
      have e9 : nI (sq S) - nI 1 = nI (sq S - 1) := pI_sub (by omega)
      rw [if_pos (by rw [e]; omega), q_X9_compactOn_4]
      simp (disch := omega) only [q_X9_compactOn_0, q_X9_compactOn_1, q_X9_compactOn_2, q_X9_compactOn_3, q_X9_compactOn_5, q_X9_compactOn_6, q_X9_compactOn_7, q_X9_compactOn_8, q_X9_compactOn_9, q_X9_compactOn_10, q_X9_compactOn_13, q_X9_compactOn_14, q_X9_compactOn_15, q_X9_compactOn_18, q_X9_compactOn_21, q_X9_compactOn_22, q_X9_compactOn_23, q_X9_compactOn_26, q_X9_compactOn_29, q_X9_compactOn_30, q_X9_compactOn_31, q_X9_compactOn_34, q_X9_compactOn_37, q_X9_compactOn_38, q_X9_compactOn_39, q_X9_compactOn_42, q_X9_compactOn_45, q_X9_compactOn_48, q_X9_compactOn_49, nI_add, pI_le, pI_lt, pI_eq, pI_neg, pI_nn, pI_le0, pI_gt0, pI_eq0, xbV_s, xbU_s, if_true, if_false, bI_eq0, Nat.reduceAdd, Nat.reduceSub, Nat.reduceEqDiff, Nat.reduceLeDiff, Nat.reduceLT, Bool.true_eq_false, Bool.false_eq_true, h1, h2, h3, e9, hn9, s9_whyMrg h hW (by omega : p < sq S), hp1, g2, s9_gainOn h hW hp1 g2, pG_le, g3, h6]
    · have e : sFind S (d + 1) p = sFind S d (p + 1) := by
        show (if sGn S p = true then p else sFind S d (p + 1)) = _
        rw [if_neg g]
      obtain ⟨I2, h6, h7⟩ := ih (p + 1) (by omega)
      refine ⟨I2, ?_, by rw [e]; exact h7⟩
      have e9 : nI (sq S) - nI 1 = nI (sq S - 1) := pI_sub (by omega)
      rw [e, ← h6, q_X9_compactOn_4]
      by_cases g2 : sl S p + sl S (p + 1) ≤ 12
      · have g3 : sZ S p + sZ S (p + 1) ≤ sThen S p := by
          unfold sGn at g
          rw [sOk_iff.mpr ⟨hp1, g2⟩, Bool.true_and, decide_eq_true_iff] at g
          omega
        have b1 := sZ_le hW (p := p) (by omega)
        have b2 := sZ_le hW hp1
        have b3 := sThen_le hW hp1 g2
        simp (disch := omega) only [q_X9_compactOn_0, q_X9_compactOn_1, q_X9_compactOn_2, q_X9_compactOn_3, q_X9_compactOn_5, q_X9_compactOn_6, q_X9_compactOn_7, q_X9_compactOn_8, q_X9_compactOn_9, q_X9_compactOn_10, q_X9_compactOn_13, q_X9_compactOn_14, q_X9_compactOn_15, q_X9_compactOn_18, q_X9_compactOn_21, q_X9_compactOn_22, q_X9_compactOn_23, q_X9_compactOn_26, q_X9_compactOn_29, q_X9_compactOn_30, q_X9_compactOn_31, q_X9_compactOn_34, q_X9_compactOn_37, q_X9_compactOn_38, q_X9_compactOn_39, q_X9_compactOn_42, q_X9_compactOn_45, q_X9_compactOn_48, q_X9_compactOn_49, nI_add, pI_le, pI_lt, pI_eq, pI_neg, pI_nn, pI_le0, pI_gt0, pI_eq0, xbV_s, xbU_s, if_true, if_false, bI_eq0, Nat.reduceAdd, Nat.reduceSub, Nat.reduceEqDiff, Nat.reduceLeDiff, Nat.reduceLT, Bool.true_eq_false, Bool.false_eq_true, h1, h2, h3, e9, hn9, s9_whyMrg h hW (by omega : p < sq S), hp1, g2, s9_gainOn h hW hp1 g2, pG_le, g3]
      · simp (disch := omega) only [q_X9_compactOn_0, q_X9_compactOn_1, q_X9_compactOn_2, q_X9_compactOn_3, q_X9_compactOn_5, q_X9_compactOn_6, q_X9_compactOn_7, q_X9_compactOn_8, q_X9_compactOn_9, q_X9_compactOn_10, q_X9_compactOn_13, q_X9_compactOn_14, q_X9_compactOn_15, q_X9_compactOn_18, q_X9_compactOn_21, q_X9_compactOn_22, q_X9_compactOn_23, q_X9_compactOn_26, q_X9_compactOn_29, q_X9_compactOn_30, q_X9_compactOn_31, q_X9_compactOn_34, q_X9_compactOn_37, q_X9_compactOn_38, q_X9_compactOn_39, q_X9_compactOn_42, q_X9_compactOn_45, q_X9_compactOn_48, q_X9_compactOn_49, nI_add, pI_le, pI_lt, pI_eq, pI_neg, pI_nn, pI_le0, pI_gt0, pI_eq0, xbV_s, xbU_s, if_true, if_false, bI_eq0, Nat.reduceAdd, Nat.reduceSub, Nat.reduceEqDiff, Nat.reduceLeDiff, Nat.reduceLT, Bool.true_eq_false, Bool.false_eq_true, h1, h2, h3, pI_sub, hn9, s9_whyMrg h hW (by omega : p < sq S), hp1, g2]
theorem sCmp_n (f : Nat) : ∀ S, (sCmp f S).2 ≤ f := by
  induction f with
  | zero => intro S; exact Nat.le_refl _
  | succ f ih =>
    intro S
    unfold sCmp
    split
    · have := ih (sMrg S (sFind S (sq S - 1) 0))
      show _ + 1 ≤ f + 1
      omega
    · exact Nat.zero_le _
theorem sCmp_s (f : Nat) (S : cS) : sCmp (f + 1) S = (if sFind S (sq S - 1) 0 < sq S - 1 then ((sCmp f (sMrg S (sFind S (sq S - 1) 0))).1, (sCmp f (sMrg S (sFind S (sq S - 1) 0))).2 + 1) else (S, 0)) := rfl
theorem s9_cmp_l {m : Nat} : ∀ (f n : Nat) {S : cS} {I : xMem}, mR I m S → sWF S → sq S ≤ f + 1 → ∃ I', xgo k_X9_compactOn 4 [some (.ref m), some (.int (nI n)), some (.int (nI 0))] [] I = some (.inl (some (.int (nI (n + (sCmp f S).2)))), I') ∧ xO m I I' ∧ mR I' m (sCmp f S).1
  | 0, n, S, I, h, hW, hf => by
    obtain ⟨I', h1, -⟩ := s9_cmp_i (n := n) h hW (sq S - 1) 0 (by omega)
    rw [if_neg (by omega)] at h1
    exact ⟨I, h1, xO.rf, h⟩
  | f + 1, n, S, I, h, hW, hf => by
    obtain ⟨I1, h1, h2⟩ := s9_cmp_i (n := n) h hW (sq S - 1) 0 (by omega)
    by_cases r : sFind S (sq S - 1) 0 < sq S - 1
    · rw [if_pos r] at h1
      obtain ⟨h3, h4⟩ := h2 r
      have g := sGn_ok (sFind_gn S (sq S - 1) 0 (by omega))
      obtain ⟨I2, h5, h6, h7⟩ := s9_cmp_l f (n + 1) h4 (sWF_mrg hW g.1 g.2) (by rw [sMrg_q]; omega)
      refine ⟨I2, ?_, h3.tr h6, ?_⟩
      · rw [h1, h5, sCmp_s, if_pos r, show n + 1 + (sCmp f (sMrg S (sFind S (sq S - 1) 0))).2 = n + ((sCmp f (sMrg S (sFind S (sq S - 1) 0))).2 + 1) by omega]
      · rw [sCmp_s, if_pos r]
        exact h7
    · rw [if_neg r] at h1
      refine ⟨I, ?_, xO.rf, ?_⟩
      · rw [h1, sCmp_s, if_neg r]
        rfl
      · rw [sCmp_s, if_neg r]
        exact h
theorem s9_compactOn {m : Nat} {S : cS} {I : xMem} (h : mR I m S) (hW : sWF S) : ∃ I', f_X9_compactOn [.ref m] I = some (.inl (some (.int (nI (sCmp 10 S).2))), I') ∧ xO m I I' ∧ mR I' m (sCmp 10 S).1 := by
  have hq := hW.1
  obtain ⟨I', h1, h2, h3⟩ := s9_cmp_l 10 0 h hW (by omega)
  refine ⟨I', ?_, h2, h3⟩
  rw [Nat.zero_add] at h1
  rw [e_X9_compactOn]
  simp only [q_X9_compactOn_0, q_X9_compactOn_1, q_X9_compactOn_2, q_X9_compactOn_3, q_X9_compactOn_5, q_X9_compactOn_6, q_X9_compactOn_7, q_X9_compactOn_8, q_X9_compactOn_9, q_X9_compactOn_10, q_X9_compactOn_13, q_X9_compactOn_14, q_X9_compactOn_15, q_X9_compactOn_18, q_X9_compactOn_21, q_X9_compactOn_22, q_X9_compactOn_23, q_X9_compactOn_26, q_X9_compactOn_29, q_X9_compactOn_30, q_X9_compactOn_31, q_X9_compactOn_34, q_X9_compactOn_37, q_X9_compactOn_38, q_X9_compactOn_39, q_X9_compactOn_42, q_X9_compactOn_45, q_X9_compactOn_48, q_X9_compactOn_49]
  exact h1
end P26
