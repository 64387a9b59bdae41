/-! ===== the error's place; taking the page ===== -/
section P48
section PZ
variable {α : aS}
theorem pFc.inv {I I' : xMem} (h : pFc I I') (hI : cInv I α) : cInv I' α := hI.cg (fun c hc => h.1 c (by omega) (by omega) (by omega)) h.2
theorem pFc.z {I I' : xMem} (h : pFc I I') : zG 0 189 I I' := fun c hc => h.1 c (by omega) (by omega) (by omega)
theorem pFm.inv {I I' : xMem} (h : pFm I I') (hI : mInv I α) : mInv I' α := hI.cg (fun c hc => h.1 c (by omega) (by omega) (by omega)) (h.2 2 (by omega) (by omega)) (h.2 8 (by omega) (by omega))
theorem pFm.z {I I' : xMem} (h : pFm I I') : zG 189 12 I I' := fun c hc => h.1 c (by omega) (by omega) (by omega)
theorem op_error : Agree0 f_X8_errorPosition f_X9_errorPosition [] α := Agree0.wf fun hw => by
  have k0 := x0
  have k3 := x163
  have k9 := x189
  obtain ⟨r, hr, hC, hM⟩ := page2 (t := zt α) (L := zL α) hw.2.2.2.1 hw.2.2.2.2
  refine ⟨rEr r, α, fun I hI => ?_, fun I hI => ?_⟩
  · obtain ⟨I', f1, f2, f3⟩ := hC I hI.2.2.2.2
    refine ⟨I', ?_, f2.inv hI, f2.z⟩
    rw [if_pos rfl, e_X8_errorPosition]
    simp (disch := omega) only [q_X8_errorPosition_0, q_X8_errorPosition_1, q_X8_errorPosition_4, q_X8_errorPosition_7, nI_add, pI_le, pI_lt, pI_eq, pI_neg, pI_nn, pI_le0, pI_gt0, pI_eq0, xbV_s, xbU_s, if_true, if_false, bI_eq0, Nat.reduceAdd, Nat.reduceSub, Nat.reduceEqDiff, Nat.reduceLeDiff, Nat.reduceLT, Bool.true_eq_false, Bool.false_eq_true, k0, r0_1, k3, f1]
  · obtain ⟨I', f1, f2, f3, f4⟩ := hM I hI.2.2.2.2
    refine ⟨I', ?_, f2.inv hI, f2.z⟩
    rw [e_X9_errorPosition]
    cases r with
    | inl e =>
      have g := f3 e rfl
      have f1 : f_X9_readPage [.ref 189] I = some (.inl (some (.int (nI 0))), I') := f1
      simp (disch := omega) only [q_X9_errorPosition_0, q_X9_errorPosition_1, q_X9_errorPosition_4, q_X9_errorPosition_7, q_X9_errorPosition_10, q_X9_errorPosition_13, q_X9_errorPosition_14, q_X9_errorPosition_17, nI_add, pI_le, pI_lt, pI_eq, pI_neg, pI_nn, pI_le0, pI_gt0, pI_eq0, xbV_s, xbU_s, if_true, if_false, bI_eq0, Nat.reduceAdd, Nat.reduceSub, Nat.reduceEqDiff, Nat.reduceLeDiff, Nat.reduceLT, Bool.true_eq_false, Bool.false_eq_true, k9, f1, g]
      rfl
    | inr x =>
      have f1 : f_X9_readPage [.ref 189] I = some (.inl (some (.int (nI 1))), I') := f1
      simp (disch := omega) only [q_X9_errorPosition_0, q_X9_errorPosition_1, q_X9_errorPosition_4, q_X9_errorPosition_7, q_X9_errorPosition_10, q_X9_errorPosition_13, q_X9_errorPosition_14, q_X9_errorPosition_17, nI_add, pI_le, pI_lt, pI_eq, pI_neg, pI_nn, pI_le0, pI_gt0, pI_eq0, xbV_s, xbU_s, if_true, if_false, bI_eq0, Nat.reduceAdd, Nat.reduceSub, Nat.reduceEqDiff, Nat.reduceLeDiff, Nat.reduceLT, Bool.true_eq_false, Bool.false_eq_true, k9, f1]
      rfl
end PZ
end P48
