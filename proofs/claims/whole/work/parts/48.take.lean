/-! ===== the error's place; taking the page ===== -/
section P48
section PZ
variable {α : aS}
theorem pFc.inv {I I' : xMem} (h : pFc I I') (hI : cInv I α) : cInv I' α := hI.cg (fun c hc => h.1 c (by omega) (by omega) (by omega)) h.2
theorem pFc.z {I I' : xMem} (h : pFc I I') : zG 0 189 I I' := fun c hc => h.1 c (by omega) (by omega) (by omega)
theorem pFm.inv {I I' : xMem} (h : pFm I I') (hI : mInv I α) : mInv I' α := hI.cg (fun c hc => h.1 c (by omega) (by omega) (by omega)) (h.2 2 (by omega) (by omega)) (h.2 8 (by omega) (by omega))
theorem pFm.z {I I' : xMem} (h : pFm I I') : zG 189 12 I I' := fun c hc => h.1 c (by omega) (by omega) (by omega)
theorem op_error : Agree0 f_X8_errorPosition f_X9_errorPosition [] α := Agree0.wf fun hw => by
  have k0 := x0
  have k3 := x163
  have k9 := x189
  obtain ⟨r, hr, hC, hM⟩ := page2 (t := zt α) (L := zL α) hw.2.2.2.1 hw.2.2.2.2
  refine ⟨rEr r, α, fun I hI => ?_, fun I hI => ?_⟩
  · obtain ⟨I', f1, f2, f3⟩ := hC I hI.2.2.2.2
    refine ⟨I', ?_, f2.inv hI, f2.z⟩
    rw [if_pos rfl, e_X8_errorPosition]
    simp (disch := omega) only [q_X8_errorPosition_0, q_X8_errorPosition_1, q_X8_errorPosition_4, q_X8_errorPosition_7, nI_add, pI_le, pI_lt, pI_eq, pI_neg, pI_nn, pI_le0, pI_gt0, pI_eq0, xbV_s, xbU_s, if_true, if_false, bI_eq0, Nat.reduceAdd, Nat.reduceSub, Nat.reduceEqDiff, Nat.reduceLeDiff, Nat.reduceLT, Bool.true_eq_false, Bool.false_eq_true, k0, r0_1, k3, f1]
  · obtain ⟨I', f1, f2, f3, f4⟩ := hM I hI.2.2.2.2
    refine ⟨I', ?_, f2.inv hI, f2.z⟩
    rw [e_X9_errorPosition]
    cases r with
    | inl e =>
      have g := f3 e rfl
      have f1 : f_X9_readPage [.ref 189] I = some (.inl (some (.int (nI 0))), I') := f1
      simp (disch := omega) only [q_X9_errorPosition_0, q_X9_errorPosition_1, q_X9_errorPosition_4, q_X9_errorPosition_7, q_X9_errorPosition_10, q_X9_errorPosition_13, q_X9_errorPosition_14, q_X9_errorPosition_17, nI_add, pI_le, pI_lt, pI_eq, pI_neg, pI_nn, pI_le0, pI_gt0, pI_eq0, xbV_s, xbU_s, if_true, if_false, bI_eq0, Nat.reduceAdd, Nat.reduceSub, Nat.reduceEqDiff, Nat.reduceLeDiff, Nat.reduceLT, Bool.true_eq_false, Bool.false_eq_true, k9, f1, g]
      rfl
    | inr x =>
      have f1 : f_X9_readPage [.ref 189] I = some (.inl (some (.int (nI 1))), I') := f1
      simp (disch := omega) only [q_X9_errorPosition_0, q_X9_errorPosition_1, q_X9_errorPosition_4, q_X9_errorPosition_7, q_X9_errorPosition_10, q_X9_errorPosition_13, q_X9_errorPosition_14, q_X9_errorPosition_17, nI_add, pI_le, pI_lt, pI_eq, pI_neg, pI_nn, pI_le0, pI_gt0, pI_eq0, xbV_s, xbU_s, if_true, if_false, bI_eq0, Nat.reduceAdd, Nat.reduceSub, Nat.reduceEqDiff, Nat.reduceLeDiff, Nat.reduceLT, Bool.true_eq_false, Bool.false_eq_true, k9, f1]
      rfl
theorem s0_ap_l {S : cS} {I : xMem} {n n0 q : Nat} {w v l pn : Nat → Nat} {lim : Nat} (hn : n ≤ 12) (hn0 : n0 + n ≤ 120) (hq : q ≤ 10) (hq0 : 0 < q) : ∀ d k (I1 : xMem), k + d = n → zG 1 9 I I1 → (∀ j, j < n → I 167 j = nI (w j)) → cX I1 1 (n0 + k) q lim q l q pn (n0 + k) (fun j => if j < n0 then v j else w (j - n0)) → ∃ I', xgo k_X0_appendPage 14 [some (.ref 1), some (.ref 166), some (.int (nI n)), some (.int (nI k))] [] I1 = some (.inl (some (.int (nI (q - 1)))), I') ∧ zG 1 9 I I' ∧ cX I' 1 (n0 + n) q lim q l q pn (n0 + n) (fun j => if j < n0 then v j else w (j - n0)) := by
  have k1 := x1
  have w2 : xRow (1 + 1) 120 := xCol_1.2.2.2.2.2.1
  have kr := w2.1
  have ks := w166.1
  have r1 : xR 1 0 = 1 + 1 := xCol_1.2.1
  intro d
  induction d with
  | zero =>
    intro k I1 hk hG hw hX
    have e : k = n := by omega
    subst e
    have h2 := hX.2.1
    have e2 : nI q - nI 1 = nI (q - 1) := pI_sub (by omega)
    refine ⟨I1, ?_, hG, hX⟩
    rw [q_X0_appendPage_14]
    simp (disch := omega) only [q_X0_appendPage_0, q_X0_appendPage_1, q_X0_appendPage_2, q_X0_appendPage_5, q_X0_appendPage_6, q_X0_appendPage_9, q_X0_appendPage_12, q_X0_appendPage_13, q_X0_appendPage_15, q_X0_appendPage_16, q_X0_appendPage_19, q_X0_appendPage_20, q_X0_appendPage_22, q_X0_appendPage_25, q_X0_appendPage_26, q_X0_appendPage_29, q_X0_appendPage_30, q_X0_appendPage_33, q_X0_appendPage_34, q_X0_appendPage_35, q_X0_appendPage_38, q_X0_appendPage_41, q_X0_appendPage_42, q_X0_appendPage_43, q_X0_appendPage_46, q_X0_appendPage_47, q_X0_appendPage_48, q_X0_appendPage_51, q_X0_appendPage_54, q_X0_appendPage_57, q_X0_appendPage_58, q_X0_appendPage_61, q_X0_appendPage_62, q_X0_appendPage_63, nI_add, pI_le, pI_lt, pI_eq, pI_neg, pI_nn, pI_le0, pI_gt0, pI_eq0, xbV_s, xbU_s, if_true, if_false, bI_eq0, Nat.reduceAdd, Nat.reduceSub, Nat.reduceEqDiff, Nat.reduceLeDiff, Nat.reduceLT, Bool.true_eq_false, Bool.false_eq_true, Nat.le_refl, k1, h2, e2]
  | succ d ih =>
    intro k I1 hk hG hw hX
    have n1 : ¬ n ≤ k := by omega
    have n2 : ¬ 12 ≤ k := by omega
    have h1 := hX.1
    have g : I1 167 k = nI (w k) := by rw [hG 167 (by omega)]; exact hw k (by omega)
    have hX2 := cX_n (cX_v hX (i := n0 + k) (n0 + k + 1) (w k) (fun j hj hne => by omega)) (n0 + k + 1)
    obtain ⟨I', f1, f2, f3⟩ := ih (k + 1) (xup (xup I1 (1 + 1 + 1) (n0 + k) (nI (w k))) 1 4 (nI (n0 + k + 1))) (by omega) ((hG.up (by omega) (by omega)).up (by omega) (by omega)) hw (cX_cg hX2 (fun j hj => ⟨hj, rfl⟩) (fun j hj => ⟨hj, rfl⟩) (fun j hj => ⟨hj, by
      unfold nup
      by_cases e : j = n0 + k
      · rw [if_pos e, if_neg (by omega), show j - n0 = k by omega]
      · rw [if_neg e]⟩))
    refine ⟨I', ?_, f2, f3⟩
    rw [q_X0_appendPage_14]
    simp (disch := omega) only [q_X0_appendPage_0, q_X0_appendPage_1, q_X0_appendPage_2, q_X0_appendPage_5, q_X0_appendPage_6, q_X0_appendPage_9, q_X0_appendPage_12, q_X0_appendPage_13, q_X0_appendPage_15, q_X0_appendPage_16, q_X0_appendPage_19, q_X0_appendPage_20, q_X0_appendPage_22, q_X0_appendPage_25, q_X0_appendPage_26, q_X0_appendPage_29, q_X0_appendPage_30, q_X0_appendPage_33, q_X0_appendPage_34, q_X0_appendPage_35, q_X0_appendPage_38, q_X0_appendPage_41, q_X0_appendPage_42, q_X0_appendPage_43, q_X0_appendPage_46, q_X0_appendPage_47, q_X0_appendPage_48, q_X0_appendPage_51, q_X0_appendPage_54, q_X0_appendPage_57, q_X0_appendPage_58, q_X0_appendPage_61, q_X0_appendPage_62, q_X0_appendPage_63, nI_add, pI_le, pI_lt, pI_eq, pI_neg, pI_nn, pI_le0, pI_gt0, pI_eq0, xbV_s, xbU_s, if_true, if_false, bI_eq0, Nat.reduceAdd, Nat.reduceSub, Nat.reduceEqDiff, Nat.reduceLeDiff, Nat.reduceLT, Bool.true_eq_false, Bool.false_eq_true, n1, n2, k1, r1, kr, ks, h1, s_get w166, g, s_set w2, xup_o]
    exact f1
theorem s0_appendPage {S : cS} {I : xMem} {n : Nat} {w : Nat → Nat} (h : cR I 1 S) (hW : sWF S) (hq : sq S < 10) (h1 : 1 ≤ n) (h12 : n ≤ 12) (hw : ∀ j, j < n → I 167 j = nI (w j)) : ∃ I', f_X0_appendPage [.ref 1, .ref 166, .int (nI n)] I = some (.inl (some (.int (nI (sq S)))), I') ∧ zG 1 9 I I' ∧ cR I' 1 (sTake S w n) := by
  have k1 := x1
  have h2 := h.2.1
  have hb := sF_12 hW (Nat.le_refl (sq S))
  have hb2 := hW.2.2.2.1
  obtain ⟨I1, f1, f2, f3⟩ := s0_open (p := sq S) (len := n) (c := 0) xCol_1 hq (Nat.le_refl _) h.x
  rw [show xpn 0 = -9999 from rfl] at f1
  obtain ⟨I', g1, g2, g3⟩ := s0_ap_l (S := S) (I := I1) (n := n) (n0 := sn S) (q := sq S + 1) (w := w) (v := sv S) h12 (by omega) (by omega) (by omega) n 0 I1 (by omega) zG.rf (fun j hj => by rw [f2 167 (by omega)]; exact hw j hj) (cX_cg f3 (fun j hj => ⟨hj, rfl⟩) (fun j hj => ⟨hj, rfl⟩) (fun j hj => ⟨hj, by rw [if_pos (show j < sn S from hj)]⟩))
  refine ⟨I', ?_, f2.tr g2, cX_cg g3 (fun j hj => ⟨hj, ?_⟩) (fun j hj => ⟨hj, ?_⟩) (fun j hj => ⟨hj, rfl⟩)⟩
  · rw [e_X0_appendPage]
    simp (disch := omega) only [q_X0_appendPage_0, q_X0_appendPage_1, q_X0_appendPage_2, q_X0_appendPage_5, q_X0_appendPage_6, q_X0_appendPage_9, q_X0_appendPage_12, q_X0_appendPage_13, nI_add, pI_le, pI_lt, pI_eq, pI_neg, pI_nn, pI_le0, pI_gt0, pI_eq0, xbV_s, xbU_s, if_true, if_false, bI_eq0, Nat.reduceAdd, Nat.reduceSub, Nat.reduceEqDiff, Nat.reduceLeDiff, Nat.reduceLT, Bool.true_eq_false, Bool.false_eq_true, k1, h2, f1]
    exact g1
  · have hj : j < sq S + 1 := hj
    show nup (sl S) (sq S) n j = nin (sl S) (sq S) n j
    unfold nup nin
    by_cases e : j = sq S
    · rw [if_pos e, if_neg (by omega), if_pos e]
    · rw [if_neg e, if_pos (by omega)]
  · have hj : j < sq S + 1 := hj
    show nup (sp S) (sq S) 0 j = nin (sp S) (sq S) 0 j
    unfold nup nin
    by_cases e : j = sq S
    · rw [if_pos e, if_neg (by omega), if_pos e]
    · rw [if_neg e, if_pos (by omega)]
end PZ
end P48
