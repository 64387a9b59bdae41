/-! ===== the actions ===== -/
section P35
def zRem (α : aS) : aS := (zS α, hpH (zH α) (zA α) (zS α), hpA (zA α), zK α, zt α, zL α)
def zSet (α : aS) (S : cS) : aS := (S, zH α, zA α, zK α, zt α, zL α)
theorem aWF.rem {α : aS} (h : aWF α) : aWF (zRem α) := ⟨h.1, ⟨hpA_le _, hp_wf h.2.1.1 h.2.1.2 h.1⟩, h.2.2⟩
theorem aWF.set {α : aS} (h : aWF α) {S : cS} (hS : sWF S) : aWF (zSet α S) := ⟨hS, h.2⟩
theorem cInv.rem {α : aS} {I : xMem} (h : cInv I α) : ∃ I', f_X1_remember [.ref 173, .ref 1] I = some (.inl none, I') ∧ cInv I' (zRem α) ∧ zG 0 189 I I' := by
  obtain ⟨hw, h2, h3, h4, h5⟩ := h
  obtain ⟨I', f1, f2, f3⟩ := s1_remember h2 hw.1 h3
  refine ⟨I', f1, ⟨hw.rem, h2.cg (fun c h6 h7 => f2 c (by omega) (by omega) (by omega)), f3, h4.cg (fun c h6 h7 => f2 c (by omega) (by omega) (by omega)) (f2 _ (by omega) (by omega) (by omega)), h5.cg (by rw [f2 163 (by omega) (by omega) (by omega)]) (f2 _ (by omega) (by omega) (by omega))⟩, fun c hc => f2 c (by omega) (by omega) (by omega)⟩
theorem mInv.rem {α : aS} {I : xMem} (h : mInv I α) : ∃ I', f_X9_remember [.ref 189] I = some (.inl none, I') ∧ mInv I' (zRem α) ∧ zG 189 12 I I' ∧ I' 189 0 = I 189 0 := by
  obtain ⟨hw, h2, h3, h4, h5⟩ := h
  obtain ⟨I', f1, f2, f3, f4⟩ := s9_remember h2 hw.1 h3 hw.2.1.2
  exact ⟨I', f1, ⟨hw.rem, h2.cg (f2 _ (by omega) (by omega)), f4, h4.cg (f2 _ (by omega) (by omega)) (f2 _ (by omega) (by omega)), h5.cg (f3 _ (by omega)) (f2 _ (by omega) (by omega))⟩, fun c hc => f2 c (by omega) (by omega), f3 _ (by omega)⟩
theorem cInv.set {α : aS} {I I' : xMem} {S : cS} (h : cInv I α) (hS : sWF S) (hG : zG 1 9 I I') (hR : cR I' 1 S) : cInv I' (zSet α S) := by
  obtain ⟨hw, h2, h3, h4, h5⟩ := h
  exact ⟨hw.set hS, hR, h3.cg (fun c h6 h7 => hG c (by omega)) (hG _ (by omega)), h4.cg (fun c h6 h7 => hG c (by omega)) (hG _ (by omega)), h5.cg (by rw [hG 163 (by omega)]) (hG _ (by omega))⟩
theorem mInv.set {α : aS} {I I' : xMem} {S : cS} (h : mInv I α) (hS : sWF S) (hO : xO 191 I I') (hR : mR I' 191 S) : mInv I' (zSet α S) := by
  obtain ⟨hw, h2, h3, h4, h5⟩ := h
  exact ⟨hw.set hS, hR, h3.cg (by rw [hO 189 (by omega)]) (hO _ (by omega)), h4.cg (hO _ (by omega)) (hO _ (by omega)), h5.cg (by rw [hO 189 (by omega)]) (hO _ (by omega))⟩
theorem cInv.me {α : aS} {I I' : xMem} (h : cInv I α) (hG : zG (1 + 7) 2 I I') : cInv I' α := h.cg (fun c hc => hG c (by omega)) (by rw [hG 163 (by omega)])
theorem xO.z {I I' : xMem} (h : xO 191 I I') : zG 189 12 I I' := fun c hc => h c (by omega)
section PA
variable {α : aS}
/-- an action: it remembers, then does; F what the class does then, G the reference -/
theorem Agree.act {f g : List Value → xMem → Option ((Option Value ⊕ Nat) × xMem)} {as : List Value} {ex : List Nat} (v : Int32) (S : cS) (hS : aWF α → sWF S) (h1 : ∀ I J, cInv I α → cR J 1 (zS α) → f_X1_remember [.ref 173, .ref 1] I = some (.inl none, J) → ∃ I', f (.ref 0 :: as) I = some (.inl (some (.int v)), I') ∧ zG 1 9 J I' ∧ cR I' 1 S) (h2 : ∀ I J, mInv I α → mInv (xup I 189 0 (nI 0)) α → mR J 191 (zS α) → f_X9_remember [.ref 189] (xup I 189 0 (nI 0)) = some (.inl none, J) → ∃ I', g (.ref 189 :: as) I = some (.inl (some (.int v)), I') ∧ xO 191 J I' ∧ mR I' 191 S) : Agree f g as ex α := by
  refine ⟨0, v, zSet (zRem α) S, Nat.zero_le _, fun I hI => ?_, fun I hI => ?_⟩
  · obtain ⟨J, f1, f2, f3⟩ := hI.rem
    obtain ⟨I', e1, e2, e3⟩ := h1 I J hI f2.2.1 f1
    exact ⟨I', by rw [if_pos rfl]; exact e1, f2.set (hS hI.1) e2 e3, f3.tr (e2.wd (by omega) (by omega))⟩
  · obtain ⟨J, f1, f2, f3, f4⟩ := (hI.rf 0).rem
    obtain ⟨I', e1, e2, e3⟩ := h2 I J hI (hI.rf 0) f2.2.1 f1
    refine ⟨I', by rw [if_pos rfl]; exact e1, f2.set (hS hI.1) e2 e3, (zG.rf.up (by omega) (by omega) |>.tr f3).tr e2.z, ?_⟩
    rw [e2 189 (by omega), f4, xup_s]
theorem op_add (x : Int32) : Agree f_X8_add f_X9_add [.int x] [1, 2] α := Agree.wf fun hw => by
  have k0 := x0
  have k1 := x1
  have k3 := x173
  have k9 := x189
  have hW := hw.1
  rcases xLt_cases x (n := 1024) (by omega) with h | ⟨v, hv, rfl, h⟩
  · refine Agree.no 1 (by omega) (by decide) (fun I hI => ?_) (fun I hI => ?_)
    · show f_X8_add [.ref 0, .int x] I = some (.inr 1, I)
      rw [e_X8_add]
      simp (disch := omega) only [q_X8_add_0, q_X8_add_1, q_X8_add_4, q_X8_add_7, q_X8_add_17, q_X8_add_18, q_X8_add_21, q_X8_add_24, q_X8_add_27, q_X8_add_37, q_X8_add_38, q_X8_add_41, q_X8_add_42, q_X8_add_45, q_X8_add_48, q_X8_add_49, q_X8_add_52, q_X8_add_53, q_X8_add_56, nI_add, pI_le, pI_lt, pI_eq, pI_neg, pI_nn, pI_le0, pI_gt0, pI_eq0, xbV_s, xbU_s, if_true, if_false, bI_eq0, Nat.reduceAdd, Nat.reduceSub, Nat.reduceEqDiff, Nat.reduceLeDiff, Nat.reduceLT, Bool.true_eq_false, Bool.false_eq_true, s8_isValue, h]
    · rw [e_X9_add]
      simp (disch := omega) only [q_X9_add_0, q_X9_add_1, q_X9_add_2, q_X9_add_3, q_X9_add_4, q_X9_add_7, q_X9_add_10, q_X9_add_13, q_X9_add_14, q_X9_add_17, q_X9_add_18, q_X9_add_21, q_X9_add_24, q_X9_add_27, q_X9_add_28, q_X9_add_31, q_X9_add_32, q_X9_add_35, q_X9_add_38, q_X9_add_39, q_X9_add_40, q_X9_add_41, q_X9_add_44, q_X9_add_45, q_X9_add_48, q_X9_add_49, q_X9_add_52, nI_add, pI_le, pI_lt, pI_eq, pI_neg, pI_nn, pI_le0, pI_gt0, pI_eq0, xbV_s, xbU_s, if_true, if_false, bI_eq0, Nat.reduceAdd, Nat.reduceSub, Nat.reduceEqDiff, Nat.reduceLeDiff, Nat.reduceLT, Bool.true_eq_false, Bool.false_eq_true, k9, s9_inV, h, s9_rf1]
  · cases hc : sCanAdd (zS α) with
    | false =>
      refine Agree.no 2 (by omega) (by decide) (fun I hI => ?_) (fun I hI => ?_)
      · show f_X8_add [.ref 0, .int (nI v)] I = some (.inr 2, I)
        rw [e_X8_add]
        simp (disch := omega) only [q_X8_add_0, q_X8_add_1, q_X8_add_4, q_X8_add_7, q_X8_add_17, q_X8_add_18, q_X8_add_21, q_X8_add_24, q_X8_add_27, q_X8_add_37, q_X8_add_38, q_X8_add_41, q_X8_add_42, q_X8_add_45, q_X8_add_48, q_X8_add_49, q_X8_add_52, q_X8_add_53, q_X8_add_56, nI_add, pI_le, pI_lt, pI_eq, pI_neg, pI_nn, pI_le0, pI_gt0, pI_eq0, xbV_s, xbU_s, if_true, if_false, bI_eq0, Nat.reduceAdd, Nat.reduceSub, Nat.reduceEqDiff, Nat.reduceLeDiff, Nat.reduceLT, Bool.true_eq_false, Bool.false_eq_true, s8_isValue, h, k0, k1, r0_0, s0_canAppend xCol_1 hI.2.1 hW, hc]
      · rw [e_X9_add]
        simp (disch := omega) only [q_X9_add_0, q_X9_add_1, q_X9_add_2, q_X9_add_3, q_X9_add_4, q_X9_add_7, q_X9_add_10, q_X9_add_13, q_X9_add_14, q_X9_add_17, q_X9_add_18, q_X9_add_21, q_X9_add_24, q_X9_add_27, q_X9_add_28, q_X9_add_31, q_X9_add_32, q_X9_add_35, q_X9_add_38, q_X9_add_39, q_X9_add_40, q_X9_add_41, q_X9_add_44, q_X9_add_45, q_X9_add_48, q_X9_add_49, q_X9_add_52, nI_add, pI_le, pI_lt, pI_eq, pI_neg, pI_nn, pI_le0, pI_gt0, pI_eq0, xbV_s, xbU_s, if_true, if_false, bI_eq0, Nat.reduceAdd, Nat.reduceSub, Nat.reduceEqDiff, Nat.reduceLeDiff, Nat.reduceLT, Bool.true_eq_false, Bool.false_eq_true, k9, r9_4, s9_inV, h, s9_canAdd hI.2.1 hW, hc, s9_rf2]
    | true =>
      have hWS := sWF_add hW (v := v) (by omega) hc
      have hq9 : 0 < sq (sAdd (zS α) v) := by
        unfold sAdd
        by_cases r : sHasRoom (zS α) = true
        · rw [if_pos r]; exact (sHasRoom_iff.mp r).1
        · rw [if_neg r]; exact Nat.succ_pos _
      refine Agree.act (nI (sq (sAdd (zS α) v) - 1)) (sAdd (zS α) v) (fun _ => hWS) (fun I J hI hR e => ?_) (fun I J hI hI' hR e => ?_)
      · obtain ⟨I', f1, f2, f3⟩ := s0_append (v := v) xCol_1 hR hW hc
        refine ⟨I', ?_, f2, f3⟩
        rw [e_X8_add]
        simp (disch := omega) only [q_X8_add_0, q_X8_add_1, q_X8_add_4, q_X8_add_7, q_X8_add_17, q_X8_add_18, q_X8_add_21, q_X8_add_24, q_X8_add_27, q_X8_add_37, q_X8_add_38, q_X8_add_41, q_X8_add_42, q_X8_add_45, q_X8_add_48, q_X8_add_49, q_X8_add_52, q_X8_add_53, q_X8_add_56, nI_add, pI_le, pI_lt, pI_eq, pI_neg, pI_nn, pI_le0, pI_gt0, pI_eq0, xbV_s, xbU_s, if_true, if_false, bI_eq0, Nat.reduceAdd, Nat.reduceSub, Nat.reduceEqDiff, Nat.reduceLeDiff, Nat.reduceLT, Bool.true_eq_false, Bool.false_eq_true, s8_isValue, h, k0, k1, k3, r0_0, r0_3, s0_canAppend xCol_1 hI.2.1 hW, hc, e, f1]
      · obtain ⟨I', f1, f2, f3⟩ := s9_addOn (v := v) hR hW hc
        refine ⟨I', ?_, f2, f3⟩
        rw [e_X9_add]
        simp (disch := omega) only [q_X9_add_0, q_X9_add_1, q_X9_add_2, q_X9_add_3, q_X9_add_4, q_X9_add_7, q_X9_add_10, q_X9_add_13, q_X9_add_14, q_X9_add_17, q_X9_add_18, q_X9_add_21, q_X9_add_24, q_X9_add_27, q_X9_add_28, q_X9_add_31, q_X9_add_32, q_X9_add_35, q_X9_add_38, q_X9_add_39, q_X9_add_40, q_X9_add_41, q_X9_add_44, q_X9_add_45, q_X9_add_48, q_X9_add_49, q_X9_add_52, nI_add, pI_le, pI_lt, pI_eq, pI_neg, pI_nn, pI_le0, pI_gt0, pI_eq0, xbV_s, xbU_s, if_true, if_false, bI_eq0, Nat.reduceAdd, Nat.reduceSub, Nat.reduceEqDiff, Nat.reduceLeDiff, Nat.reduceLT, Bool.true_eq_false, Bool.false_eq_true, k9, r9_4, s9_inV, h, s9_canAdd hI.2.1 hW, hc, s9_rf0, e, f1]
theorem op_put (x y : Int32) : Agree f_X8_put f_X9_put [.int x, .int y] [3, 1] α := Agree.wf fun hw => by
  have k0 := x0
  have k1 := x1
  have k3 := x173
  have k9 := x189
  have k91 := x191
  have l91 := l191
  have hW := hw.1
  have hn := sn_120 hW
  cases hx : xLt x (sn (zS α)) with
  | false =>
    refine Agree.no 1 (by omega) (by decide) (fun I hI => ?_) (fun I hI => ?_)
    · show f_X8_put [.ref 0, .int x, .int y] I = some (.inr 3, I)
      rw [e_X8_put]
      simp (disch := omega) only [q_X8_put_0, q_X8_put_1, q_X8_put_4, q_X8_put_5, q_X8_put_8, q_X8_put_11, q_X8_put_21, q_X8_put_22, q_X8_put_25, q_X8_put_28, q_X8_put_38, q_X8_put_39, q_X8_put_42, q_X8_put_43, q_X8_put_46, q_X8_put_49, q_X8_put_50, q_X8_put_53, q_X8_put_54, q_X8_put_55, q_X8_put_58, nI_add, pI_le, pI_lt, pI_eq, pI_neg, pI_nn, pI_le0, pI_gt0, pI_eq0, xbV_s, xbU_s, if_true, if_false, bI_eq0, Nat.reduceAdd, Nat.reduceSub, Nat.reduceEqDiff, Nat.reduceLeDiff, Nat.reduceLT, Bool.true_eq_false, Bool.false_eq_true, k0, k1, r0_0, s0_hasValue xCol_1 hI.2.1 hW, hx]
    · rw [e_X9_put]
      simp (disch := omega) only [q_X9_put_0, q_X9_put_1, q_X9_put_2, q_X9_put_5, q_X9_put_6, q_X9_put_9, q_X9_put_12, q_X9_put_13, q_X9_put_16, q_X9_put_17, q_X9_put_18, q_X9_put_19, q_X9_put_22, q_X9_put_25, q_X9_put_28, q_X9_put_29, q_X9_put_32, q_X9_put_33, q_X9_put_36, q_X9_put_39, q_X9_put_40, q_X9_put_41, q_X9_put_42, q_X9_put_45, q_X9_put_46, q_X9_put_49, q_X9_put_51, q_X9_put_52, q_X9_put_53, q_X9_put_54, q_X9_put_55, q_X9_put_56, q_X9_put_59, q_X9_put_61, q_X9_put_62, q_X9_put_63, q_X9_put_64, q_X9_put_65, q_X9_put_66, nI_add, pI_le, pI_lt, pI_eq, pI_neg, pI_nn, pI_le0, pI_gt0, pI_eq0, xbV_s, xbU_s, if_true, if_false, bI_eq0, Nat.reduceAdd, Nat.reduceSub, Nat.reduceEqDiff, Nat.reduceLeDiff, Nat.reduceLT, Bool.true_eq_false, Bool.false_eq_true, k9, r9_4, s9_isValue hI.2.1 hW, hx, s9_rf1]
  | true =>
    obtain ⟨i, hi, rfl⟩ := xLt_ex hx (by omega)
    rcases xLt_cases y (n := 1024) (by omega) with h | ⟨v, hv, rfl, h⟩
    · refine Agree.no 2 (by omega) (by decide) (fun I hI => ?_) (fun I hI => ?_)
      · show f_X8_put [.ref 0, .int (nI i), .int y] I = some (.inr 1, I)
        rw [e_X8_put]
        simp (disch := omega) only [q_X8_put_0, q_X8_put_1, q_X8_put_4, q_X8_put_5, q_X8_put_8, q_X8_put_11, q_X8_put_21, q_X8_put_22, q_X8_put_25, q_X8_put_28, q_X8_put_38, q_X8_put_39, q_X8_put_42, q_X8_put_43, q_X8_put_46, q_X8_put_49, q_X8_put_50, q_X8_put_53, q_X8_put_54, q_X8_put_55, q_X8_put_58, nI_add, pI_le, pI_lt, pI_eq, pI_neg, pI_nn, pI_le0, pI_gt0, pI_eq0, xbV_s, xbU_s, if_true, if_false, bI_eq0, Nat.reduceAdd, Nat.reduceSub, Nat.reduceEqDiff, Nat.reduceLeDiff, Nat.reduceLT, Bool.true_eq_false, Bool.false_eq_true, k0, k1, r0_0, s0_hasValue xCol_1 hI.2.1 hW, hx, s8_isValue, h]
      · rw [e_X9_put]
        simp (disch := omega) only [q_X9_put_0, q_X9_put_1, q_X9_put_2, q_X9_put_5, q_X9_put_6, q_X9_put_9, q_X9_put_12, q_X9_put_13, q_X9_put_16, q_X9_put_17, q_X9_put_18, q_X9_put_19, q_X9_put_22, q_X9_put_25, q_X9_put_28, q_X9_put_29, q_X9_put_32, q_X9_put_33, q_X9_put_36, q_X9_put_39, q_X9_put_40, q_X9_put_41, q_X9_put_42, q_X9_put_45, q_X9_put_46, q_X9_put_49, q_X9_put_51, q_X9_put_52, q_X9_put_53, q_X9_put_54, q_X9_put_55, q_X9_put_56, q_X9_put_59, q_X9_put_61, q_X9_put_62, q_X9_put_63, q_X9_put_64, q_X9_put_65, q_X9_put_66, nI_add, pI_le, pI_lt, pI_eq, pI_neg, pI_nn, pI_le0, pI_gt0, pI_eq0, xbV_s, xbU_s, if_true, if_false, bI_eq0, Nat.reduceAdd, Nat.reduceSub, Nat.reduceEqDiff, Nat.reduceLeDiff, Nat.reduceLT, Bool.true_eq_false, Bool.false_eq_true, k9, r9_4, s9_isValue hI.2.1 hW, hx, s9_inV, h, s9_rf2]
    · refine Agree.act (nI (sv (zS α) i)) (sPut (zS α) i v) (fun _ => sWF_put hW (by omega)) (fun I J hI hR e => ?_) (fun I J hI hI' hR e => ?_)
      · obtain ⟨I', f1, f2, f3⟩ := s0_change (v := v) xCol_1 hR hW hi
        refine ⟨I', ?_, f2, f3⟩
        rw [e_X8_put]
        simp (disch := omega) only [q_X8_put_0, q_X8_put_1, q_X8_put_4, q_X8_put_5, q_X8_put_8, q_X8_put_11, q_X8_put_21, q_X8_put_22, q_X8_put_25, q_X8_put_28, q_X8_put_38, q_X8_put_39, q_X8_put_42, q_X8_put_43, q_X8_put_46, q_X8_put_49, q_X8_put_50, q_X8_put_53, q_X8_put_54, q_X8_put_55, q_X8_put_58, nI_add, pI_le, pI_lt, pI_eq, pI_neg, pI_nn, pI_le0, pI_gt0, pI_eq0, xbV_s, xbU_s, if_true, if_false, bI_eq0, Nat.reduceAdd, Nat.reduceSub, Nat.reduceEqDiff, Nat.reduceLeDiff, Nat.reduceLT, Bool.true_eq_false, Bool.false_eq_true, k0, k1, k3, r0_0, r0_3, s0_hasValue xCol_1 hI.2.1 hW, hx, s8_isValue, h, e, f1]
      · have g : J 191 (22 + i) = nI (sv (zS α) i) := hR.2.2.2.2.2.2 i hi
        refine ⟨xup J 191 (22 + i) (nI v), ?_, xO.rf.up, mX.to x191 l191 (mX_v (mX.of hR) (i := i) (sn (zS α)) v (fun j hj _ => hj) hW.1 hW.1)⟩
        rw [e_X9_put]
        simp (disch := omega) only [q_X9_put_0, q_X9_put_1, q_X9_put_2, q_X9_put_5, q_X9_put_6, q_X9_put_9, q_X9_put_12, q_X9_put_13, q_X9_put_16, q_X9_put_17, q_X9_put_18, q_X9_put_19, q_X9_put_22, q_X9_put_25, q_X9_put_28, q_X9_put_29, q_X9_put_32, q_X9_put_33, q_X9_put_36, q_X9_put_39, q_X9_put_40, q_X9_put_41, q_X9_put_42, q_X9_put_45, q_X9_put_46, q_X9_put_49, q_X9_put_51, q_X9_put_52, q_X9_put_53, q_X9_put_54, q_X9_put_55, q_X9_put_56, q_X9_put_59, q_X9_put_61, q_X9_put_62, q_X9_put_63, q_X9_put_64, q_X9_put_65, q_X9_put_66, nI_add, pI_le, pI_lt, pI_eq, pI_neg, pI_nn, pI_le0, pI_gt0, pI_eq0, xbV_s, xbU_s, if_true, if_false, bI_eq0, Nat.reduceAdd, Nat.reduceSub, Nat.reduceEqDiff, Nat.reduceLeDiff, Nat.reduceLT, Bool.true_eq_false, Bool.false_eq_true, k9, k91, l91, r9_4, s9_isValue hI.2.1 hW, hx, s9_inV, h, s9_rf0, e, g]
theorem op_remove (x : Int32) : Agree f_X8_remove f_X9_remove [.int x] [3] α := Agree.wf fun hw => by
  have k0 := x0
  have k1 := x1
  have k3 := x173
  have k9 := x189
  have hW := hw.1
  have hn := sn_120 hW
  cases hx : xLt x (sn (zS α)) with
  | false =>
    refine Agree.no 1 (by omega) (by decide) (fun I hI => ?_) (fun I hI => ?_)
    · show f_X8_remove [.ref 0, .int x] I = some (.inr 3, I)
      rw [e_X8_remove]
      simp (disch := omega) only [q_X8_remove_0, q_X8_remove_1, q_X8_remove_4, q_X8_remove_5, q_X8_remove_8, q_X8_remove_11, q_X8_remove_21, q_X8_remove_22, q_X8_remove_25, q_X8_remove_26, q_X8_remove_29, q_X8_remove_32, q_X8_remove_33, q_X8_remove_36, q_X8_remove_37, q_X8_remove_40, nI_add, pI_le, pI_lt, pI_eq, pI_neg, pI_nn, pI_le0, pI_gt0, pI_eq0, xbV_s, xbU_s, if_true, if_false, bI_eq0, Nat.reduceAdd, Nat.reduceSub, Nat.reduceEqDiff, Nat.reduceLeDiff, Nat.reduceLT, Bool.true_eq_false, Bool.false_eq_true, k0, k1, r0_0, s0_hasValue xCol_1 hI.2.1 hW, hx]
    · rw [e_X9_remove]
      simp (disch := omega) only [q_X9_remove_0, q_X9_remove_1, q_X9_remove_2, q_X9_remove_5, q_X9_remove_6, q_X9_remove_9, q_X9_remove_12, q_X9_remove_13, q_X9_remove_16, q_X9_remove_17, q_X9_remove_20, q_X9_remove_23, q_X9_remove_24, q_X9_remove_25, q_X9_remove_26, q_X9_remove_29, q_X9_remove_30, q_X9_remove_33, q_X9_remove_34, q_X9_remove_37, nI_add, pI_le, pI_lt, pI_eq, pI_neg, pI_nn, pI_le0, pI_gt0, pI_eq0, xbV_s, xbU_s, if_true, if_false, bI_eq0, Nat.reduceAdd, Nat.reduceSub, Nat.reduceEqDiff, Nat.reduceLeDiff, Nat.reduceLT, Bool.true_eq_false, Bool.false_eq_true, k9, r9_4, s9_isValue hI.2.1 hW, hx, s9_rf1]
  | true =>
    obtain ⟨i, hi, rfl⟩ := xLt_ex hx (by omega)
    obtain ⟨p, hp, h8, h9⟩ := sPg_ex hW hi
    refine Agree.act (nI (sv (zS α) i)) (sRem (zS α) i p) (fun _ => sWF_rem hW hi hp) (fun I J hI hR e => ?_) (fun I J hI hI' hR e => ?_)
    · obtain ⟨I', f1, f2, f3⟩ := s0_drop xCol_1 hR hW hi hp h8 h9
      refine ⟨I', ?_, f2, f3⟩
      rw [e_X8_remove]
      simp (disch := omega) only [q_X8_remove_0, q_X8_remove_1, q_X8_remove_4, q_X8_remove_5, q_X8_remove_8, q_X8_remove_11, q_X8_remove_21, q_X8_remove_22, q_X8_remove_25, q_X8_remove_26, q_X8_remove_29, q_X8_remove_32, q_X8_remove_33, q_X8_remove_36, q_X8_remove_37, q_X8_remove_40, nI_add, pI_le, pI_lt, pI_eq, pI_neg, pI_nn, pI_le0, pI_gt0, pI_eq0, xbV_s, xbU_s, if_true, if_false, bI_eq0, Nat.reduceAdd, Nat.reduceSub, Nat.reduceEqDiff, Nat.reduceLeDiff, Nat.reduceLT, Bool.true_eq_false, Bool.false_eq_true, k0, k1, k3, r0_0, r0_3, s0_hasValue xCol_1 hI.2.1 hW, hx, e, f1]
    · obtain ⟨I', f1, f2, f3⟩ := s9_remove hR hW hi hp h8 h9
      refine ⟨I', ?_, f2, f3⟩
      rw [e_X9_remove]
      simp (disch := omega) only [q_X9_remove_0, q_X9_remove_1, q_X9_remove_2, q_X9_remove_5, q_X9_remove_6, q_X9_remove_9, q_X9_remove_12, q_X9_remove_13, q_X9_remove_16, q_X9_remove_17, q_X9_remove_20, q_X9_remove_23, q_X9_remove_24, q_X9_remove_25, q_X9_remove_26, q_X9_remove_29, q_X9_remove_30, q_X9_remove_33, q_X9_remove_34, q_X9_remove_37, nI_add, pI_le, pI_lt, pI_eq, pI_neg, pI_nn, pI_le0, pI_gt0, pI_eq0, xbV_s, xbU_s, if_true, if_false, bI_eq0, Nat.reduceAdd, Nat.reduceSub, Nat.reduceEqDiff, Nat.reduceLeDiff, Nat.reduceLT, Bool.true_eq_false, Bool.false_eq_true, k9, r9_4, s9_isValue hI.2.1 hW, hx, s9_rf0, e, f1]
theorem op_cut (x y : Int32) : Agree f_X8_cut f_X9_cut [.int x, .int y] [3, 1, 2] α := Agree.wf fun hw => by
  have k0 := x0
  have k1 := x1
  have k3 := x173
  have k9 := x189
  have hW := hw.1
  have hq := hW.1
  cases hx : xLt x (sq (zS α)) with
  | false =>
    refine Agree.no 1 (by omega) (by decide) (fun I hI => ?_) (fun I hI => ?_)
    · show f_X8_cut [.ref 0, .int x, .int y] I = some (.inr 3, I)
      rw [e_X8_cut]
      simp (disch := omega) only [q_X8_cut_0, q_X8_cut_1, q_X8_cut_4, q_X8_cut_5, q_X8_cut_8, q_X8_cut_11, q_X8_cut_21, q_X8_cut_22, q_X8_cut_25, q_X8_cut_26, q_X8_cut_27, q_X8_cut_30, q_X8_cut_33, q_X8_cut_43, q_X8_cut_44, q_X8_cut_47, q_X8_cut_50, q_X8_cut_53, q_X8_cut_63, q_X8_cut_64, q_X8_cut_67, q_X8_cut_68, q_X8_cut_71, q_X8_cut_74, q_X8_cut_75, q_X8_cut_78, q_X8_cut_79, q_X8_cut_80, q_X8_cut_83, q_X8_cut_84, q_X8_cut_87, q_X8_cut_90, nI_add, pI_le, pI_lt, pI_eq, pI_neg, pI_nn, pI_le0, pI_gt0, pI_eq0, xbV_s, xbU_s, if_true, if_false, bI_eq0, Nat.reduceAdd, Nat.reduceSub, Nat.reduceEqDiff, Nat.reduceLeDiff, Nat.reduceLT, Bool.true_eq_false, Bool.false_eq_true, k0, k1, r0_0, s0_hasPage xCol_1 hI.2.1 hW, hx]
    · rw [e_X9_cut]
      simp (disch := omega) only [q_X9_cut_0, q_X9_cut_1, q_X9_cut_2, q_X9_cut_5, q_X9_cut_6, q_X9_cut_7, q_X9_cut_10, q_X9_cut_13, q_X9_cut_16, q_X9_cut_17, q_X9_cut_18, q_X9_cut_19, q_X9_cut_22, q_X9_cut_23, q_X9_cut_26, q_X9_cut_27, q_X9_cut_28, q_X9_cut_31, q_X9_cut_32, q_X9_cut_35, q_X9_cut_38, nI_add, pI_le, pI_lt, pI_eq, pI_neg, pI_nn, pI_le0, pI_gt0, pI_eq0, xbV_s, xbU_s, if_true, if_false, bI_eq0, Nat.reduceAdd, Nat.reduceSub, Nat.reduceEqDiff, Nat.reduceLeDiff, Nat.reduceLT, Bool.true_eq_false, Bool.false_eq_true, k9, r9_4, s9_whyCut0 hI.2.1 hW hx, s9_rf1]
  | true =>
    obtain ⟨p, hp, rfl⟩ := xLt_ex hx (by omega)
    have hl := hW.2.2.1 p hp
    cases hy : xRg y (sl (zS α) p) with
    | false =>
      refine Agree.no 2 (by omega) (by decide) (fun I hI => ?_) (fun I hI => ?_)
      · show f_X8_cut [.ref 0, .int (nI p), .int y] I = some (.inr 1, I)
        rw [e_X8_cut]
        simp (disch := omega) only [q_X8_cut_0, q_X8_cut_1, q_X8_cut_4, q_X8_cut_5, q_X8_cut_8, q_X8_cut_11, q_X8_cut_21, q_X8_cut_22, q_X8_cut_25, q_X8_cut_26, q_X8_cut_27, q_X8_cut_30, q_X8_cut_33, q_X8_cut_43, q_X8_cut_44, q_X8_cut_47, q_X8_cut_50, q_X8_cut_53, q_X8_cut_63, q_X8_cut_64, q_X8_cut_67, q_X8_cut_68, q_X8_cut_71, q_X8_cut_74, q_X8_cut_75, q_X8_cut_78, q_X8_cut_79, q_X8_cut_80, q_X8_cut_83, q_X8_cut_84, q_X8_cut_87, q_X8_cut_90, nI_add, pI_le, pI_lt, pI_eq, pI_neg, pI_nn, pI_le0, pI_gt0, pI_eq0, xbV_s, xbU_s, if_true, if_false, bI_eq0, Nat.reduceAdd, Nat.reduceSub, Nat.reduceEqDiff, Nat.reduceLeDiff, Nat.reduceLT, Bool.true_eq_false, Bool.false_eq_true, k0, k1, r0_0, s0_hasPage xCol_1 hI.2.1 hW, hx, s0_hasCut xCol_1 hI.2.1 hW hp, hy]
      · rw [e_X9_cut]
        simp (disch := omega) only [q_X9_cut_0, q_X9_cut_1, q_X9_cut_2, q_X9_cut_5, q_X9_cut_6, q_X9_cut_7, q_X9_cut_10, q_X9_cut_13, q_X9_cut_16, q_X9_cut_17, q_X9_cut_18, q_X9_cut_19, q_X9_cut_22, q_X9_cut_23, q_X9_cut_26, q_X9_cut_27, q_X9_cut_28, q_X9_cut_31, q_X9_cut_32, q_X9_cut_35, q_X9_cut_38, nI_add, pI_le, pI_lt, pI_eq, pI_neg, pI_nn, pI_le0, pI_gt0, pI_eq0, xbV_s, xbU_s, if_true, if_false, bI_eq0, Nat.reduceAdd, Nat.reduceSub, Nat.reduceEqDiff, Nat.reduceLeDiff, Nat.reduceLT, Bool.true_eq_false, Bool.false_eq_true, k9, r9_4, s9_whyCut hI.2.1 hW hp, hy, s9_rf2]
    | true =>
      obtain ⟨k, hk1, hk2, rfl⟩ := xRg_ex hy (by omega)
      by_cases r : sq (zS α) = 10
      · refine Agree.no 3 (by omega) (by decide) (fun I hI => ?_) (fun I hI => ?_)
        · show f_X8_cut [.ref 0, .int (nI p), .int (nI k)] I = some (.inr 2, I)
          rw [e_X8_cut]
          simp (disch := omega) only [q_X8_cut_0, q_X8_cut_1, q_X8_cut_4, q_X8_cut_5, q_X8_cut_8, q_X8_cut_11, q_X8_cut_21, q_X8_cut_22, q_X8_cut_25, q_X8_cut_26, q_X8_cut_27, q_X8_cut_30, q_X8_cut_33, q_X8_cut_43, q_X8_cut_44, q_X8_cut_47, q_X8_cut_50, q_X8_cut_53, q_X8_cut_63, q_X8_cut_64, q_X8_cut_67, q_X8_cut_68, q_X8_cut_71, q_X8_cut_74, q_X8_cut_75, q_X8_cut_78, q_X8_cut_79, q_X8_cut_80, q_X8_cut_83, q_X8_cut_84, q_X8_cut_87, q_X8_cut_90, nI_add, pI_le, pI_lt, pI_eq, pI_neg, pI_nn, pI_le0, pI_gt0, pI_eq0, xbV_s, xbU_s, if_true, if_false, bI_eq0, Nat.reduceAdd, Nat.reduceSub, Nat.reduceEqDiff, Nat.reduceLeDiff, Nat.reduceLT, Bool.true_eq_false, Bool.false_eq_true, k0, k1, r0_0, s0_hasPage xCol_1 hI.2.1 hW, hx, s0_hasCut xCol_1 hI.2.1 hW hp, hy, s0_isFull xCol_1 hI.2.1 hW, decide_eq_true r]
        · rw [e_X9_cut]
          simp (disch := omega) only [q_X9_cut_0, q_X9_cut_1, q_X9_cut_2, q_X9_cut_5, q_X9_cut_6, q_X9_cut_7, q_X9_cut_10, q_X9_cut_13, q_X9_cut_16, q_X9_cut_17, q_X9_cut_18, q_X9_cut_19, q_X9_cut_22, q_X9_cut_23, q_X9_cut_26, q_X9_cut_27, q_X9_cut_28, q_X9_cut_31, q_X9_cut_32, q_X9_cut_35, q_X9_cut_38, nI_add, pI_le, pI_lt, pI_eq, pI_neg, pI_nn, pI_le0, pI_gt0, pI_eq0, xbV_s, xbU_s, if_true, if_false, bI_eq0, Nat.reduceAdd, Nat.reduceSub, Nat.reduceEqDiff, Nat.reduceLeDiff, Nat.reduceLT, Bool.true_eq_false, Bool.false_eq_true, k9, r9_4, s9_whyCut hI.2.1 hW hp, hy, if_pos r, s9_rf3]
      · have hWS := sWF_cut hW hp (by omega) hk1 hk2
        refine Agree.act (nI (sT (sCut (zS α) p k))) (sCut (zS α) p k) (fun _ => hWS) (fun I J hI hR e => ?_) (fun I J hI hI' hR e => ?_)
        · obtain ⟨I1, f1, f2, f3⟩ := s0_split xCol_1 hR hW hp (by omega : sq (zS α) < 10) hk1 hk2
          obtain ⟨I2, g1, g2, g3⟩ := s0_total xCol_1 f3 hWS
          refine ⟨I2, ?_, f2.tr (g2.wd (by omega) (by omega)), g3⟩
          rw [e_X8_cut]
          simp (disch := omega) only [q_X8_cut_0, q_X8_cut_1, q_X8_cut_4, q_X8_cut_5, q_X8_cut_8, q_X8_cut_11, q_X8_cut_21, q_X8_cut_22, q_X8_cut_25, q_X8_cut_26, q_X8_cut_27, q_X8_cut_30, q_X8_cut_33, q_X8_cut_43, q_X8_cut_44, q_X8_cut_47, q_X8_cut_50, q_X8_cut_53, q_X8_cut_63, q_X8_cut_64, q_X8_cut_67, q_X8_cut_68, q_X8_cut_71, q_X8_cut_74, q_X8_cut_75, q_X8_cut_78, q_X8_cut_79, q_X8_cut_80, q_X8_cut_83, q_X8_cut_84, q_X8_cut_87, q_X8_cut_90, nI_add, pI_le, pI_lt, pI_eq, pI_neg, pI_nn, pI_le0, pI_gt0, pI_eq0, xbV_s, xbU_s, if_true, if_false, bI_eq0, Nat.reduceAdd, Nat.reduceSub, Nat.reduceEqDiff, Nat.reduceLeDiff, Nat.reduceLT, Bool.true_eq_false, Bool.false_eq_true, k0, k1, k3, r0_0, r0_3, s0_hasPage xCol_1 hI.2.1 hW, hx, s0_hasCut xCol_1 hI.2.1 hW hp, hy, s0_isFull xCol_1 hI.2.1 hW, decide_eq_false r, e, f1, g1]
        · obtain ⟨I1, f1, f2, f3⟩ := s9_cutOn hR hW hp (by omega : sq (zS α) < 10) hk2
          refine ⟨I1, ?_, f2, f3⟩
          rw [e_X9_cut]
          simp (disch := omega) only [q_X9_cut_0, q_X9_cut_1, q_X9_cut_2, q_X9_cut_5, q_X9_cut_6, q_X9_cut_7, q_X9_cut_10, q_X9_cut_13, q_X9_cut_16, q_X9_cut_17, q_X9_cut_18, q_X9_cut_19, q_X9_cut_22, q_X9_cut_23, q_X9_cut_26, q_X9_cut_27, q_X9_cut_28, q_X9_cut_31, q_X9_cut_32, q_X9_cut_35, q_X9_cut_38, nI_add, pI_le, pI_lt, pI_eq, pI_neg, pI_nn, pI_le0, pI_gt0, pI_eq0, xbV_s, xbU_s, if_true, if_false, bI_eq0, Nat.reduceAdd, Nat.reduceSub, Nat.reduceEqDiff, Nat.reduceLeDiff, Nat.reduceLT, Bool.true_eq_false, Bool.false_eq_true, k9, r9_4, s9_whyCut hI.2.1 hW hp, hy, if_neg r, s9_rf0, e, f1, s9_total f3 hWS]
theorem op_merge (x : Int32) : Agree f_X8_merge f_X9_merge [.int x] [3, 2] α := Agree.wf fun hw => by
  have k0 := x0
  have k1 := x1
  have k3 := x173
  have k9 := x189
  have hW := hw.1
  have hq := hW.1
  cases hx : xLt x (sq (zS α) - 1) with
  | false =>
    refine Agree.no 1 (by omega) (by decide) (fun I hI => ?_) (fun I hI => ?_)
    · show f_X8_merge [.ref 0, .int x] I = some (.inr 3, I)
      rw [e_X8_merge]
      simp (disch := omega) only [q_X8_merge_0, q_X8_merge_1, q_X8_merge_4, q_X8_merge_5, q_X8_merge_8, q_X8_merge_11, q_X8_merge_21, q_X8_merge_22, q_X8_merge_25, q_X8_merge_26, q_X8_merge_29, q_X8_merge_32, q_X8_merge_42, q_X8_merge_43, q_X8_merge_46, q_X8_merge_47, q_X8_merge_50, q_X8_merge_53, q_X8_merge_54, q_X8_merge_57, q_X8_merge_58, q_X8_merge_61, q_X8_merge_62, q_X8_merge_65, q_X8_merge_68, nI_add, pI_le, pI_lt, pI_eq, pI_neg, pI_nn, pI_le0, pI_gt0, pI_eq0, xbV_s, xbU_s, if_true, if_false, bI_eq0, Nat.reduceAdd, Nat.reduceSub, Nat.reduceEqDiff, Nat.reduceLeDiff, Nat.reduceLT, Bool.true_eq_false, Bool.false_eq_true, k0, k1, r0_0, s0_hasNext xCol_1 hI.2.1 hW, hx]
    · have e : f_X9_whyNotMerge [.ref 191, .int x] I = some (.inl (some (.int (nI 1))), I) := by
        cases hx2 : xLt x (sq (zS α)) with
        | false => exact s9_whyMrg0 hI.2.1 hW hx2
        | true =>
          obtain ⟨p, hp, rfl⟩ := xLt_ex hx2 (by omega)
          rw [xLt_nI (by omega)] at hx
          have := of_decide_eq_false hx
          rw [s9_whyMrg hI.2.1 hW hp, if_neg (by omega)]
      rw [e_X9_merge]
      simp (disch := omega) only [q_X9_merge_0, q_X9_merge_1, q_X9_merge_2, q_X9_merge_5, q_X9_merge_6, q_X9_merge_9, q_X9_merge_12, q_X9_merge_15, q_X9_merge_16, q_X9_merge_17, q_X9_merge_18, q_X9_merge_21, q_X9_merge_22, q_X9_merge_25, q_X9_merge_26, q_X9_merge_29, q_X9_merge_30, q_X9_merge_33, q_X9_merge_36, nI_add, pI_le, pI_lt, pI_eq, pI_neg, pI_nn, pI_le0, pI_gt0, pI_eq0, xbV_s, xbU_s, if_true, if_false, bI_eq0, Nat.reduceAdd, Nat.reduceSub, Nat.reduceEqDiff, Nat.reduceLeDiff, Nat.reduceLT, Bool.true_eq_false, Bool.false_eq_true, k9, r9_4, e, s9_rf1]
  | true =>
    obtain ⟨p, hp, rfl⟩ := xLt_ex hx (by omega)
    have hp1 : p + 1 < sq (zS α) := by omega
    by_cases r : sl (zS α) p + sl (zS α) (p + 1) ≤ 12
    · have hok := sOk_iff.mpr ⟨hp1, r⟩
      have hWS := sWF_mrg hW hp1 r
      refine Agree.act (nI (sT (sMrg (zS α) p))) (sMrg (zS α) p) (fun _ => hWS) (fun I J hI hR e => ?_) (fun I J hI hI' hR e => ?_)
      · obtain ⟨I1, f1, f2, f3⟩ := s0_join xCol_1 hR hW hp1
        obtain ⟨I2, g1, g2, g3⟩ := s0_total xCol_1 f3 hWS
        refine ⟨I2, ?_, f2.tr (g2.wd (by omega) (by omega)), g3⟩
        rw [e_X8_merge]
        simp (disch := omega) only [q_X8_merge_0, q_X8_merge_1, q_X8_merge_4, q_X8_merge_5, q_X8_merge_8, q_X8_merge_11, q_X8_merge_21, q_X8_merge_22, q_X8_merge_25, q_X8_merge_26, q_X8_merge_29, q_X8_merge_32, q_X8_merge_42, q_X8_merge_43, q_X8_merge_46, q_X8_merge_47, q_X8_merge_50, q_X8_merge_53, q_X8_merge_54, q_X8_merge_57, q_X8_merge_58, q_X8_merge_61, q_X8_merge_62, q_X8_merge_65, q_X8_merge_68, nI_add, pI_le, pI_lt, pI_eq, pI_neg, pI_nn, pI_le0, pI_gt0, pI_eq0, xbV_s, xbU_s, if_true, if_false, bI_eq0, Nat.reduceAdd, Nat.reduceSub, Nat.reduceEqDiff, Nat.reduceLeDiff, Nat.reduceLT, Bool.true_eq_false, Bool.false_eq_true, k0, k1, k3, r0_0, r0_3, s0_hasNext xCol_1 hI.2.1 hW, hx, s0_canJoin xCol_1 hI.2.1 hW (by omega : p < 1000), hok, e, f1, g1]
      · obtain ⟨I1, f1, f2, f3⟩ := s9_mergeOn hR hW hp1
        refine ⟨I1, ?_, f2, f3⟩
        rw [e_X9_merge]
        simp (disch := omega) only [q_X9_merge_0, q_X9_merge_1, q_X9_merge_2, q_X9_merge_5, q_X9_merge_6, q_X9_merge_9, q_X9_merge_12, q_X9_merge_15, q_X9_merge_16, q_X9_merge_17, q_X9_merge_18, q_X9_merge_21, q_X9_merge_22, q_X9_merge_25, q_X9_merge_26, q_X9_merge_29, q_X9_merge_30, q_X9_merge_33, q_X9_merge_36, nI_add, pI_le, pI_lt, pI_eq, pI_neg, pI_nn, pI_le0, pI_gt0, pI_eq0, xbV_s, xbU_s, if_true, if_false, bI_eq0, Nat.reduceAdd, Nat.reduceSub, Nat.reduceEqDiff, Nat.reduceLeDiff, Nat.reduceLT, Bool.true_eq_false, Bool.false_eq_true, k9, r9_4, s9_whyMrg hI.2.1 hW (by omega : p < sq (zS α)), if_pos hp1, if_pos r, s9_rf0, e, f1, s9_total f3 hWS]
    · have hok : sOk (zS α) p = false := by unfold sOk; exact decide_eq_false (by omega)
      refine Agree.no 2 (by omega) (by decide) (fun I hI => ?_) (fun I hI => ?_)
      · show f_X8_merge [.ref 0, .int (nI p)] I = some (.inr 2, I)
        rw [e_X8_merge]
        simp (disch := omega) only [q_X8_merge_0, q_X8_merge_1, q_X8_merge_4, q_X8_merge_5, q_X8_merge_8, q_X8_merge_11, q_X8_merge_21, q_X8_merge_22, q_X8_merge_25, q_X8_merge_26, q_X8_merge_29, q_X8_merge_32, q_X8_merge_42, q_X8_merge_43, q_X8_merge_46, q_X8_merge_47, q_X8_merge_50, q_X8_merge_53, q_X8_merge_54, q_X8_merge_57, q_X8_merge_58, q_X8_merge_61, q_X8_merge_62, q_X8_merge_65, q_X8_merge_68, nI_add, pI_le, pI_lt, pI_eq, pI_neg, pI_nn, pI_le0, pI_gt0, pI_eq0, xbV_s, xbU_s, if_true, if_false, bI_eq0, Nat.reduceAdd, Nat.reduceSub, Nat.reduceEqDiff, Nat.reduceLeDiff, Nat.reduceLT, Bool.true_eq_false, Bool.false_eq_true, k0, k1, r0_0, s0_hasNext xCol_1 hI.2.1 hW, hx, s0_canJoin xCol_1 hI.2.1 hW (by omega : p < 1000), hok]
      · rw [e_X9_merge]
        simp (disch := omega) only [q_X9_merge_0, q_X9_merge_1, q_X9_merge_2, q_X9_merge_5, q_X9_merge_6, q_X9_merge_9, q_X9_merge_12, q_X9_merge_15, q_X9_merge_16, q_X9_merge_17, q_X9_merge_18, q_X9_merge_21, q_X9_merge_22, q_X9_merge_25, q_X9_merge_26, q_X9_merge_29, q_X9_merge_30, q_X9_merge_33, q_X9_merge_36, nI_add, pI_le, pI_lt, pI_eq, pI_neg, pI_nn, pI_le0, pI_gt0, pI_eq0, xbV_s, xbU_s, if_true, if_false, bI_eq0, Nat.reduceAdd, Nat.reduceSub, Nat.reduceEqDiff, Nat.reduceLeDiff, Nat.reduceLT, Bool.true_eq_false, Bool.false_eq_true, k9, r9_4, s9_whyMrg hI.2.1 hW (by omega : p < sq (zS α)), if_pos hp1, if_neg r, s9_rf2]
theorem op_compact : Agree0 f_X8_compact f_X9_compact [] α := Agree0.wf fun hw => by
  have k0 := x0
  have k1 := x1
  have k3 := x173
  have k9 := x189
  have hW := hw.1
  have hWS := sWF_cmp 10 hW
  refine ⟨nI (sCmp 10 (zS α)).2, zSet (zRem α) (sCmp 10 (zS α)).1, fun I hI => ?_, fun I hI => ?_⟩
  · obtain ⟨J, e, hJ, hG⟩ := hI.rem
    obtain ⟨I', f1, f2, f3⟩ := s0_jws xCol_1 hJ.2.1 hW
    refine ⟨I', ?_, hJ.set hWS f2 f3, hG.tr (f2.wd (by omega) (by omega))⟩
    rw [if_pos rfl, e_X8_compact]
    simp (disch := omega) only [q_X8_compact_0, q_X8_compact_1, q_X8_compact_4, q_X8_compact_5, q_X8_compact_8, q_X8_compact_11, q_X8_compact_12, q_X8_compact_15, q_X8_compact_18, nI_add, pI_le, pI_lt, pI_eq, pI_neg, pI_nn, pI_le0, pI_gt0, pI_eq0, xbV_s, xbU_s, if_true, if_false, bI_eq0, Nat.reduceAdd, Nat.reduceSub, Nat.reduceEqDiff, Nat.reduceLeDiff, Nat.reduceLT, Bool.true_eq_false, Bool.false_eq_true, k0, k1, k3, r0_0, r0_3, e, f1]
    rfl
  · obtain ⟨J, e, hJ, hG, -⟩ := hI.rem
    obtain ⟨I', f1, f2, f3⟩ := s9_compactOn hJ.2.1 hW
    refine ⟨I', ?_, hJ.set hWS f2 f3, hG.tr f2.z⟩
    rw [e_X9_compact]
    simp (disch := omega) only [q_X9_compact_0, q_X9_compact_1, q_X9_compact_4, q_X9_compact_5, q_X9_compact_8, q_X9_compact_11, nI_add, pI_le, pI_lt, pI_eq, pI_neg, pI_nn, pI_le0, pI_gt0, pI_eq0, xbV_s, xbU_s, if_true, if_false, bI_eq0, Nat.reduceAdd, Nat.reduceSub, Nat.reduceEqDiff, Nat.reduceLeDiff, Nat.reduceLT, Bool.true_eq_false, Bool.false_eq_true, k9, r9_4, e, f1]
    rfl
/-- what a pin may be -/
theorem xPin (y : Int32) : (xLt y 5 = false ∧ ¬ y = -9999) ∨ ∃ c, c ≤ 5 ∧ y = xpn c := by
  by_cases e : y = -9999
  · exact Or.inr ⟨0, by omega, e⟩
  · rcases xLt_cases y (n := 5) (by omega) with h | ⟨j, hj, rfl, h⟩
    · exact Or.inl ⟨h, e⟩
    · exact Or.inr ⟨j + 1, by omega, by unfold xpn; rw [if_neg (by omega)]; rfl⟩
theorem op_pin (x y : Int32) : Agree f_X8_pin f_X9_pin [.int x, .int y] [3, 1] α := Agree.wf fun hw => by
  have k0 := x0
  have k1 := x1
  have k3 := x173
  have k9 := x189
  have k91 := x191
  have l91 := l191
  have hW := hw.1
  have hq := hW.1
  cases hx : xLt x (sq (zS α)) with
  | false =>
    refine Agree.no 1 (by omega) (by decide) (fun I hI => ?_) (fun I hI => ?_)
    · show f_X8_pin [.ref 0, .int x, .int y] I = some (.inr 3, I)
      rw [e_X8_pin]
      simp (disch := omega) only [q_X8_pin_0, q_X8_pin_1, q_X8_pin_4, q_X8_pin_5, q_X8_pin_8, q_X8_pin_11, q_X8_pin_21, q_X8_pin_22, q_X8_pin_25, q_X8_pin_28, q_X8_pin_29, q_X8_pin_32, q_X8_pin_35, q_X8_pin_46, q_X8_pin_47, q_X8_pin_50, q_X8_pin_51, q_X8_pin_54, q_X8_pin_57, q_X8_pin_58, q_X8_pin_61, q_X8_pin_62, q_X8_pin_63, q_X8_pin_66, q_X8_pin_67, q_X8_pin_70, q_X8_pin_71, q_X8_pin_74, nI_add, pI_le, pI_lt, pI_eq, pI_neg, pI_nn, pI_le0, pI_gt0, pI_eq0, xbV_s, xbU_s, if_true, if_false, bI_eq0, Nat.reduceAdd, Nat.reduceSub, Nat.reduceEqDiff, Nat.reduceLeDiff, Nat.reduceLT, Bool.true_eq_false, Bool.false_eq_true, k0, k1, r0_0, s0_hasPage xCol_1 hI.2.1 hW, hx]
    · rw [e_X9_pin]
      simp (disch := omega) only [q_X9_pin_0, q_X9_pin_1, q_X9_pin_2, q_X9_pin_5, q_X9_pin_6, q_X9_pin_9, q_X9_pin_12, q_X9_pin_13, q_X9_pin_16, q_X9_pin_17, q_X9_pin_18, q_X9_pin_19, q_X9_pin_22, q_X9_pin_25, q_X9_pin_28, q_X9_pin_29, q_X9_pin_32, q_X9_pin_35, q_X9_pin_36, q_X9_pin_39, q_X9_pin_40, q_X9_pin_43, q_X9_pin_46, q_X9_pin_47, q_X9_pin_48, q_X9_pin_49, q_X9_pin_52, q_X9_pin_53, q_X9_pin_56, q_X9_pin_58, q_X9_pin_59, q_X9_pin_60, q_X9_pin_61, q_X9_pin_64, q_X9_pin_67, q_X9_pin_68, q_X9_pin_71, q_X9_pin_72, q_X9_pin_73, q_X9_pin_74, q_X9_pin_75, q_X9_pin_76, q_X9_pin_79, q_X9_pin_80, q_X9_pin_83, nI_add, pI_le, pI_lt, pI_eq, pI_neg, pI_nn, pI_le0, pI_gt0, pI_eq0, xbV_s, xbU_s, if_true, if_false, bI_eq0, Nat.reduceAdd, Nat.reduceSub, Nat.reduceEqDiff, Nat.reduceLeDiff, Nat.reduceLT, Bool.true_eq_false, Bool.false_eq_true, k9, r9_4, s9_isPage hI.2.1 hW, hx, s9_rf1]
  | true =>
    obtain ⟨p, hp, rfl⟩ := xLt_ex hx (by omega)
    rcases xPin y with ⟨h, hne⟩ | ⟨c, hc, rfl⟩
    · refine Agree.no 2 (by omega) (by decide) (fun I hI => ?_) (fun I hI => ?_)
      · show f_X8_pin [.ref 0, .int (nI p), .int y] I = some (.inr 1, I)
        rw [e_X8_pin]
        simp (disch := omega) only [q_X8_pin_0, q_X8_pin_1, q_X8_pin_4, q_X8_pin_5, q_X8_pin_8, q_X8_pin_11, q_X8_pin_21, q_X8_pin_22, q_X8_pin_25, q_X8_pin_28, q_X8_pin_29, q_X8_pin_32, q_X8_pin_35, q_X8_pin_46, q_X8_pin_47, q_X8_pin_50, q_X8_pin_51, q_X8_pin_54, q_X8_pin_57, q_X8_pin_58, q_X8_pin_61, q_X8_pin_62, q_X8_pin_63, q_X8_pin_66, q_X8_pin_67, q_X8_pin_70, q_X8_pin_71, q_X8_pin_74, nI_add, pI_le, pI_lt, pI_eq, pI_neg, pI_nn, pI_le0, pI_gt0, pI_eq0, xbV_s, xbU_s, if_true, if_false, bI_eq0, Nat.reduceAdd, Nat.reduceSub, Nat.reduceEqDiff, Nat.reduceLeDiff, Nat.reduceLT, Bool.true_eq_false, Bool.false_eq_true, k0, k1, r0_0, s0_hasPage xCol_1 hI.2.1 hW, hx, hne, s8_isCoding, h]
      · rw [e_X9_pin]
        simp (disch := omega) only [q_X9_pin_0, q_X9_pin_1, q_X9_pin_2, q_X9_pin_5, q_X9_pin_6, q_X9_pin_9, q_X9_pin_12, q_X9_pin_13, q_X9_pin_16, q_X9_pin_17, q_X9_pin_18, q_X9_pin_19, q_X9_pin_22, q_X9_pin_25, q_X9_pin_28, q_X9_pin_29, q_X9_pin_32, q_X9_pin_35, q_X9_pin_36, q_X9_pin_39, q_X9_pin_40, q_X9_pin_43, q_X9_pin_46, q_X9_pin_47, q_X9_pin_48, q_X9_pin_49, q_X9_pin_52, q_X9_pin_53, q_X9_pin_56, q_X9_pin_58, q_X9_pin_59, q_X9_pin_60, q_X9_pin_61, q_X9_pin_64, q_X9_pin_67, q_X9_pin_68, q_X9_pin_71, q_X9_pin_72, q_X9_pin_73, q_X9_pin_74, q_X9_pin_75, q_X9_pin_76, q_X9_pin_79, q_X9_pin_80, q_X9_pin_83, nI_add, pI_le, pI_lt, pI_eq, pI_neg, pI_nn, pI_le0, pI_gt0, pI_eq0, xbV_s, xbU_s, if_true, if_false, bI_eq0, Nat.reduceAdd, Nat.reduceSub, Nat.reduceEqDiff, Nat.reduceLeDiff, Nat.reduceLT, Bool.true_eq_false, Bool.false_eq_true, k9, r9_4, s9_isPage hI.2.1 hW, hx, s9_in4, h, hne, s9_rf2]
    · have hWS := sWF_pin hW (p := p) hc
      have hpS : p < sq (sPin (zS α) p c) := hp
      refine Agree.act (nI (sZ (sPin (zS α) p c) p)) (sPin (zS α) p c) (fun _ => hWS) (fun I J hI hR e => ?_) (fun I J hI hI' hR e => ?_)
      · obtain ⟨I1, f1, f2, f3⟩ := s0_pin (c := c) xCol_1 hR hW hp
        obtain ⟨I2, g1, g2, g3⟩ := s0_size xCol_1 f3 hWS hpS
        refine ⟨I2, ?_, f2.tr (g2.wd (by omega) (by omega)), g3⟩
        by_cases c0 : c = 0
        · subst c0
          have e9 : xpn 0 = -9999 := rfl
          rw [e9] at f1
          rw [e_X8_pin, e9]
          simp (disch := omega) only [q_X8_pin_0, q_X8_pin_1, q_X8_pin_4, q_X8_pin_5, q_X8_pin_8, q_X8_pin_11, q_X8_pin_21, q_X8_pin_22, q_X8_pin_25, q_X8_pin_28, q_X8_pin_29, q_X8_pin_32, q_X8_pin_35, q_X8_pin_46, q_X8_pin_47, q_X8_pin_50, q_X8_pin_51, q_X8_pin_54, q_X8_pin_57, q_X8_pin_58, q_X8_pin_61, q_X8_pin_62, q_X8_pin_63, q_X8_pin_66, q_X8_pin_67, q_X8_pin_70, q_X8_pin_71, q_X8_pin_74, nI_add, pI_le, pI_lt, pI_eq, pI_neg, pI_nn, pI_le0, pI_gt0, pI_eq0, xbV_s, xbU_s, if_true, if_false, bI_eq0, Nat.reduceAdd, Nat.reduceSub, Nat.reduceEqDiff, Nat.reduceLeDiff, Nat.reduceLT, Bool.true_eq_false, Bool.false_eq_true, k0, k1, k3, r0_0, r0_3, s0_hasPage xCol_1 hI.2.1 hW, hx, e, f1, g1]
        · have e9 : xpn c = nI (c - 1) := by unfold xpn; rw [if_neg c0]
          have e8 : xLt (nI (c - 1)) 5 = true := by rw [xLt_nI (by omega)]; exact decide_eq_true (by omega)
          rw [e9] at f1
          rw [e_X8_pin, e9]
          simp (disch := omega) only [q_X8_pin_0, q_X8_pin_1, q_X8_pin_4, q_X8_pin_5, q_X8_pin_8, q_X8_pin_11, q_X8_pin_21, q_X8_pin_22, q_X8_pin_25, q_X8_pin_28, q_X8_pin_29, q_X8_pin_32, q_X8_pin_35, q_X8_pin_46, q_X8_pin_47, q_X8_pin_50, q_X8_pin_51, q_X8_pin_54, q_X8_pin_57, q_X8_pin_58, q_X8_pin_61, q_X8_pin_62, q_X8_pin_63, q_X8_pin_66, q_X8_pin_67, q_X8_pin_70, q_X8_pin_71, q_X8_pin_74, nI_add, pI_le, pI_lt, pI_eq, pI_neg, pI_nn, pI_le0, pI_gt0, pI_eq0, xbV_s, xbU_s, if_true, if_false, bI_eq0, Nat.reduceAdd, Nat.reduceSub, Nat.reduceEqDiff, Nat.reduceLeDiff, Nat.reduceLT, Bool.true_eq_false, Bool.false_eq_true, k0, k1, k3, r0_0, r0_3, s0_hasPage xCol_1 hI.2.1 hW, hx, pI_ne9, s8_isCoding, e8, e, f1, g1]
      · have hR := mX.to (S := sPin (zS α) p c) x191 l191 (mX_p (mX.of hR) (p := p) (sq (zS α)) c (by omega) (fun j hj _ => hj) hq hq)
        refine ⟨xup J 191 (12 + p) (nI c), ?_, xO.rf.up, hR⟩
        by_cases c0 : c = 0
        · subst c0
          have e9 : xpn 0 = -9999 := rfl
          have e8 : xLt (-9999) 5 = false := by decide
          rw [e_X9_pin, e9]
          simp (disch := omega) only [q_X9_pin_0, q_X9_pin_1, q_X9_pin_2, q_X9_pin_5, q_X9_pin_6, q_X9_pin_9, q_X9_pin_12, q_X9_pin_13, q_X9_pin_16, q_X9_pin_17, q_X9_pin_18, q_X9_pin_19, q_X9_pin_22, q_X9_pin_25, q_X9_pin_28, q_X9_pin_29, q_X9_pin_32, q_X9_pin_35, q_X9_pin_36, q_X9_pin_39, q_X9_pin_40, q_X9_pin_43, q_X9_pin_46, q_X9_pin_47, q_X9_pin_48, q_X9_pin_49, q_X9_pin_52, q_X9_pin_53, q_X9_pin_56, q_X9_pin_58, q_X9_pin_59, q_X9_pin_60, q_X9_pin_61, q_X9_pin_64, q_X9_pin_67, q_X9_pin_68, q_X9_pin_71, q_X9_pin_72, q_X9_pin_73, q_X9_pin_74, q_X9_pin_75, q_X9_pin_76, q_X9_pin_79, q_X9_pin_80, q_X9_pin_83, nI_add, pI_le, pI_lt, pI_eq, pI_neg, pI_nn, pI_le0, pI_gt0, pI_eq0, xbV_s, xbU_s, if_true, if_false, bI_eq0, Nat.reduceAdd, Nat.reduceSub, Nat.reduceEqDiff, Nat.reduceLeDiff, Nat.reduceLT, Bool.true_eq_false, Bool.false_eq_true, k9, k91, l91, r9_4, s9_isPage hI.2.1 hW, hx, s9_in4, e8, s9_rf0, e, s9_size hR hWS hpS]
        · have e9 : xpn c = nI (c - 1) := by unfold xpn; rw [if_neg c0]
          have e8 : xLt (nI (c - 1)) 5 = true := by rw [xLt_nI (by omega)]; exact decide_eq_true (by omega)
          have e7 : c - 1 + 1 = c := by omega
          rw [e_X9_pin, e9]
          simp (disch := omega) only [q_X9_pin_0, q_X9_pin_1, q_X9_pin_2, q_X9_pin_5, q_X9_pin_6, q_X9_pin_9, q_X9_pin_12, q_X9_pin_13, q_X9_pin_16, q_X9_pin_17, q_X9_pin_18, q_X9_pin_19, q_X9_pin_22, q_X9_pin_25, q_X9_pin_28, q_X9_pin_29, q_X9_pin_32, q_X9_pin_35, q_X9_pin_36, q_X9_pin_39, q_X9_pin_40, q_X9_pin_43, q_X9_pin_46, q_X9_pin_47, q_X9_pin_48, q_X9_pin_49, q_X9_pin_52, q_X9_pin_53, q_X9_pin_56, q_X9_pin_58, q_X9_pin_59, q_X9_pin_60, q_X9_pin_61, q_X9_pin_64, q_X9_pin_67, q_X9_pin_68, q_X9_pin_71, q_X9_pin_72, q_X9_pin_73, q_X9_pin_74, q_X9_pin_75, q_X9_pin_76, q_X9_pin_79, q_X9_pin_80, q_X9_pin_83, nI_add, pI_le, pI_lt, pI_eq, pI_neg, pI_nn, pI_le0, pI_gt0, pI_eq0, xbV_s, xbU_s, if_true, if_false, bI_eq0, Nat.reduceAdd, Nat.reduceSub, Nat.reduceEqDiff, Nat.reduceLeDiff, Nat.reduceLT, Bool.true_eq_false, Bool.false_eq_true, k9, k91, l91, r9_4, s9_isPage hI.2.1 hW, hx, s9_in4, e8, pI_ne9, s9_rf0, e, e7, s9_size hR hWS hpS]
theorem b12 : (12 : Int64).toInt = (12 : Nat) := by decide
theorem b1 : (1 : Int64).toInt = (1 : Nat) := by decide
theorem s9_inL {x : Int32} {I : xMem} : f_X9_in [.long x.toInt64, .long 1, .long 12] I = some (.inl (some (.int (bI (xRg x 13)))), I) := by
  have e : decide ((1 : Int64).toInt ≤ x.toInt64.toInt ∧ x.toInt64.toInt ≤ (12 : Int64).toInt) = xRg x 13 := by
    rw [Int32.toInt_toInt64, b12, b1]
    unfold xRg
    by_cases q : 1 ≤ x.toInt ∧ x.toInt < (13 : Int)
    · rw [decide_eq_true (show 1 ≤ x.toInt ∧ x.toInt < ((13 : Nat) : Int) from q), decide_eq_true (by omega)]
    · rw [decide_eq_false (show ¬ (1 ≤ x.toInt ∧ x.toInt < ((13 : Nat) : Int)) from q), decide_eq_false (by omega)]
  rw [s9_in, e]
theorem op_limit (x : Int32) : Agree f_X8_setLimit f_X9_setLimit [.int x] [1] α := Agree.wf fun hw => by
  have k0 := x0
  have k1 := x1
  have k3 := x173
  have k9 := x189
  have k91 := x191
  have l91 := l191
  have hW := hw.1
  have hq := hW.1
  have hm := hW.2.1
  cases hx : xRg x 13 with
  | false =>
    refine Agree.no 1 (by omega) (by decide) (fun I hI => ?_) (fun I hI => ?_)
    · show f_X8_setLimit [.ref 0, .int x] I = some (.inr 1, I)
      unfold xRg at hx
      have hx := of_decide_eq_false hx
      rw [e_X8_setLimit]
      by_cases q : x < nI 1
      · simp (disch := omega) only [q_X8_setLimit_0, q_X8_setLimit_1, q_X8_setLimit_2, q_X8_setLimit_5, q_X8_setLimit_6, q_X8_setLimit_8, q_X8_setLimit_11, q_X8_setLimit_22, q_X8_setLimit_23, q_X8_setLimit_26, q_X8_setLimit_27, q_X8_setLimit_30, q_X8_setLimit_33, q_X8_setLimit_34, q_X8_setLimit_37, q_X8_setLimit_40, q_X8_setLimit_41, q_X8_setLimit_42, q_X8_setLimit_45, q_X8_setLimit_46, q_X8_setLimit_49, q_X8_setLimit_50, nI_add, pI_le, pI_lt, pI_eq, pI_neg, pI_nn, pI_le0, pI_gt0, pI_eq0, xbV_s, xbU_s, if_true, if_false, bI_eq0, Nat.reduceAdd, Nat.reduceSub, Nat.reduceEqDiff, Nat.reduceLeDiff, Nat.reduceLT, Bool.true_eq_false, Bool.false_eq_true, q]
      · have r : ¬ x ≤ nI 12 := by
          rw [Int32.lt_iff_toInt_lt, nI_toInt (by omega)] at q
          rw [Int32.le_iff_toInt_le, nI_toInt (by omega)]
          omega
        simp (disch := omega) only [q_X8_setLimit_0, q_X8_setLimit_1, q_X8_setLimit_2, q_X8_setLimit_5, q_X8_setLimit_6, q_X8_setLimit_8, q_X8_setLimit_11, q_X8_setLimit_22, q_X8_setLimit_23, q_X8_setLimit_26, q_X8_setLimit_27, q_X8_setLimit_30, q_X8_setLimit_33, q_X8_setLimit_34, q_X8_setLimit_37, q_X8_setLimit_40, q_X8_setLimit_41, q_X8_setLimit_42, q_X8_setLimit_45, q_X8_setLimit_46, q_X8_setLimit_49, q_X8_setLimit_50, nI_add, pI_le, pI_lt, pI_eq, pI_neg, pI_nn, pI_le0, pI_gt0, pI_eq0, xbV_s, xbU_s, if_true, if_false, bI_eq0, Nat.reduceAdd, Nat.reduceSub, Nat.reduceEqDiff, Nat.reduceLeDiff, Nat.reduceLT, Bool.true_eq_false, Bool.false_eq_true, q, r]
    · rw [e_X9_setLimit]
      simp (disch := omega) only [q_X9_setLimit_0, q_X9_setLimit_1, q_X9_setLimit_2, q_X9_setLimit_3, q_X9_setLimit_4, q_X9_setLimit_7, q_X9_setLimit_10, q_X9_setLimit_13, q_X9_setLimit_14, q_X9_setLimit_17, q_X9_setLimit_18, q_X9_setLimit_21, q_X9_setLimit_24, q_X9_setLimit_25, q_X9_setLimit_26, q_X9_setLimit_27, q_X9_setLimit_30, q_X9_setLimit_31, q_X9_setLimit_34, q_X9_setLimit_35, q_X9_setLimit_36, q_X9_setLimit_37, q_X9_setLimit_38, q_X9_setLimit_41, q_X9_setLimit_42, q_X9_setLimit_43, q_X9_setLimit_44, q_X9_setLimit_45, nI_add, pI_le, pI_lt, pI_eq, pI_neg, pI_nn, pI_le0, pI_gt0, pI_eq0, xbV_s, xbU_s, if_true, if_false, bI_eq0, Nat.reduceAdd, Nat.reduceSub, Nat.reduceEqDiff, Nat.reduceLeDiff, Nat.reduceLT, Bool.true_eq_false, Bool.false_eq_true, k9, s9_inL, hx, s9_rf1]
  | true =>
    obtain ⟨v, hv1, hv2, rfl⟩ := xRg_ex hx (by omega)
    refine Agree.act (nI (sm (zS α))) (sLim (zS α) v) (fun _ => sWF_lim hW hv1 (by omega)) (fun I J hI hR e => ?_) (fun I J hI hI' hR e => ?_)
    · obtain ⟨c1, c2, c3, c4, c5, c6⟩ := hR
      have g : J 1 6 = nI (sm (zS α)) := c3
      have n1 : ¬ v < 1 := by omega
      have n2 : v ≤ 12 := by omega
      refine ⟨xup J 1 6 (nI v), ?_, zG.rf.up (by omega) (by omega), ?_, ?_, ?_, fun j hj => ?_, fun j hj => ?_, fun j hj => ?_⟩
      · rw [e_X8_setLimit]
        simp (disch := omega) only [q_X8_setLimit_0, q_X8_setLimit_1, q_X8_setLimit_2, q_X8_setLimit_5, q_X8_setLimit_6, q_X8_setLimit_8, q_X8_setLimit_11, q_X8_setLimit_22, q_X8_setLimit_23, q_X8_setLimit_26, q_X8_setLimit_27, q_X8_setLimit_30, q_X8_setLimit_33, q_X8_setLimit_34, q_X8_setLimit_37, q_X8_setLimit_40, q_X8_setLimit_41, q_X8_setLimit_42, q_X8_setLimit_45, q_X8_setLimit_46, q_X8_setLimit_49, q_X8_setLimit_50, nI_add, pI_le, pI_lt, pI_eq, pI_neg, pI_nn, pI_le0, pI_gt0, pI_eq0, xbV_s, xbU_s, if_true, if_false, bI_eq0, Nat.reduceAdd, Nat.reduceSub, Nat.reduceEqDiff, Nat.reduceLeDiff, Nat.reduceLT, Bool.true_eq_false, Bool.false_eq_true, k0, k1, k3, r0_0, r0_3, n1, n2, e, g]
      · rw [xup_d (by omega)]; exact c1
      · rw [xup_d (by omega)]; exact c2
      · rw [xup_s]; rfl
      · rw [xup_o (by omega)]; exact c4 j hj
      · rw [xup_o (by omega)]; exact c5 j hj
      · rw [xup_o (by omega)]; exact c6 j hj
    · have g : J 191 1 = nI (sm (zS α)) := hR.2.2.2.1
      refine ⟨xup J 191 1 (nI v), ?_, xO.rf.up, mX.to x191 l191 (mX_lim (mX.of hR) v)⟩
      rw [e_X9_setLimit]
      simp (disch := omega) only [q_X9_setLimit_0, q_X9_setLimit_1, q_X9_setLimit_2, q_X9_setLimit_3, q_X9_setLimit_4, q_X9_setLimit_7, q_X9_setLimit_10, q_X9_setLimit_13, q_X9_setLimit_14, q_X9_setLimit_17, q_X9_setLimit_18, q_X9_setLimit_21, q_X9_setLimit_24, q_X9_setLimit_25, q_X9_setLimit_26, q_X9_setLimit_27, q_X9_setLimit_30, q_X9_setLimit_31, q_X9_setLimit_34, q_X9_setLimit_35, q_X9_setLimit_36, q_X9_setLimit_37, q_X9_setLimit_38, q_X9_setLimit_41, q_X9_setLimit_42, q_X9_setLimit_43, q_X9_setLimit_44, q_X9_setLimit_45, nI_add, pI_le, pI_lt, pI_eq, pI_neg, pI_nn, pI_le0, pI_gt0, pI_eq0, xbV_s, xbU_s, if_true, if_false, bI_eq0, Nat.reduceAdd, Nat.reduceSub, Nat.reduceEqDiff, Nat.reduceLeDiff, Nat.reduceLT, Bool.true_eq_false, Bool.false_eq_true, k9, k91, l91, r9_4, s9_inL, hx, s9_rf0, e, g]
theorem op_undo : Agree f_X8_undo f_X9_undo [] [2] α := Agree.wf fun hw => by
  have k0 := x0
  have k1 := x1
  have k3 := x173
  have k9 := x189
  by_cases q : zA α = 0
  · refine Agree.no 1 (by omega) (by decide) (fun I hI => ?_) (fun I hI => ?_)
    · show f_X8_undo [.ref 0] I = some (.inr 2, I)
      have g := hI.2.2.1.1
      rw [q] at g
      rw [e_X8_undo]
      simp (disch := omega) only [q_X8_undo_0, q_X8_undo_1, q_X8_undo_4, q_X8_undo_7, q_X8_undo_10, q_X8_undo_21, q_X8_undo_22, q_X8_undo_25, q_X8_undo_26, q_X8_undo_29, q_X8_undo_32, nI_add, pI_le, pI_lt, pI_eq, pI_neg, pI_nn, pI_le0, pI_gt0, pI_eq0, xbV_s, xbU_s, if_true, if_false, bI_eq0, Nat.reduceAdd, Nat.reduceSub, Nat.reduceEqDiff, Nat.reduceLeDiff, Nat.reduceLT, Bool.true_eq_false, Bool.false_eq_true, k0, k3, r0_3, g]
    · have g := hI.2.2.1.1
      rw [q] at g
      rw [e_X9_undo]
      simp (disch := omega) only [q_X9_undo_0, q_X9_undo_1, q_X9_undo_2, q_X9_undo_5, q_X9_undo_8, q_X9_undo_9, q_X9_undo_12, q_X9_undo_13, q_X9_undo_16, q_X9_undo_19, q_X9_undo_20, q_X9_undo_21, q_X9_undo_22, q_X9_undo_23, q_X9_undo_26, q_X9_undo_27, q_X9_undo_28, q_X9_undo_31, q_X9_undo_32, q_X9_undo_35, q_X9_undo_38, q_X9_undo_39, q_X9_undo_42, q_X9_undo_43, q_X9_undo_44, q_X9_undo_47, q_X9_undo_48, q_X9_undo_51, q_X9_undo_52, q_X9_undo_55, nI_add, pI_le, pI_lt, pI_eq, pI_neg, pI_nn, pI_le0, pI_gt0, pI_eq0, xbV_s, xbU_s, if_true, if_false, bI_eq0, Nat.reduceAdd, Nat.reduceSub, Nat.reduceEqDiff, Nat.reduceLeDiff, Nat.reduceLT, Bool.true_eq_false, Bool.false_eq_true, k9, g, s9_rf1]
  · have hA := hw.2.1.1
    have hWS := hw.2.1.2 (zA α - 1) (by omega)
    refine ⟨0, nI (zA α - 1), (zH α (zA α - 1), zH α, zA α - 1, zK α, zt α, zL α), by decide, fun I hI => ?_, fun I hI => ?_⟩
    · obtain ⟨hw, h2, h3, h4, h5⟩ := hI
      obtain ⟨I', f1, f2, f3, f4, f5⟩ := s1_takeBack h3 (by omega) hWS
      have g := h3.1
      refine ⟨I', ?_, ⟨⟨hWS, ⟨by show zA α - 1 ≤ 14; omega, fun i hi => hw.2.1.2 i (by have hi : i < zA α - 1 := hi; omega)⟩, hw.2.2⟩, f4, f5, h4.cg (fun c h6 h7 => f2 c (by omega) (by omega)) (f2 _ (by omega) (by omega)), h5.cg (by rw [f2 163 (by omega) (by omega)]) (f2 _ (by omega) (by omega))⟩, fun c hc => f2 c (by omega) (by omega)⟩
      rw [if_pos rfl, e_X8_undo]
      simp (disch := omega) only [q_X8_undo_0, q_X8_undo_1, q_X8_undo_4, q_X8_undo_7, q_X8_undo_10, q_X8_undo_21, q_X8_undo_22, q_X8_undo_25, q_X8_undo_26, q_X8_undo_29, q_X8_undo_32, nI_add, pI_le, pI_lt, pI_eq, pI_neg, pI_nn, pI_le0, pI_gt0, pI_eq0, xbV_s, xbU_s, if_true, if_false, bI_eq0, Nat.reduceAdd, Nat.reduceSub, Nat.reduceEqDiff, Nat.reduceLeDiff, Nat.reduceLT, Bool.true_eq_false, Bool.false_eq_true, k0, k1, k3, r0_0, r0_3, g, q, f1]
    · obtain ⟨hw, h2, h3, h4, h5⟩ := hI
      have g := h3.1
      have e9 : nI (zA α) - nI 1 = nI (zA α - 1) := pI_sub (by omega)
      have l4 := l194
      have l1 := l191
      obtain ⟨I1, f1, f2, f3, f4⟩ := s9_cpc (I := xup (xup I 189 0 (nI 0)) 189 8 (nI (zA α - 1))) (f := 194) (fa := 142 * (zA α - 1)) (t := 191) (ta := 0) x194 x191 (by omega) (by omega) (by omega) (by omega) (by omega)
      have e1 : I1 189 = (xup (xup I 189 0 (nI 0)) 189 8 (nI (zA α - 1))) 189 := f2 189 (by omega)
      have gD := h3.2.2 (zA α - 1) (by omega)
      refine ⟨I1, ?_, ⟨⟨hWS, ⟨by show zA α - 1 ≤ 14; omega, fun i hi => hw.2.1.2 i (by have hi : i < zA α - 1 := hi; omega)⟩, hw.2.2⟩, mC.r x191 l191 (mC.cg hWS gD (fun k hk => ?_)), ⟨?_, by show zA α - 1 ≤ 14; omega, fun i hi => ?_⟩, h4.cg (by rw [f2 _ (by omega), xup_o (by omega), xup_o (by omega)]) (by rw [f2 _ (by omega), xup_o (by omega), xup_o (by omega)]), h5.cg (by rw [e1, xup_d (by omega), xup_d (by omega)]) (by rw [f2 _ (by omega), xup_o (by omega), xup_o (by omega)])⟩, (zG.rf.up (by omega) (by omega) |>.up (by omega) (by omega)).tr f2.z, ?_⟩
      · rw [if_pos rfl, e_X9_undo]
        simp (disch := omega) only [q_X9_undo_0, q_X9_undo_1, q_X9_undo_2, q_X9_undo_5, q_X9_undo_8, q_X9_undo_9, q_X9_undo_12, q_X9_undo_13, q_X9_undo_16, q_X9_undo_19, q_X9_undo_20, q_X9_undo_21, q_X9_undo_22, q_X9_undo_23, q_X9_undo_26, q_X9_undo_27, q_X9_undo_28, q_X9_undo_31, q_X9_undo_32, q_X9_undo_35, q_X9_undo_38, q_X9_undo_39, q_X9_undo_42, q_X9_undo_43, q_X9_undo_44, q_X9_undo_47, q_X9_undo_48, q_X9_undo_51, q_X9_undo_52, q_X9_undo_55, nI_add, pI_le, pI_lt, pI_eq, pI_neg, pI_nn, pI_le0, pI_gt0, pI_eq0, xbV_s, xbU_s, if_true, if_false, bI_eq0, Nat.reduceAdd, Nat.reduceSub, Nat.reduceEqDiff, Nat.reduceLeDiff, Nat.reduceLT, Bool.true_eq_false, Bool.false_eq_true, k9, r9_4, r9_7, g, q, s9_rf0, xup_d, xup_s, e9, pk_mul, f1, e1]
      · have := f3 k hk
        rw [Nat.zero_add] at this
        rw [this, xup_o (by omega), xup_o (by omega)]
      · rw [e1, xup_s]
      · have hi : i < zA α - 1 := hi
        have := h3.2.2 i (by omega)
        have e : I1 194 = I 194 := by rw [f2 _ (by omega), xup_o (by omega), xup_o (by omega)]
        rw [e]
        exact this
      · rw [e1, xup_d (by omega), xup_s]
theorem s9_in1 {x : Int32} {I : xMem} : f_X9_in [.long x.toInt64, .long 0, .long 1] I = some (.inl (some (.int (bI (xLt x 2)))), I) := by rw [s9_in, xIn (b := 1) (by omega) b1]
theorem x196 : xK 196 = 11 := by decide
theorem l196 : xL 196 = 2 := by decide
theorem r9_10 : xR 189 10 = 196 := by decide
theorem x178 : xK 178 = 7 := by decide
theorem op_save (x : Int32) : Agree f_X8_save f_X9_save [.int x] [3] α := Agree.wf fun hw => by
  have k0 := x0
  have k1 := x1
  have k3 := x178
  have k9 := x189
  have k96 := x196
  have l96 := l196
  have hW := hw.1
  have hn := sn_120 hW
  rcases xLt_cases x (n := 2) (by omega) with h | ⟨s, hs, rfl, h⟩
  · refine Agree.no 1 (by omega) (by decide) (fun I hI => ?_) (fun I hI => ?_)
    · show f_X8_save [.ref 0, .int x] I = some (.inr 3, I)
      rw [e_X8_save]
      rcases xLt_no h (by omega) with q | ⟨q, r⟩
      · simp (disch := omega) only [q_X8_save_0, q_X8_save_1, q_X8_save_4, q_X8_save_5, q_X8_save_6, q_X8_save_9, q_X8_save_20, q_X8_save_21, q_X8_save_24, q_X8_save_25, q_X8_save_26, q_X8_save_29, q_X8_save_32, q_X8_save_33, q_X8_save_36, q_X8_save_39, nI_add, pI_le, pI_lt, pI_eq, pI_neg, pI_nn, pI_le0, pI_gt0, pI_eq0, xbV_s, xbU_s, if_true, if_false, bI_eq0, Nat.reduceAdd, Nat.reduceSub, Nat.reduceEqDiff, Nat.reduceLeDiff, Nat.reduceLT, Bool.true_eq_false, Bool.false_eq_true, q]
      · have r' : (x < nI 2) = False := by
          apply eq_false
          have r := of_eq_true r
          rw [Int32.le_iff_toInt_le] at r
          rw [Int32.lt_iff_toInt_lt]
          omega
        simp (disch := omega) only [q_X8_save_0, q_X8_save_1, q_X8_save_4, q_X8_save_5, q_X8_save_6, q_X8_save_9, q_X8_save_20, q_X8_save_21, q_X8_save_24, q_X8_save_25, q_X8_save_26, q_X8_save_29, q_X8_save_32, q_X8_save_33, q_X8_save_36, q_X8_save_39, nI_add, pI_le, pI_lt, pI_eq, pI_neg, pI_nn, pI_le0, pI_gt0, pI_eq0, xbV_s, xbU_s, if_true, if_false, bI_eq0, Nat.reduceAdd, Nat.reduceSub, Nat.reduceEqDiff, Nat.reduceLeDiff, Nat.reduceLT, Bool.true_eq_false, Bool.false_eq_true, q, r']
    · rw [e_X9_save]
      simp (disch := omega) only [q_X9_save_0, q_X9_save_1, q_X9_save_2, q_X9_save_3, q_X9_save_4, q_X9_save_5, q_X9_save_8, q_X9_save_11, q_X9_save_12, q_X9_save_15, q_X9_save_16, q_X9_save_19, q_X9_save_22, q_X9_save_23, q_X9_save_24, q_X9_save_25, q_X9_save_28, q_X9_save_29, q_X9_save_30, q_X9_save_33, q_X9_save_36, q_X9_save_37, q_X9_save_38, q_X9_save_41, q_X9_save_42, q_X9_save_45, q_X9_save_46, q_X9_save_47, q_X9_save_48, q_X9_save_49, q_X9_save_52, q_X9_save_55, nI_add, pI_le, pI_lt, pI_eq, pI_neg, pI_nn, pI_le0, pI_gt0, pI_eq0, xbV_s, xbU_s, if_true, if_false, bI_eq0, Nat.reduceAdd, Nat.reduceSub, Nat.reduceEqDiff, Nat.reduceLeDiff, Nat.reduceLT, Bool.true_eq_false, Bool.false_eq_true, k9, s9_in1, h, s9_rf1]
  · have n1 : s < 2 := hs
    refine ⟨0, nI (sn (zS α)), (zS α, zH α, zA α, fun j => if j = s then some (zS α) else zK α j, zt α, zL α), by decide, fun I hI => ?_, fun I hI => ?_⟩
    · obtain ⟨hw, h2, h3, h4, h5⟩ := hI
      obtain ⟨I', f1, f2, f3, f4, f5⟩ := s7_store (I := I) xShf_s hs xCol_1 (xCol_s hs) (by omega) (by omega) h2 hW
      have g := h2.1
      have e1 : I' 1 = I 1 := f2 1 (by omega) (by omega)
      refine ⟨I', ?_, ⟨⟨hW, hw.2.1, fun j hj S hS => ?_, hw.2.2.2⟩, h2.cg (fun c h6 h7 => f2 c (by omega) (by omega)), h3.cg (fun c h6 h7 => f2 c (by omega) (by omega)) (f2 _ (by omega) (by omega)), fun j hj => ?_, h5.cg (by rw [f2 163 (by omega) (by omega)]) (f2 _ (by omega) (by omega))⟩, fun c hc => f2 c (by omega) (by omega)⟩
      · rw [if_pos rfl, e_X8_save]
        simp (disch := omega) only [q_X8_save_0, q_X8_save_1, q_X8_save_4, q_X8_save_5, q_X8_save_6, q_X8_save_9, q_X8_save_20, q_X8_save_21, q_X8_save_24, q_X8_save_25, q_X8_save_26, q_X8_save_29, q_X8_save_32, q_X8_save_33, q_X8_save_36, q_X8_save_39, nI_add, pI_le, pI_lt, pI_eq, pI_neg, pI_nn, pI_le0, pI_gt0, pI_eq0, xbV_s, xbU_s, if_true, if_false, bI_eq0, Nat.reduceAdd, Nat.reduceSub, Nat.reduceEqDiff, Nat.reduceLeDiff, Nat.reduceLT, Bool.true_eq_false, Bool.false_eq_true, k0, k1, k3, r0_0, r0_4, n1, f1, e1, g]
      · have hS : (if j = s then some (zS α) else zK α j) = some S := hS
        by_cases e : j = s
        · rw [if_pos e] at hS
          cases hS
          exact hW
        · rw [if_neg e] at hS
          exact hw.2.2.1 j hj S hS
      · show I' 181 j = nI (oN (if j = s then some (zS α) else zK α j)) ∧ ∀ S, (if j = s then some (zS α) else zK α j) = some S → cR I' (145 + 9 * j) S
        by_cases e : j = s
        · subst e
          rw [if_pos rfl]
          exact ⟨f4, fun S hS => by cases hS; exact f3⟩
        · rw [if_neg e]
          obtain ⟨j1, j2⟩ := h4 j hj
          exact ⟨by rw [f5 j e]; exact j1, fun S hS => (j2 S hS).cg (fun c h6 h7 => f2 c (by omega) (by omega))⟩
    · obtain ⟨hw, h2, h3, h4, h5⟩ := hI
      have l1 := l191
      have l5 := l195
      have h2' := (h2.cg (xup_o (I := I) (a := 189) (k := 0) (x := nI 0) (show (191 : Nat) ≠ 189 by omega)))
      obtain ⟨I1, f1, f2, f3, f4⟩ := s9_cpc (I := xup I 189 0 (nI 0)) (f := 191) (fa := 0) (t := 195) (ta := 142 * s) x191 x195 (by omega) (by omega) (by omega) (by omega) (by omega)
      have h2'' : mR (xup I1 196 s (nI 1)) 191 (zS α) := h2'.cg (by rw [xup_o (by omega)]; exact f2 191 (by omega))
      refine ⟨xup I1 196 s (nI 1), ?_, ⟨⟨hW, hw.2.1, fun j hj S hS => ?_, hw.2.2.2⟩, h2'', h3.cg (by rw [xup_o (by omega), f2 _ (by omega), xup_d (by omega)]) (by rw [xup_o (by omega), f2 _ (by omega), xup_o (by omega)]), fun j hj => ?_, h5.cg (by rw [xup_o (by omega), f2 _ (by omega), xup_d (by omega)]) (by rw [xup_o (by omega), f2 _ (by omega), xup_o (by omega)])⟩, ((zG.rf.up (by omega) (by omega)).tr (fun c hc => f2 c (by omega))).up (by omega) (by omega), ?_⟩
      · rw [if_pos rfl, e_X9_save]
        have nb : vp_nar .boolean (nI 1) = nI 1 := by decide
        simp (disch := omega) only [q_X9_save_0, q_X9_save_1, q_X9_save_2, q_X9_save_3, q_X9_save_4, q_X9_save_5, q_X9_save_8, q_X9_save_11, q_X9_save_12, q_X9_save_15, q_X9_save_16, q_X9_save_19, q_X9_save_22, q_X9_save_23, q_X9_save_24, q_X9_save_25, q_X9_save_28, q_X9_save_29, q_X9_save_30, q_X9_save_33, q_X9_save_36, q_X9_save_37, q_X9_save_38, q_X9_save_41, q_X9_save_42, q_X9_save_45, q_X9_save_46, q_X9_save_47, q_X9_save_48, q_X9_save_49, q_X9_save_52, q_X9_save_55, nI_add, pI_le, pI_lt, pI_eq, pI_neg, pI_nn, pI_le0, pI_gt0, pI_eq0, xbV_s, xbU_s, if_true, if_false, bI_eq0, Nat.reduceAdd, Nat.reduceSub, Nat.reduceEqDiff, Nat.reduceLeDiff, Nat.reduceLT, Bool.true_eq_false, Bool.false_eq_true, k9, k96, l96, r9_4, r9_9, r9_10, s9_in1, h, s9_rf0, pk_mul, f1, nb, s9_values h2'' hW]
      · have hS : (if j = s then some (zS α) else zK α j) = some S := hS
        by_cases e : j = s
        · rw [if_pos e] at hS
          cases hS
          exact hW
        · rw [if_neg e] at hS
          exact hw.2.2.1 j hj S hS
      · show xup I1 196 s (nI 1) 196 j = nI (oN (if j = s then some (zS α) else zK α j)) ∧ ∀ S, (if j = s then some (zS α) else zK α j) = some S → mC (fun k => xup I1 196 s (nI 1) 195 (142 * j + k)) S
        rw [xup_o (show (195 : Nat) ≠ 196 by omega)]
        by_cases e : j = s
        · subst e
          rw [if_pos rfl, xup_s]
          refine ⟨rfl, fun S hS => ?_⟩
          cases hS
          exact mC.cg hW h2'.c (fun k hk => by rw [f3 k hk, Nat.zero_add])
        · rw [if_neg e, xup_d e]
          obtain ⟨j1, j2⟩ := h4 j hj
          refine ⟨by rw [f2 _ (by omega), xup_o (by omega)]; exact j1, fun S hS => mC.cg (hw.2.2.1 j hj S hS) (j2 S hS) (fun k hk => by rw [f4 _ (by omega), xup_o (by omega)])⟩
      · rw [xup_o (by omega), f2 _ (by omega), xup_s]
theorem op_restore (x : Int32) : Agree f_X8_restore f_X9_restore [.int x] [3, 2] α := Agree.wf fun hw => by
  have k0 := x0
  have k1 := x1
  have k3 := x178
  have k73 := x173
  have k9 := x189
  have k96 := x196
  have l96 := l196
  rcases xLt_cases x (n := 2) (by omega) with h | ⟨s, hs, rfl, h⟩
  · refine Agree.no 1 (by omega) (by decide) (fun I hI => ?_) (fun I hI => ?_)
    · show f_X8_restore [.ref 0, .int x] I = some (.inr 3, I)
      rw [e_X8_restore]
      rcases xLt_no h (by omega) with q | ⟨q, r⟩
      · simp (disch := omega) only [q_X8_restore_0, q_X8_restore_1, q_X8_restore_4, q_X8_restore_5, q_X8_restore_6, q_X8_restore_9, q_X8_restore_20, q_X8_restore_21, q_X8_restore_24, q_X8_restore_25, q_X8_restore_28, q_X8_restore_31, q_X8_restore_42, q_X8_restore_43, q_X8_restore_46, q_X8_restore_47, q_X8_restore_48, q_X8_restore_51, q_X8_restore_54, q_X8_restore_55, q_X8_restore_58, q_X8_restore_61, q_X8_restore_62, q_X8_restore_65, q_X8_restore_68, nI_add, pI_le, pI_lt, pI_eq, pI_neg, pI_nn, pI_le0, pI_gt0, pI_eq0, xbV_s, xbU_s, if_true, if_false, bI_eq0, Nat.reduceAdd, Nat.reduceSub, Nat.reduceEqDiff, Nat.reduceLeDiff, Nat.reduceLT, Bool.true_eq_false, Bool.false_eq_true, q]
      · have r' : (x < nI 2) = False := by
          apply eq_false
          have r := of_eq_true r
          rw [Int32.le_iff_toInt_le] at r
          rw [Int32.lt_iff_toInt_lt]
          omega
        simp (disch := omega) only [q_X8_restore_0, q_X8_restore_1, q_X8_restore_4, q_X8_restore_5, q_X8_restore_6, q_X8_restore_9, q_X8_restore_20, q_X8_restore_21, q_X8_restore_24, q_X8_restore_25, q_X8_restore_28, q_X8_restore_31, q_X8_restore_42, q_X8_restore_43, q_X8_restore_46, q_X8_restore_47, q_X8_restore_48, q_X8_restore_51, q_X8_restore_54, q_X8_restore_55, q_X8_restore_58, q_X8_restore_61, q_X8_restore_62, q_X8_restore_65, q_X8_restore_68, nI_add, pI_le, pI_lt, pI_eq, pI_neg, pI_nn, pI_le0, pI_gt0, pI_eq0, xbV_s, xbU_s, if_true, if_false, bI_eq0, Nat.reduceAdd, Nat.reduceSub, Nat.reduceEqDiff, Nat.reduceLeDiff, Nat.reduceLT, Bool.true_eq_false, Bool.false_eq_true, q, r']
    · rw [e_X9_restore]
      simp (disch := omega) only [q_X9_restore_0, q_X9_restore_1, q_X9_restore_2, q_X9_restore_3, q_X9_restore_4, q_X9_restore_5, q_X9_restore_8, q_X9_restore_11, q_X9_restore_12, q_X9_restore_15, q_X9_restore_16, q_X9_restore_19, q_X9_restore_20, q_X9_restore_21, q_X9_restore_24, q_X9_restore_25, q_X9_restore_28, q_X9_restore_29, q_X9_restore_32, q_X9_restore_35, q_X9_restore_36, q_X9_restore_37, q_X9_restore_38, q_X9_restore_41, q_X9_restore_44, q_X9_restore_45, q_X9_restore_46, q_X9_restore_47, q_X9_restore_50, q_X9_restore_51, q_X9_restore_54, q_X9_restore_55, q_X9_restore_56, q_X9_restore_59, q_X9_restore_60, q_X9_restore_63, q_X9_restore_66, nI_add, pI_le, pI_lt, pI_eq, pI_neg, pI_nn, pI_le0, pI_gt0, pI_eq0, xbV_s, xbU_s, if_true, if_false, bI_eq0, Nat.reduceAdd, Nat.reduceSub, Nat.reduceEqDiff, Nat.reduceLeDiff, Nat.reduceLT, Bool.true_eq_false, Bool.false_eq_true, k9, s9_in1, h, s9_rf1]
  · have n1 : s < 2 := hs
    cases hK : zK α s with
    | none =>
      refine Agree.no 2 (by omega) (by decide) (fun I hI => ?_) (fun I hI => ?_)
      · show f_X8_restore [.ref 0, .int (nI s)] I = some (.inr 2, I)
        have g := (hI.2.2.2.1 s hs).1
        rw [hK] at g
        have hf := s7_filled (I := I) (x := 0) xShf_s hs g (by omega)
        rw [e_X8_restore]
        simp (disch := omega) only [q_X8_restore_0, q_X8_restore_1, q_X8_restore_4, q_X8_restore_5, q_X8_restore_6, q_X8_restore_9, q_X8_restore_20, q_X8_restore_21, q_X8_restore_24, q_X8_restore_25, q_X8_restore_28, q_X8_restore_31, q_X8_restore_42, q_X8_restore_43, q_X8_restore_46, q_X8_restore_47, q_X8_restore_48, q_X8_restore_51, q_X8_restore_54, q_X8_restore_55, q_X8_restore_58, q_X8_restore_61, q_X8_restore_62, q_X8_restore_65, q_X8_restore_68, nI_add, pI_le, pI_lt, pI_eq, pI_neg, pI_nn, pI_le0, pI_gt0, pI_eq0, xbV_s, xbU_s, if_true, if_false, bI_eq0, Nat.reduceAdd, Nat.reduceSub, Nat.reduceEqDiff, Nat.reduceLeDiff, Nat.reduceLT, Bool.true_eq_false, Bool.false_eq_true, k0, k3, r0_4, n1, hf]
      · have g := (hI.2.2.2.1 s hs).1
        rw [hK] at g
        have g : I 196 s = nI 0 := g
        rw [e_X9_restore]
        simp (disch := omega) only [q_X9_restore_0, q_X9_restore_1, q_X9_restore_2, q_X9_restore_3, q_X9_restore_4, q_X9_restore_5, q_X9_restore_8, q_X9_restore_11, q_X9_restore_12, q_X9_restore_15, q_X9_restore_16, q_X9_restore_19, q_X9_restore_20, q_X9_restore_21, q_X9_restore_24, q_X9_restore_25, q_X9_restore_28, q_X9_restore_29, q_X9_restore_32, q_X9_restore_35, q_X9_restore_36, q_X9_restore_37, q_X9_restore_38, q_X9_restore_41, q_X9_restore_44, q_X9_restore_45, q_X9_restore_46, q_X9_restore_47, q_X9_restore_50, q_X9_restore_51, q_X9_restore_54, q_X9_restore_55, q_X9_restore_56, q_X9_restore_59, q_X9_restore_60, q_X9_restore_63, q_X9_restore_66, nI_add, pI_le, pI_lt, pI_eq, pI_neg, pI_nn, pI_le0, pI_gt0, pI_eq0, xbV_s, xbU_s, if_true, if_false, bI_eq0, Nat.reduceAdd, Nat.reduceSub, Nat.reduceEqDiff, Nat.reduceLeDiff, Nat.reduceLT, Bool.true_eq_false, Bool.false_eq_true, k9, k96, l96, r9_10, s9_in1, h, g, s9_rf2]
    | some S =>
      have hWS := hw.2.2.1 s hs S hK
      have hn := sn_120 hWS
      refine ⟨0, nI (sn S), (S, zH α, 0, zK α, zt α, zL α), by decide, fun I hI => ?_, fun I hI => ?_⟩
      · obtain ⟨hw, h2, h3, h4, h5⟩ := hI
        obtain ⟨g, g2⟩ := h4 s hs
        rw [hK] at g
        have hf := s7_filled (I := I) (x := 1) xShf_s hs g (by omega)
        obtain ⟨I1, f1, f2, f3⟩ := s7_fetch (I := I) xShf_s hs xCol_1 (xCol_s hs) (by omega) (g2 S hK) hWS
        obtain ⟨I2, j1, j2, j3⟩ := s1_forget (h3.cg (I' := I1) (fun c h6 h7 => f2 c (by omega)) (f2 _ (by omega)))
        have f3' : cR I2 1 S := f3.cg (fun c h6 h7 => j2 c (by omega))
        have g3 := f3'.1
        refine ⟨I2, ?_, ⟨⟨hWS, ⟨Nat.zero_le _, fun i hi => absurd hi (Nat.not_lt_zero _)⟩, hw.2.2⟩, f3', j3, h4.cg (fun c h6 h7 => by rw [j2 c (by omega), f2 c (by omega)]) (by rw [j2 _ (by omega), f2 _ (by omega)]), h5.cg (by rw [j2 _ (by omega), f2 _ (by omega)]) (by rw [j2 _ (by omega), f2 _ (by omega)])⟩, (f2.wd (by omega) (by omega)).tr (fun c hc => j2 c (by omega))⟩
        rw [if_pos rfl, e_X8_restore]
        simp (disch := omega) only [q_X8_restore_0, q_X8_restore_1, q_X8_restore_4, q_X8_restore_5, q_X8_restore_6, q_X8_restore_9, q_X8_restore_20, q_X8_restore_21, q_X8_restore_24, q_X8_restore_25, q_X8_restore_28, q_X8_restore_31, q_X8_restore_42, q_X8_restore_43, q_X8_restore_46, q_X8_restore_47, q_X8_restore_48, q_X8_restore_51, q_X8_restore_54, q_X8_restore_55, q_X8_restore_58, q_X8_restore_61, q_X8_restore_62, q_X8_restore_65, q_X8_restore_68, nI_add, pI_le, pI_lt, pI_eq, pI_neg, pI_nn, pI_le0, pI_gt0, pI_eq0, xbV_s, xbU_s, if_true, if_false, bI_eq0, Nat.reduceAdd, Nat.reduceSub, Nat.reduceEqDiff, Nat.reduceLeDiff, Nat.reduceLT, Bool.true_eq_false, Bool.false_eq_true, k0, k1, k3, k73, r0_0, r0_3, r0_4, n1, hf, f1, j1, g3]
      · obtain ⟨hw, h2, h3, h4, h5⟩ := hI
        obtain ⟨g, g2⟩ := h4 s hs
        rw [hK] at g
        have g : I 196 s = nI 1 := g
        have l1 := l191
        have l5 := l195
        obtain ⟨I1, f1, f2, f3, f4⟩ := s9_cpc (I := xup I 189 0 (nI 0)) (f := 195) (fa := 142 * s) (t := 191) (ta := 0) x195 x191 (by omega) (by omega) (by omega) (by omega) (by omega)
        have hR : mR (xup I1 189 8 (nI 0)) 191 S := mC.r x191 l191 (mC.cg hWS (g2 S hK) (fun k hk => by
          have := f3 k hk
          rw [Nat.zero_add] at this
          rw [xup_o (by omega), this, xup_o (by omega)]))
        refine ⟨xup I1 189 8 (nI 0), ?_, ⟨⟨hWS, ⟨Nat.zero_le _, fun i hi => absurd hi (Nat.not_lt_zero _)⟩, hw.2.2⟩, hR, ⟨xup_s, Nat.zero_le _, fun i hi => absurd hi (Nat.not_lt_zero _)⟩, h4.cg (by rw [xup_o (by omega), f2 _ (by omega), xup_o (by omega)]) (by rw [xup_o (by omega), f2 _ (by omega), xup_o (by omega)]), h5.cg (by rw [xup_d (by omega), f2 _ (by omega), xup_d (by omega)]) (by rw [xup_o (by omega), f2 _ (by omega), xup_o (by omega)])⟩, ((zG.rf.up (by omega) (by omega)).tr f2.z).up (by omega) (by omega), ?_⟩
        · rw [if_pos rfl, e_X9_restore]
          simp (disch := omega) only [q_X9_restore_0, q_X9_restore_1, q_X9_restore_2, q_X9_restore_3, q_X9_restore_4, q_X9_restore_5, q_X9_restore_8, q_X9_restore_11, q_X9_restore_12, q_X9_restore_15, q_X9_restore_16, q_X9_restore_19, q_X9_restore_20, q_X9_restore_21, q_X9_restore_24, q_X9_restore_25, q_X9_restore_28, q_X9_restore_29, q_X9_restore_32, q_X9_restore_35, q_X9_restore_36, q_X9_restore_37, q_X9_restore_38, q_X9_restore_41, q_X9_restore_44, q_X9_restore_45, q_X9_restore_46, q_X9_restore_47, q_X9_restore_50, q_X9_restore_51, q_X9_restore_54, q_X9_restore_55, q_X9_restore_56, q_X9_restore_59, q_X9_restore_60, q_X9_restore_63, q_X9_restore_66, nI_add, pI_le, pI_lt, pI_eq, pI_neg, pI_nn, pI_le0, pI_gt0, pI_eq0, xbV_s, xbU_s, if_true, if_false, bI_eq0, Nat.reduceAdd, Nat.reduceSub, Nat.reduceEqDiff, Nat.reduceLeDiff, Nat.reduceLT, Bool.true_eq_false, Bool.false_eq_true, k9, k96, l96, r9_4, r9_9, r9_10, s9_in1, h, xup_o, g, s9_rf0, pk_mul, f1, s9_values hR hWS]
        · rw [xup_d (by omega), f2 _ (by omega), xup_s]
end PA
end P35
