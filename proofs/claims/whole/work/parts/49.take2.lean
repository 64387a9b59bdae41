/-! ===== taking the page ===== -/
section P49
section PA9
variable {α : aS}
theorem op_tk_l {S : cS} {I : xMem} {n : Nat} {w : Nat → Nat} (hq : sq S ≤ 10) (hn : n ≤ 12) (hn0 : sn S + n ≤ 120) : ∀ d k (I1 : xMem), k + d = n → xO 191 I I1 → I 189 15 = nI n → (∀ j, j < n → I 198 j = nI (w j)) → mX I1 191 (sq S) (sm S) (sq S) (sl S) (sq S) (sp S) (sn S + k) (fun j => if j < sn S then sv S j else w (j - sn S)) → ∃ I', xgo k_X9_take 46 [some (.ref 189), some (.int (nI (sn S))), some (.int (nI k))] [] I1 = xgo k_X9_take 77 [some (.ref 189), some (.int (nI (sn S))), some (.int (nI n))] [] I' ∧ xO 191 I I' ∧ mX I' 191 (sq S) (sm S) (sq S) (sl S) (sq S) (sp S) (sn S + n) (fun j => if j < sn S then sv S j else w (j - sn S)) := by
  have k9 := x189
  have k91 := x191
  have l91 := l191
  have k98 := x198
  have l98 := l198
  intro d
  induction d with
  | zero =>
    intro k I1 hk hO h15 hw hX
    have e : k = n := by omega
    subst e
    have g : I1 189 15 = nI k := by rw [hO 189 (by omega)]; exact h15
    refine ⟨I1, ?_, hO, hX⟩
    rw [q_X9_take_46]
    simp (disch := omega) only [q_X9_take_47, q_X9_take_48, q_X9_take_51, q_X9_take_54, q_X9_take_55, q_X9_take_58, q_X9_take_60, q_X9_take_61, q_X9_take_62, q_X9_take_63, q_X9_take_64, q_X9_take_65, q_X9_take_68, q_X9_take_69, q_X9_take_70, q_X9_take_71, q_X9_take_74, nI_add, pI_le, pI_lt, pI_eq, pI_neg, pI_nn, pI_le0, pI_gt0, pI_eq0, xbV_s, xbU_s, if_true, if_false, bI_eq0, Nat.reduceAdd, Nat.reduceSub, Nat.reduceEqDiff, Nat.reduceLeDiff, Nat.reduceLT, Bool.true_eq_false, Bool.false_eq_true, k9, g, Nat.le_refl]
  | succ d ih =>
    intro k I1 hk hO h15 hw hX
    have n1 : ¬ n ≤ k := by omega
    have g : I1 189 15 = nI n := by rw [hO 189 (by omega)]; exact h15
    have g2 : I1 198 k = nI (w k) := by rw [hO 198 (by omega)]; exact hw k (by omega)
    have hX2 := mX_v hX (i := sn S + k) (sn S + k + 1) (w k) (fun j hj hne => by omega) hq hq
    obtain ⟨I', f1, f2, f3⟩ := ih (k + 1) (xup I1 191 (22 + (sn S + k)) (nI (w k))) (by omega) hO.up h15 hw (mX_cg hX2 (fun j hj => ⟨hj, rfl⟩) (fun j hj => ⟨hj, rfl⟩) (fun j hj => ⟨hj, by
      unfold nup
      by_cases e : j = sn S + k
      · rw [if_pos e, if_neg (by omega), show j - sn S = k by omega]
      · rw [if_neg e]⟩))
    refine ⟨I', ?_, f2, f3⟩
    rw [q_X9_take_46]
    simp (disch := omega) only [q_X9_take_47, q_X9_take_48, q_X9_take_51, q_X9_take_54, q_X9_take_55, q_X9_take_58, q_X9_take_60, q_X9_take_61, q_X9_take_62, q_X9_take_63, q_X9_take_64, q_X9_take_65, q_X9_take_68, q_X9_take_69, q_X9_take_70, q_X9_take_71, q_X9_take_74, nI_add, pI_le, pI_lt, pI_eq, pI_neg, pI_nn, pI_le0, pI_gt0, pI_eq0, xbV_s, xbU_s, if_true, if_false, bI_eq0, Nat.reduceAdd, Nat.reduceSub, Nat.reduceEqDiff, Nat.reduceLeDiff, Nat.reduceLT, Bool.true_eq_false, Bool.false_eq_true, n1, k9, k91, l91, k98, l98, r9_4, r9_13, g, g2, show 22 + sn S + k = 22 + (sn S + k) from Nat.add_assoc _ _ _]
    exact f1
theorem op_take : Agree f_X8_take f_X9_take [] [2] α := Agree.wf fun hw => by
  have k0 := x0
  have k1 := x1
  have k3 := x163
  have k73 := x173
  have k9 := x189
  have k91 := x191
  have l91 := l191
  have hW := hw.1
  have hq := hW.1
  have ex1 : xEx [2] 1 = 2 := rfl
  obtain ⟨r, hr, hC, hM⟩ := page2 (t := zt α) (L := zL α) hw.2.2.2.1 hw.2.2.2.2
  cases r with
  | inl e =>
    have hr : e ≤ zL α := hr
    have hL := hw.2.2.2.1
    refine ⟨1, 0, α, by decide, fun I hI => ?_, fun I hI => ?_⟩
    · obtain ⟨I', f1, f2, f3⟩ := hC I hI.2.2.2.2
      have f1 : f_X3_readPage [.ref 163] I = some (.inl (some (.int (nI e))), I') := f1
      refine ⟨I', ?_, f2.inv hI, f2.z⟩
      rw [if_neg (by omega), ex1, e_X8_take]
      simp (disch := omega) only [q_X8_take_0, q_X8_take_1, q_X8_take_4, q_X8_take_7, q_X8_take_10, q_X8_take_13, q_X8_take_24, q_X8_take_25, q_X8_take_28, q_X8_take_31, q_X8_take_34, q_X8_take_44, q_X8_take_45, q_X8_take_48, q_X8_take_49, q_X8_take_52, q_X8_take_55, q_X8_take_56, q_X8_take_59, q_X8_take_60, q_X8_take_63, q_X8_take_66, q_X8_take_67, q_X8_take_70, q_X8_take_73, q_X8_take_76, q_X8_take_77, q_X8_take_78, q_X8_take_81, q_X8_take_82, q_X8_take_85, nI_add, pI_le, pI_lt, pI_eq, pI_neg, pI_nn, pI_le0, pI_gt0, pI_eq0, xbV_s, xbU_s, if_true, if_false, bI_eq0, Nat.reduceAdd, Nat.reduceSub, Nat.reduceEqDiff, Nat.reduceLeDiff, Nat.reduceLT, Bool.true_eq_false, Bool.false_eq_true, k0, r0_1, k3, f1, pI_ne9]
    · obtain ⟨I', f1, f2, f3, f4⟩ := hM I hI.2.2.2.2
      have f1 : f_X9_readPage [.ref 189] I = some (.inl (some (.int (nI 0))), I') := f1
      refine ⟨xup I' 189 0 (nI 1), ?_, (f2.inv hI).rf 1, f2.z.up (by omega) (by omega), xup_s⟩
      rw [if_neg (by omega), e_X9_take]
      simp (disch := omega) only [q_X9_take_0, q_X9_take_1, q_X9_take_2, q_X9_take_5, q_X9_take_8, q_X9_take_9, q_X9_take_12, q_X9_take_13, q_X9_take_14, q_X9_take_16, q_X9_take_19, q_X9_take_20, q_X9_take_23, q_X9_take_24, q_X9_take_27, q_X9_take_30, q_X9_take_31, q_X9_take_32, q_X9_take_33, q_X9_take_36, q_X9_take_37, q_X9_take_40, q_X9_take_43, q_X9_take_44, q_X9_take_45, q_X9_take_47, q_X9_take_48, q_X9_take_51, q_X9_take_54, q_X9_take_55, q_X9_take_58, q_X9_take_60, q_X9_take_61, q_X9_take_62, q_X9_take_63, q_X9_take_64, q_X9_take_65, q_X9_take_68, q_X9_take_69, q_X9_take_70, q_X9_take_71, q_X9_take_74, q_X9_take_77, q_X9_take_78, q_X9_take_81, q_X9_take_82, q_X9_take_83, q_X9_take_86, q_X9_take_87, q_X9_take_88, q_X9_take_89, q_X9_take_90, q_X9_take_93, q_X9_take_94, q_X9_take_95, q_X9_take_98, q_X9_take_100, q_X9_take_101, q_X9_take_104, q_X9_take_105, q_X9_take_106, q_X9_take_107, q_X9_take_108, q_X9_take_109, q_X9_take_110, q_X9_take_113, q_X9_take_114, q_X9_take_115, q_X9_take_116, q_X9_take_117, q_X9_take_118, q_X9_take_119, q_X9_take_120, q_X9_take_123, q_X9_take_124, q_X9_take_127, q_X9_take_128, q_X9_take_129, q_X9_take_130, q_X9_take_131, q_X9_take_134, nI_add, pI_le, pI_lt, pI_eq, pI_neg, pI_nn, pI_le0, pI_gt0, pI_eq0, xbV_s, xbU_s, if_true, if_false, bI_eq0, Nat.reduceAdd, Nat.reduceSub, Nat.reduceEqDiff, Nat.reduceLeDiff, Nat.reduceLT, Bool.true_eq_false, Bool.false_eq_true, k9, f1, s9_rf1]
  | inr x =>
    obtain ⟨n, w⟩ := x
    obtain ⟨⟨hn1, hn12⟩, hwv⟩ := hr
    have hn1 : 1 ≤ n := hn1
    have hn12 : n ≤ 12 := hn12
    by_cases r : sq (zS α) = 10
    · refine ⟨1, 0, α, by decide, fun I hI => ?_, fun I hI => ?_⟩
      · obtain ⟨I', f1, f2, f3⟩ := hC I hI.2.2.2.2
        have f1 : f_X3_readPage [.ref 163] I = some (.inl (some (.int (-9999))), I') := f1
        have hI' := f2.inv hI
        refine ⟨I', ?_, hI', f2.z⟩
        rw [if_neg (by omega), ex1, e_X8_take]
        simp (disch := omega) only [q_X8_take_0, q_X8_take_1, q_X8_take_4, q_X8_take_7, q_X8_take_10, q_X8_take_13, q_X8_take_24, q_X8_take_25, q_X8_take_28, q_X8_take_31, q_X8_take_34, q_X8_take_44, q_X8_take_45, q_X8_take_48, q_X8_take_49, q_X8_take_52, q_X8_take_55, q_X8_take_56, q_X8_take_59, q_X8_take_60, q_X8_take_63, q_X8_take_66, q_X8_take_67, q_X8_take_70, q_X8_take_73, q_X8_take_76, q_X8_take_77, q_X8_take_78, q_X8_take_81, q_X8_take_82, q_X8_take_85, nI_add, pI_le, pI_lt, pI_eq, pI_neg, pI_nn, pI_le0, pI_gt0, pI_eq0, xbV_s, xbU_s, if_true, if_false, bI_eq0, Nat.reduceAdd, Nat.reduceSub, Nat.reduceEqDiff, Nat.reduceLeDiff, Nat.reduceLT, Bool.true_eq_false, Bool.false_eq_true, k0, k1, r0_0, r0_1, k3, f1, s0_isFull xCol_1 hI'.2.1 hW, decide_eq_true r]
      · obtain ⟨I', f1, f2, f3, f4⟩ := hM I hI.2.2.2.2
        have f1 : f_X9_readPage [.ref 189] I = some (.inl (some (.int (nI 1))), I') := f1
        have hI' := f2.inv hI
        have g := hI'.2.1.2.2.1
        rw [r] at g
        refine ⟨xup I' 189 0 (nI 1), ?_, hI'.rf 1, f2.z.up (by omega) (by omega), xup_s⟩
        rw [if_neg (by omega), e_X9_take]
        simp (disch := omega) only [q_X9_take_0, q_X9_take_1, q_X9_take_2, q_X9_take_5, q_X9_take_8, q_X9_take_9, q_X9_take_12, q_X9_take_13, q_X9_take_14, q_X9_take_16, q_X9_take_19, q_X9_take_20, q_X9_take_23, q_X9_take_24, q_X9_take_27, q_X9_take_30, q_X9_take_31, q_X9_take_32, q_X9_take_33, q_X9_take_36, q_X9_take_37, q_X9_take_40, q_X9_take_43, q_X9_take_44, q_X9_take_45, q_X9_take_47, q_X9_take_48, q_X9_take_51, q_X9_take_54, q_X9_take_55, q_X9_take_58, q_X9_take_60, q_X9_take_61, q_X9_take_62, q_X9_take_63, q_X9_take_64, q_X9_take_65, q_X9_take_68, q_X9_take_69, q_X9_take_70, q_X9_take_71, q_X9_take_74, q_X9_take_77, q_X9_take_78, q_X9_take_81, q_X9_take_82, q_X9_take_83, q_X9_take_86, q_X9_take_87, q_X9_take_88, q_X9_take_89, q_X9_take_90, q_X9_take_93, q_X9_take_94, q_X9_take_95, q_X9_take_98, q_X9_take_100, q_X9_take_101, q_X9_take_104, q_X9_take_105, q_X9_take_106, q_X9_take_107, q_X9_take_108, q_X9_take_109, q_X9_take_110, q_X9_take_113, q_X9_take_114, q_X9_take_115, q_X9_take_116, q_X9_take_117, q_X9_take_118, q_X9_take_119, q_X9_take_120, q_X9_take_123, q_X9_take_124, q_X9_take_127, q_X9_take_128, q_X9_take_129, q_X9_take_130, q_X9_take_131, q_X9_take_134, nI_add, pI_le, pI_lt, pI_eq, pI_neg, pI_nn, pI_le0, pI_gt0, pI_eq0, xbV_s, xbU_s, if_true, if_false, bI_eq0, Nat.reduceAdd, Nat.reduceSub, Nat.reduceEqDiff, Nat.reduceLeDiff, Nat.reduceLT, Bool.true_eq_false, Bool.false_eq_true, k9, k91, l91, r9_4, f1, g, Nat.le_refl, s9_rf1]
    · have hq9 : sq (zS α) < 10 := by omega
      have hWS := sWF_take hW hq9 hn1 hn12 hwv
      have hpS : sq (zS α) < sq (sTake (zS α) w n) := Nat.lt_succ_self _
      have hb := sF_12 hW (Nat.le_refl (sq (zS α)))
      have hb2 := hW.2.2.2.1
      refine ⟨0, nI (sC (sTake (zS α) w n) (sq (zS α))), zSet (zRem α) (sTake (zS α) w n), by decide, fun I hI => ?_, fun I hI => ?_⟩
      · obtain ⟨I1, f1, f2, f3⟩ := hC I hI.2.2.2.2
        have f1 : f_X3_readPage [.ref 163] I = some (.inl (some (.int (-9999))), I1) := f1
        have hI1 := f2.inv hI
        obtain ⟨g4, gw⟩ := f3 (n, w) rfl
        obtain ⟨hw1, c1, c2, c3, c4⟩ := hI1
        obtain ⟨J, j1, j2, j3⟩ := s1_remember c1 hW c2
        obtain ⟨J', e1, e2, e3⟩ := cInv.rem ⟨hw1, c1, c2, c3, c4⟩
        have eJ : J' = J := by
          rw [j1] at e1
          cases e1
          rfl
        subst eJ
        have hR : cR J' 1 (zS α) := e2.2.1
        have gJ4 : J' 163 4 = nI n := by rw [j2 163 (by omega) (by omega) (by omega)]; exact g4
        obtain ⟨I2, m1, m2, m3⟩ := s0_appendPage (n := n) (w := w) hR hW hq9 hn1 hn12 (fun j hj => by rw [j2 167 (by omega) (by omega) (by omega)]; exact gw j hj)
        obtain ⟨I3, p1, p2, p3⟩ := s0_cod xCol_1 m3 hWS hpS
        refine ⟨I3, ?_, (e2.set hWS m2 m3).me p2, (f2.z.tr e3).tr ((m2.wd (by omega) (by omega)).tr (p2.wd (by omega) (by omega)))⟩
        rw [if_pos rfl, e_X8_take]
        simp (disch := omega) only [q_X8_take_0, q_X8_take_1, q_X8_take_4, q_X8_take_7, q_X8_take_10, q_X8_take_13, q_X8_take_24, q_X8_take_25, q_X8_take_28, q_X8_take_31, q_X8_take_34, q_X8_take_44, q_X8_take_45, q_X8_take_48, q_X8_take_49, q_X8_take_52, q_X8_take_55, q_X8_take_56, q_X8_take_59, q_X8_take_60, q_X8_take_63, q_X8_take_66, q_X8_take_67, q_X8_take_70, q_X8_take_73, q_X8_take_76, q_X8_take_77, q_X8_take_78, q_X8_take_81, q_X8_take_82, q_X8_take_85, nI_add, pI_le, pI_lt, pI_eq, pI_neg, pI_nn, pI_le0, pI_gt0, pI_eq0, xbV_s, xbU_s, if_true, if_false, bI_eq0, Nat.reduceAdd, Nat.reduceSub, Nat.reduceEqDiff, Nat.reduceLeDiff, Nat.reduceLT, Bool.true_eq_false, Bool.false_eq_true, k0, k1, k3, k73, r0_0, r0_1, r0_3, r163_1, f1, s0_isFull xCol_1 c1 hW, decide_eq_false r, j1, gJ4, m1, p1]
      · obtain ⟨I1, f1, f2, f3, f4⟩ := hM I hI.2.2.2.2
        have f1 : f_X9_readPage [.ref 189] I = some (.inl (some (.int (nI 1))), I1) := f1
        have hI1 := f2.inv hI
        obtain ⟨g15, gw⟩ := f4 (n, w) rfl
        have g0 := hI1.2.1.2.2.1
        have n10 : ¬ 10 ≤ sq (zS α) := by omega
        have hI2 := hI1.rf 0
        obtain ⟨hw2, c1, c2, c3, c4⟩ := hI2
        obtain ⟨J, j1, j2, j3, j4⟩ := s9_remember c1 hW c2 hw2.2.1.2
        obtain ⟨J', e1, e2, e3, e4⟩ := mInv.rem ⟨hw2, c1, c2, c3, c4⟩
        have eJ : J' = J := by
          rw [j1] at e1
          cases e1
          rfl
        subst eJ
        have hR : mR J' 191 (zS α) := e2.2.1
        obtain ⟨I2, m1, m2, m3⟩ := op_tk_l (S := zS α) (I := J') (n := n) (w := w) hq hn12 (by omega) n 0 J' (by omega) xO.rf (by rw [j3 15 (by omega), xup_d (by omega)]; exact g15) (fun j hj => by rw [j2 198 (by omega) (by omega), xup_o (by omega)]; exact gw j hj) (mX_cg (mX.of hR) (fun j hj => ⟨hj, rfl⟩) (fun j hj => ⟨hj, rfl⟩) (fun j hj => ⟨hj, by rw [if_pos (show j < sn (zS α) from hj)]⟩))
        have g2 := m3.1
        have g15' : I2 189 15 = nI n := by rw [m2 189 (by omega), j3 15 (by omega), xup_d (by omega)]; exact g15
        have hX := mX_q (mX_p (mX_l m3 (p := sq (zS α)) (sq (zS α) + 1) n (by omega) (fun j hj hne => by omega) (by omega)) (p := sq (zS α)) (sq (zS α) + 1) 0 (by omega) (fun j hj hne => by omega) (by omega) (by omega)) (sq (zS α) + 1)
        have hX' := mX.to (S := sTake (zS α) w n) x191 l191 hX
        have e9 : nI (sq (zS α) + 1) - nI 1 = nI (sq (zS α)) := by rw [pI_sub (by omega)]; rfl
        refine ⟨_, ?_, e2.set hWS (m2.up.up.up) hX', ((f2.z.up (a := 189) (k := 0) (x := nI 0) (by omega) (by omega)).tr e3).tr (xO.z m2.up.up.up), by rw [xup_o (by omega), xup_o (by omega), xup_o (by omega), m2 189 (by omega), e4, xup_s]⟩
        rw [if_pos rfl, e_X9_take]
        simp (disch := omega) only [q_X9_take_0, q_X9_take_1, q_X9_take_2, q_X9_take_5, q_X9_take_8, q_X9_take_9, q_X9_take_12, q_X9_take_13, q_X9_take_14, q_X9_take_16, q_X9_take_19, q_X9_take_20, q_X9_take_23, q_X9_take_24, q_X9_take_27, q_X9_take_30, q_X9_take_31, q_X9_take_32, q_X9_take_33, q_X9_take_36, q_X9_take_37, q_X9_take_40, q_X9_take_43, q_X9_take_44, q_X9_take_45, nI_add, pI_le, pI_lt, pI_eq, pI_neg, pI_nn, pI_le0, pI_gt0, pI_eq0, xbV_s, xbU_s, if_true, if_false, bI_eq0, Nat.reduceAdd, Nat.reduceSub, Nat.reduceEqDiff, Nat.reduceLeDiff, Nat.reduceLT, Bool.true_eq_false, Bool.false_eq_true, k9, k91, l91, r9_4, f1, g0, n10, s9_rf0, j1, s9_values hR hW]
        rw [m1]
        simp (disch := omega) only [q_X9_take_77, q_X9_take_78, q_X9_take_81, q_X9_take_82, q_X9_take_83, q_X9_take_86, q_X9_take_87, q_X9_take_88, q_X9_take_89, q_X9_take_90, q_X9_take_93, q_X9_take_94, q_X9_take_95, q_X9_take_98, q_X9_take_100, q_X9_take_101, q_X9_take_104, q_X9_take_105, q_X9_take_106, q_X9_take_107, q_X9_take_108, q_X9_take_109, q_X9_take_110, q_X9_take_113, q_X9_take_114, q_X9_take_115, q_X9_take_116, q_X9_take_117, q_X9_take_118, q_X9_take_119, q_X9_take_120, q_X9_take_123, q_X9_take_124, q_X9_take_127, q_X9_take_128, q_X9_take_129, q_X9_take_130, q_X9_take_131, q_X9_take_134, nI_add, pI_le, pI_lt, pI_eq, pI_neg, pI_nn, pI_le0, pI_gt0, pI_eq0, xbV_s, xbU_s, if_true, if_false, bI_eq0, Nat.reduceAdd, Nat.reduceSub, Nat.reduceEqDiff, Nat.reduceLeDiff, Nat.reduceLT, Bool.true_eq_false, Bool.false_eq_true, k9, k91, l91, r9_4, g2, g15', xup_d, xup_o, xup_s, e9]
        rw [s9_cod hX' hWS hpS]
        simp (disch := omega) only [q_X9_take_77, q_X9_take_78, q_X9_take_81, q_X9_take_82, q_X9_take_83, q_X9_take_86, q_X9_take_87, q_X9_take_88, q_X9_take_89, q_X9_take_90, q_X9_take_93, q_X9_take_94, q_X9_take_95, q_X9_take_98, q_X9_take_100, q_X9_take_101, q_X9_take_104, q_X9_take_105, q_X9_take_106, q_X9_take_107, q_X9_take_108, q_X9_take_109, q_X9_take_110, q_X9_take_113, q_X9_take_114, q_X9_take_115, q_X9_take_116, q_X9_take_117, q_X9_take_118, q_X9_take_119, q_X9_take_120, q_X9_take_123, q_X9_take_124, q_X9_take_127, q_X9_take_128, q_X9_take_129, q_X9_take_130, q_X9_take_131, q_X9_take_134, nI_add, pI_le, pI_lt, pI_eq, pI_neg, pI_nn, pI_le0, pI_gt0, pI_eq0, xbV_s, xbU_s, if_true, if_false, bI_eq0, Nat.reduceAdd, Nat.reduceSub, Nat.reduceEqDiff, Nat.reduceLeDiff, Nat.reduceLT, Bool.true_eq_false, Bool.false_eq_true]
end PA9
end P49
