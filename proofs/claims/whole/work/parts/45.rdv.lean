/-! ===== pages in the text: steps, all ===== -/
section P45
section PW
variable {t : Nat → Nat} {L : Nat}
theorem rt_E {n e w v : Nat} (hn : n ≤ 12) (he : e ≤ 200) (hw1 : 1 ≤ w) (hw : w ≤ 11) (hv : v ≤ 1023) : ∀ d k (I : xMem), k + d = n → I 163 4 = nI n → I 163 6 = nI e → ∃ I', xgo k_X3_readSteps 25 [some (.ref 163), some (.int (nI v)), some (.int (nI w)), some (.int (nI k))] [] I = some (.inl none, I') ∧ tGw I I' ∧ I' 163 6 = nI e := by
  have k3 := x163
  have kr := w166.1
  intro d
  induction d with
  | zero =>
    intro k I hk h4 h6
    have e1 : k = n := by omega
    refine ⟨I, ?_, tGw.rf, h6⟩
    rw [e1, q_X3_readSteps_25]
    simp (disch := omega) only [q_X3_readSteps_0, q_X3_readSteps_1, q_X3_readSteps_4, q_X3_readSteps_5, q_X3_readSteps_6, q_X3_readSteps_7, q_X3_readSteps_8, q_X3_readSteps_10, q_X3_readSteps_13, q_X3_readSteps_14, q_X3_readSteps_15, q_X3_readSteps_18, q_X3_readSteps_19, q_X3_readSteps_20, q_X3_readSteps_23, q_X3_readSteps_24, q_X3_readSteps_26, q_X3_readSteps_27, q_X3_readSteps_30, q_X3_readSteps_33, q_X3_readSteps_34, q_X3_readSteps_35, q_X3_readSteps_36, q_X3_readSteps_37, q_X3_readSteps_40, q_X3_readSteps_41, q_X3_readSteps_42, q_X3_readSteps_43, q_X3_readSteps_46, q_X3_readSteps_47, q_X3_readSteps_48, q_X3_readSteps_51, q_X3_readSteps_54, q_X3_readSteps_57, nI_add, pI_le, pI_lt, pI_eq, pI_neg, pI_nn, pI_le0, pI_gt0, pI_eq0, xbV_s, xbU_s, if_true, if_false, bI_eq0, Nat.reduceAdd, Nat.reduceSub, Nat.reduceEqDiff, Nat.reduceLeDiff, Nat.reduceLT, Bool.true_eq_false, Bool.false_eq_true, k3, h4, Nat.le_refl]
  | succ d ih =>
    intro k I hk h4 h6
    have n1 : ¬ n ≤ k := by omega
    obtain ⟨I', f1, f2, f3⟩ := ih (k + 1) (xup I 167 k (nI v)) (by omega) (by rw [xup_o (by omega)]; exact h4) (by rw [xup_o (by omega)]; exact h6)
    refine ⟨I', ?_, (tGw.rf.up (Or.inl rfl)).tr f2, f3⟩
    rw [q_X3_readSteps_25]
    simp (disch := omega) only [q_X3_readSteps_0, q_X3_readSteps_1, q_X3_readSteps_4, q_X3_readSteps_5, q_X3_readSteps_6, q_X3_readSteps_7, q_X3_readSteps_8, q_X3_readSteps_10, q_X3_readSteps_13, q_X3_readSteps_14, q_X3_readSteps_15, q_X3_readSteps_18, q_X3_readSteps_19, q_X3_readSteps_20, q_X3_readSteps_23, q_X3_readSteps_24, q_X3_readSteps_26, q_X3_readSteps_27, q_X3_readSteps_30, q_X3_readSteps_33, q_X3_readSteps_34, q_X3_readSteps_35, q_X3_readSteps_36, q_X3_readSteps_37, q_X3_readSteps_40, q_X3_readSteps_41, q_X3_readSteps_42, q_X3_readSteps_43, q_X3_readSteps_46, q_X3_readSteps_47, q_X3_readSteps_48, q_X3_readSteps_51, q_X3_readSteps_54, q_X3_readSteps_57, nI_add, pI_le, pI_lt, pI_eq, pI_neg, pI_nn, pI_le0, pI_gt0, pI_eq0, xbV_s, xbU_s, if_true, if_false, bI_eq0, Nat.reduceAdd, Nat.reduceSub, Nat.reduceEqDiff, Nat.reduceLeDiff, Nat.reduceLT, Bool.true_eq_false, Bool.false_eq_true, k3, kr, r163_1, h4, n1, s3_stepE hw1 hw hv h6 he, s_set w166]
    exact f1
theorem rt_l (hL : L ≤ 160) (ht : ∀ j, j < L → t j ≤ 255) {n wd : Nat} (hn : n ≤ 12) (hw1 : 1 ≤ wd) (hw : wd ≤ 11) : ∀ d k p (w : Nat → Nat), k + d = n → 1 ≤ k → p ≤ L → (∀ j, j < k → w j ≤ 1023) → ∃ r : rO, (∀ I, cG I t L n p → (∀ j, j < k → I 167 j = nI (w j)) → ∃ I', xgo k_X3_readSteps 25 [some (.ref 163), some (.int (nI (w (k - 1)))), some (.int (nI wd)), some (.int (nI k))] [] I = some (.inl none, I') ∧ cOut I I' L n r) ∧ (∀ I (l5 l6 l7 : Option Value), mG I t L p → (∀ j, j < k → I 198 j = nI (w j)) → ∃ I', xgo k_X9_readSteps 52 [some (.ref 189), some (.int (nI n)), some (.int (nI (w 0))), some (.int (nI wd)), some (.int (nI k)), l5, l6, l7] [] I = some (.inl (some (.int (bI (rOk r)))), I') ∧ mOut I I' n r) := by
  have k3 := x163
  have kr := w166.1
  have k9 := x189
  have k98 := x198
  have l98 := l198
  have hp3 : 2 ^ (wd - 1) ≤ 2 ^ 10 := Nat.pow_le_pow_right (by decide) (by omega)
  have hp2 : 0 < 2 ^ (wd - 1) := Nat.pow_pos (by decide)
  have e3 := pk_sh1 hw1 (by omega : wd ≤ 12)
  intro d
  induction d with
  | zero =>
    intro k p w hk hk1 hp hw
    have e1 : k = n := by omega
    refine ⟨.inr (p, w), fun I h hv => ⟨I, ?_, tGw.rf, h.2.2.2, h.2.2.1, hp, fun j hj => ⟨hv j (by omega), hw j (by omega)⟩⟩, fun I l5 l6 l7 h hv => ⟨I, ?_, mGw.rf, h.2, fun j hj => hv j (by omega)⟩⟩
    · have h4 := h.2.1
      rw [e1, q_X3_readSteps_25]
      simp (disch := omega) only [q_X3_readSteps_0, q_X3_readSteps_1, q_X3_readSteps_4, q_X3_readSteps_5, q_X3_readSteps_6, q_X3_readSteps_7, q_X3_readSteps_8, q_X3_readSteps_10, q_X3_readSteps_13, q_X3_readSteps_14, q_X3_readSteps_15, q_X3_readSteps_18, q_X3_readSteps_19, q_X3_readSteps_20, q_X3_readSteps_23, q_X3_readSteps_24, q_X3_readSteps_26, q_X3_readSteps_27, q_X3_readSteps_30, q_X3_readSteps_33, q_X3_readSteps_34, q_X3_readSteps_35, q_X3_readSteps_36, q_X3_readSteps_37, q_X3_readSteps_40, q_X3_readSteps_41, q_X3_readSteps_42, q_X3_readSteps_43, q_X3_readSteps_46, q_X3_readSteps_47, q_X3_readSteps_48, q_X3_readSteps_51, q_X3_readSteps_54, q_X3_readSteps_57, nI_add, pI_le, pI_lt, pI_eq, pI_neg, pI_nn, pI_le0, pI_gt0, pI_eq0, xbV_s, xbU_s, if_true, if_false, bI_eq0, Nat.reduceAdd, Nat.reduceSub, Nat.reduceEqDiff, Nat.reduceLeDiff, Nat.reduceLT, Bool.true_eq_false, Bool.false_eq_true, k3, h4, Nat.le_refl]
    · rw [e1, q_X9_readSteps_52]
      simp (disch := omega) only [q_X9_readSteps_0, q_X9_readSteps_1, q_X9_readSteps_3, q_X9_readSteps_4, q_X9_readSteps_7, q_X9_readSteps_10, q_X9_readSteps_11, q_X9_readSteps_12, q_X9_readSteps_15, q_X9_readSteps_18, q_X9_readSteps_21, q_X9_readSteps_24, q_X9_readSteps_25, q_X9_readSteps_26, q_X9_readSteps_27, q_X9_readSteps_29, q_X9_readSteps_32, q_X9_readSteps_33, q_X9_readSteps_34, q_X9_readSteps_37, q_X9_readSteps_40, q_X9_readSteps_41_b, q_X9_readSteps_41_0, q_X9_readSteps_41_1, q_X9_readSteps_42, q_X9_readSteps_43, q_X9_readSteps_46, q_X9_readSteps_47, q_X9_readSteps_48, q_X9_readSteps_49, q_X9_readSteps_50, q_X9_readSteps_54, q_X9_readSteps_55, q_X9_readSteps_58, q_X9_readSteps_59, q_X9_readSteps_60, q_X9_readSteps_61, q_X9_readSteps_62, q_X9_readSteps_63, q_X9_readSteps_65, q_X9_readSteps_67, q_X9_readSteps_68, q_X9_readSteps_71, q_X9_readSteps_73, q_X9_readSteps_74, q_X9_readSteps_75, q_X9_readSteps_76, q_X9_readSteps_79, q_X9_readSteps_81, q_X9_readSteps_82, q_X9_readSteps_83, q_X9_readSteps_84, q_X9_readSteps_86, q_X9_readSteps_87, q_X9_readSteps_88, q_X9_readSteps_91, q_X9_readSteps_92, q_X9_readSteps_95, q_X9_readSteps_97, q_X9_readSteps_98, q_X9_readSteps_99, q_X9_readSteps_100, q_X9_readSteps_101, q_X9_readSteps_104, q_X9_readSteps_105, q_X9_readSteps_107, q_X9_readSteps_108, q_X9_readSteps_110, q_X9_readSteps_111, q_X9_readSteps_112, q_X9_readSteps_114, q_X9_readSteps_115, q_X9_readSteps_116, q_X9_readSteps_117, q_X9_readSteps_120, q_X9_readSteps_122, q_X9_readSteps_124, q_X9_readSteps_127, q_X9_readSteps_130, q_X9_readSteps_131_b, q_X9_readSteps_131_0, q_X9_readSteps_131_1, q_X9_readSteps_132, q_X9_readSteps_133, q_X9_readSteps_136, q_X9_readSteps_138, q_X9_readSteps_139, q_X9_readSteps_142, q_X9_readSteps_144, q_X9_readSteps_145, q_X9_readSteps_146, q_X9_readSteps_147, q_X9_readSteps_149, q_X9_readSteps_151, q_X9_readSteps_154, q_X9_readSteps_156, q_X9_readSteps_159, q_X9_readSteps_161, q_X9_readSteps_162, q_X9_readSteps_164, q_X9_readSteps_165, q_X9_readSteps_166, q_X9_readSteps_167, q_X9_readSteps_168, q_X9_readSteps_171, q_X9_readSteps_174, q_X9_readSteps_175_b, q_X9_readSteps_175_0, q_X9_readSteps_175_1, nI_add, pI_le, pI_lt, pI_eq, pI_neg, pI_nn, pI_le0, pI_gt0, pI_eq0, xbV_s, xbU_s, if_true, if_false, bI_eq0, Nat.reduceAdd, Nat.reduceSub, Nat.reduceEqDiff, Nat.reduceLeDiff, Nat.reduceLT, Bool.true_eq_false, Bool.false_eq_true, Nat.le_refl]
      rfl
  | succ d ih =>
    intro k p w hk hk1 hp hw
    have n1 : ¬ n ≤ k := by omega
    have hwk := hw (k - 1) (by omega)
    have ek : nI k - nI 1 = nI (k - 1) := pI_sub hk1
    have e5 : nI (2 ^ (wd - 1)) - nI 1 = nI (2 ^ (wd - 1) - 1) := pI_sub (by omega)
    have e6 : nI 1023 - nI (w (k - 1)) = nI (1023 - w (k - 1)) := pI_sub hwk
    have e7 : nI (2 * 2 ^ (wd - 1)) - nI (min (2 ^ (wd - 1)) (w (k - 1))) = nI (2 * 2 ^ (wd - 1) - min (2 ^ (wd - 1)) (w (k - 1))) := pI_sub (by omega)
    have e8 : nI (2 * 2 ^ (wd - 1)) - nI 1 = nI (2 * 2 ^ (wd - 1) - 1) := pI_sub (by omega)
    rcases step2 hL ht (w := wd) (v := w (k - 1)) (p := p) hw1 (by omega) hwk hp with ⟨e, he, hc, hm⟩ | ⟨v', p', s, hv', hp', hs, hsv, hc, hm⟩
    · refine ⟨.inl e, fun I h hv => ?_, fun I l5 l6 l7 h hv => ?_⟩
      · obtain ⟨I1, x, v', f1, f2, f3, f4, f5⟩ := hc I n h
        have h4 := h.2.1
        obtain ⟨I', g1, g2, g3⟩ := rt_E (n := n) (e := e) (w := wd) (v := v') hn (by omega) hw1 (by omega) f4 d (k + 1) (xup I1 167 k (nI v')) (by omega) (by rw [xup_o (by omega), f2.2 4 (by omega) (by omega)]; exact h4) (by rw [xup_o (by omega)]; exact f3)
        refine ⟨I', ?_, (f2.w.up (Or.inl rfl)).tr g2, g3, he⟩
        rw [q_X3_readSteps_25]
        simp (disch := omega) only [q_X3_readSteps_0, q_X3_readSteps_1, q_X3_readSteps_4, q_X3_readSteps_5, q_X3_readSteps_6, q_X3_readSteps_7, q_X3_readSteps_8, q_X3_readSteps_10, q_X3_readSteps_13, q_X3_readSteps_14, q_X3_readSteps_15, q_X3_readSteps_18, q_X3_readSteps_19, q_X3_readSteps_20, q_X3_readSteps_23, q_X3_readSteps_24, q_X3_readSteps_26, q_X3_readSteps_27, q_X3_readSteps_30, q_X3_readSteps_33, q_X3_readSteps_34, q_X3_readSteps_35, q_X3_readSteps_36, q_X3_readSteps_37, q_X3_readSteps_40, q_X3_readSteps_41, q_X3_readSteps_42, q_X3_readSteps_43, q_X3_readSteps_46, q_X3_readSteps_47, q_X3_readSteps_48, q_X3_readSteps_51, q_X3_readSteps_54, q_X3_readSteps_57, nI_add, pI_le, pI_lt, pI_eq, pI_neg, pI_nn, pI_le0, pI_gt0, pI_eq0, xbV_s, xbU_s, if_true, if_false, bI_eq0, Nat.reduceAdd, Nat.reduceSub, Nat.reduceEqDiff, Nat.reduceLeDiff, Nat.reduceLT, Bool.true_eq_false, Bool.false_eq_true, k3, kr, r163_1, h4, n1, f1, f5, s_set w166]
        exact g1
      · obtain ⟨I1, f1, f2, f3⟩ := hm I h
        have g := hv (k - 1) (by omega)
        refine ⟨I1, ?_, f2.w, f3⟩
        rw [q_X9_readSteps_52]
        simp (disch := omega) only [q_X9_readSteps_0, q_X9_readSteps_1, q_X9_readSteps_3, q_X9_readSteps_4, q_X9_readSteps_7, q_X9_readSteps_10, q_X9_readSteps_11, q_X9_readSteps_12, q_X9_readSteps_15, q_X9_readSteps_18, q_X9_readSteps_21, q_X9_readSteps_24, q_X9_readSteps_25, q_X9_readSteps_26, q_X9_readSteps_27, q_X9_readSteps_29, q_X9_readSteps_32, q_X9_readSteps_33, q_X9_readSteps_34, q_X9_readSteps_37, q_X9_readSteps_40, q_X9_readSteps_41_b, q_X9_readSteps_41_0, q_X9_readSteps_41_1, q_X9_readSteps_42, q_X9_readSteps_43, q_X9_readSteps_46, q_X9_readSteps_47, q_X9_readSteps_48, q_X9_readSteps_49, q_X9_readSteps_50, q_X9_readSteps_54, q_X9_readSteps_55, q_X9_readSteps_58, q_X9_readSteps_59, q_X9_readSteps_60, q_X9_readSteps_61, q_X9_readSteps_62, q_X9_readSteps_63, q_X9_readSteps_65, q_X9_readSteps_67, q_X9_readSteps_68, q_X9_readSteps_71, q_X9_readSteps_73, q_X9_readSteps_74, q_X9_readSteps_75, q_X9_readSteps_76, q_X9_readSteps_79, q_X9_readSteps_81, q_X9_readSteps_82, q_X9_readSteps_83, q_X9_readSteps_84, q_X9_readSteps_86, q_X9_readSteps_87, q_X9_readSteps_88, q_X9_readSteps_91, q_X9_readSteps_92, q_X9_readSteps_95, q_X9_readSteps_97, q_X9_readSteps_98, q_X9_readSteps_99, q_X9_readSteps_100, q_X9_readSteps_101, q_X9_readSteps_104, q_X9_readSteps_105, q_X9_readSteps_107, q_X9_readSteps_108, q_X9_readSteps_110, q_X9_readSteps_111, q_X9_readSteps_112, q_X9_readSteps_114, q_X9_readSteps_115, q_X9_readSteps_116, q_X9_readSteps_117, q_X9_readSteps_120, q_X9_readSteps_122, q_X9_readSteps_124, q_X9_readSteps_127, q_X9_readSteps_130, q_X9_readSteps_131_b, q_X9_readSteps_131_0, q_X9_readSteps_131_1, q_X9_readSteps_132, q_X9_readSteps_133, q_X9_readSteps_136, q_X9_readSteps_138, q_X9_readSteps_139, q_X9_readSteps_142, q_X9_readSteps_144, q_X9_readSteps_145, q_X9_readSteps_146, q_X9_readSteps_147, q_X9_readSteps_149, q_X9_readSteps_151, q_X9_readSteps_154, q_X9_readSteps_156, q_X9_readSteps_159, q_X9_readSteps_161, q_X9_readSteps_162, q_X9_readSteps_164, q_X9_readSteps_165, q_X9_readSteps_166, q_X9_readSteps_167, q_X9_readSteps_168, q_X9_readSteps_171, q_X9_readSteps_174, q_X9_readSteps_175_b, q_X9_readSteps_175_0, q_X9_readSteps_175_1, nI_add, pI_le, pI_lt, pI_eq, pI_neg, pI_nn, pI_le0, pI_gt0, pI_eq0, xbV_s, xbU_s, if_true, if_false, bI_eq0, Nat.reduceAdd, Nat.reduceSub, Nat.reduceEqDiff, Nat.reduceLeDiff, Nat.reduceLT, Bool.true_eq_false, Bool.false_eq_true, n1, k9, k98, l98, r9_13, e3, ek, g, s9_less, e5, e6, pk_mul, e7, e8, f1]
        rfl
    · obtain ⟨r, hc2, hm2⟩ := ih (k + 1) p' (nup w k v') (by omega) (by omega) hp' (fun j hj => by
        unfold nup
        split
        · exact hv'
        · exact hw j (by omega))
      rw [show nup w k v' (k + 1 - 1) = v' by unfold nup; rw [if_pos (by omega)], show nup w k v' 0 = w 0 by unfold nup; rw [if_neg (by omega)]] at *
      refine ⟨r, fun I h hv => ?_, fun I l5 l6 l7 h hv => ?_⟩
      · obtain ⟨I1, x, f1, f2, f3, f5⟩ := hc I n h
        have h4 := h.2.1
        obtain ⟨I', g1, g2⟩ := hc2 (xup I1 167 k (nI v')) (f3.go (tGw.rf.up (Or.inl rfl)) (by rw [xup_o (by omega)]; exact f3.2.2.1) (by rw [xup_o (by omega)]; exact f3.2.2.2) (by rw [xup_o (by omega)])) (fun j hj => by
          unfold nup
          by_cases q : j = k
          · rw [if_pos q, q, xup_s]
          · rw [if_neg q, xup_d q, f2.1 167 (by omega)]; exact hv j (by omega))
        refine ⟨I', ?_, (f2.w.up (Or.inl rfl)).tr g2.1, g2.2⟩
        rw [q_X3_readSteps_25]
        simp (disch := omega) only [q_X3_readSteps_0, q_X3_readSteps_1, q_X3_readSteps_4, q_X3_readSteps_5, q_X3_readSteps_6, q_X3_readSteps_7, q_X3_readSteps_8, q_X3_readSteps_10, q_X3_readSteps_13, q_X3_readSteps_14, q_X3_readSteps_15, q_X3_readSteps_18, q_X3_readSteps_19, q_X3_readSteps_20, q_X3_readSteps_23, q_X3_readSteps_24, q_X3_readSteps_26, q_X3_readSteps_27, q_X3_readSteps_30, q_X3_readSteps_33, q_X3_readSteps_34, q_X3_readSteps_35, q_X3_readSteps_36, q_X3_readSteps_37, q_X3_readSteps_40, q_X3_readSteps_41, q_X3_readSteps_42, q_X3_readSteps_43, q_X3_readSteps_46, q_X3_readSteps_47, q_X3_readSteps_48, q_X3_readSteps_51, q_X3_readSteps_54, q_X3_readSteps_57, nI_add, pI_le, pI_lt, pI_eq, pI_neg, pI_nn, pI_le0, pI_gt0, pI_eq0, xbV_s, xbU_s, if_true, if_false, bI_eq0, Nat.reduceAdd, Nat.reduceSub, Nat.reduceEqDiff, Nat.reduceLeDiff, Nat.reduceLT, Bool.true_eq_false, Bool.false_eq_true, k3, kr, r163_1, h4, n1, f1, f5, s_set w166]
        exact g1
      · obtain ⟨I1, f1, f2, f3⟩ := hm I h
        have g := hv (k - 1) (by omega)
        have g9 : I1 198 (k - 1) = nI (w (k - 1)) := by rw [f2.1 198 (by omega)]; exact g
        have go := hm2 (xup I1 198 k (nI v'))
        have gj : ∀ j, j < k + 1 → xup I1 198 k (nI v') 198 j = nI (nup w k v' j) := fun j hj => by
          unfold nup
          by_cases q : j = k
          · rw [if_pos q, q, xup_s]
          · rw [if_neg q, xup_d q, f2.1 198 (by omega)]; exact hv j (by omega)
        have gG : mG (xup I1 198 k (nI v')) t L p' := f3.go (mGw.rf.up (Or.inl rfl)) (by rw [xup_o (by omega)]; exact f3.2) (by rw [xup_o (by omega)])
        obtain ⟨I', g1, g2⟩ := go (some (.int (nI (2 ^ (wd - 1))))) (some (.int (nI (min (2 ^ (wd - 1)) (w (k - 1)))))) (some (.int (nI s))) gG gj
        refine ⟨I', ?_, (f2.w.up (Or.inl rfl)).tr g2.1, g2.2⟩
        rw [q_X9_readSteps_52]
        by_cases q : s < 2 ^ (wd - 1)
        · have q' : ¬ 2 ^ (wd - 1) ≤ s := by omega
          rw [if_pos q] at hsv
          simp (disch := omega) only [q_X9_readSteps_0, q_X9_readSteps_1, q_X9_readSteps_3, q_X9_readSteps_4, q_X9_readSteps_7, q_X9_readSteps_10, q_X9_readSteps_11, q_X9_readSteps_12, q_X9_readSteps_15, q_X9_readSteps_18, q_X9_readSteps_21, q_X9_readSteps_24, q_X9_readSteps_25, q_X9_readSteps_26, q_X9_readSteps_27, q_X9_readSteps_29, q_X9_readSteps_32, q_X9_readSteps_33, q_X9_readSteps_34, q_X9_readSteps_37, q_X9_readSteps_40, q_X9_readSteps_41_b, q_X9_readSteps_41_0, q_X9_readSteps_41_1, q_X9_readSteps_42, q_X9_readSteps_43, q_X9_readSteps_46, q_X9_readSteps_47, q_X9_readSteps_48, q_X9_readSteps_49, q_X9_readSteps_50, q_X9_readSteps_54, q_X9_readSteps_55, q_X9_readSteps_58, q_X9_readSteps_59, q_X9_readSteps_60, q_X9_readSteps_61, q_X9_readSteps_62, q_X9_readSteps_63, q_X9_readSteps_65, q_X9_readSteps_67, q_X9_readSteps_68, q_X9_readSteps_71, q_X9_readSteps_73, q_X9_readSteps_74, q_X9_readSteps_75, q_X9_readSteps_76, q_X9_readSteps_79, q_X9_readSteps_81, q_X9_readSteps_82, q_X9_readSteps_83, q_X9_readSteps_84, q_X9_readSteps_86, q_X9_readSteps_87, q_X9_readSteps_88, q_X9_readSteps_91, q_X9_readSteps_92, q_X9_readSteps_95, q_X9_readSteps_97, q_X9_readSteps_98, q_X9_readSteps_99, q_X9_readSteps_100, q_X9_readSteps_101, q_X9_readSteps_104, q_X9_readSteps_105, q_X9_readSteps_107, q_X9_readSteps_108, q_X9_readSteps_110, q_X9_readSteps_111, q_X9_readSteps_112, q_X9_readSteps_114, q_X9_readSteps_115, q_X9_readSteps_116, q_X9_readSteps_117, q_X9_readSteps_120, q_X9_readSteps_122, q_X9_readSteps_124, q_X9_readSteps_127, q_X9_readSteps_130, q_X9_readSteps_131_b, q_X9_readSteps_131_0, q_X9_readSteps_131_1, q_X9_readSteps_132, q_X9_readSteps_133, q_X9_readSteps_136, q_X9_readSteps_138, q_X9_readSteps_139, q_X9_readSteps_142, q_X9_readSteps_144, q_X9_readSteps_145, q_X9_readSteps_146, q_X9_readSteps_147, q_X9_readSteps_149, q_X9_readSteps_151, q_X9_readSteps_154, q_X9_readSteps_156, q_X9_readSteps_159, q_X9_readSteps_161, q_X9_readSteps_162, q_X9_readSteps_164, q_X9_readSteps_165, q_X9_readSteps_166, q_X9_readSteps_167, q_X9_readSteps_168, q_X9_readSteps_171, q_X9_readSteps_174, q_X9_readSteps_175_b, q_X9_readSteps_175_0, q_X9_readSteps_175_1, nI_add, pI_le, pI_lt, pI_eq, pI_neg, pI_nn, pI_le0, pI_gt0, pI_eq0, xbV_s, xbU_s, if_true, if_false, bI_eq0, Nat.reduceAdd, Nat.reduceSub, Nat.reduceEqDiff, Nat.reduceLeDiff, Nat.reduceLT, Bool.true_eq_false, Bool.false_eq_true, n1, k9, k98, l98, r9_13, e3, ek, g, g9, s9_less, e5, e6, pk_mul, e7, e8, f1, pI_ne9, q']
          rw [nI_add] at hsv
          rw [hsv]
          exact g1
        · have q' : 2 ^ (wd - 1) ≤ s := by omega
          rw [if_neg q] at hsv
          simp (disch := omega) only [q_X9_readSteps_0, q_X9_readSteps_1, q_X9_readSteps_3, q_X9_readSteps_4, q_X9_readSteps_7, q_X9_readSteps_10, q_X9_readSteps_11, q_X9_readSteps_12, q_X9_readSteps_15, q_X9_readSteps_18, q_X9_readSteps_21, q_X9_readSteps_24, q_X9_readSteps_25, q_X9_readSteps_26, q_X9_readSteps_27, q_X9_readSteps_29, q_X9_readSteps_32, q_X9_readSteps_33, q_X9_readSteps_34, q_X9_readSteps_37, q_X9_readSteps_40, q_X9_readSteps_41_b, q_X9_readSteps_41_0, q_X9_readSteps_41_1, q_X9_readSteps_42, q_X9_readSteps_43, q_X9_readSteps_46, q_X9_readSteps_47, q_X9_readSteps_48, q_X9_readSteps_49, q_X9_readSteps_50, q_X9_readSteps_54, q_X9_readSteps_55, q_X9_readSteps_58, q_X9_readSteps_59, q_X9_readSteps_60, q_X9_readSteps_61, q_X9_readSteps_62, q_X9_readSteps_63, q_X9_readSteps_65, q_X9_readSteps_67, q_X9_readSteps_68, q_X9_readSteps_71, q_X9_readSteps_73, q_X9_readSteps_74, q_X9_readSteps_75, q_X9_readSteps_76, q_X9_readSteps_79, q_X9_readSteps_81, q_X9_readSteps_82, q_X9_readSteps_83, q_X9_readSteps_84, q_X9_readSteps_86, q_X9_readSteps_87, q_X9_readSteps_88, q_X9_readSteps_91, q_X9_readSteps_92, q_X9_readSteps_95, q_X9_readSteps_97, q_X9_readSteps_98, q_X9_readSteps_99, q_X9_readSteps_100, q_X9_readSteps_101, q_X9_readSteps_104, q_X9_readSteps_105, q_X9_readSteps_107, q_X9_readSteps_108, q_X9_readSteps_110, q_X9_readSteps_111, q_X9_readSteps_112, q_X9_readSteps_114, q_X9_readSteps_115, q_X9_readSteps_116, q_X9_readSteps_117, q_X9_readSteps_120, q_X9_readSteps_122, q_X9_readSteps_124, q_X9_readSteps_127, q_X9_readSteps_130, q_X9_readSteps_131_b, q_X9_readSteps_131_0, q_X9_readSteps_131_1, q_X9_readSteps_132, q_X9_readSteps_133, q_X9_readSteps_136, q_X9_readSteps_138, q_X9_readSteps_139, q_X9_readSteps_142, q_X9_readSteps_144, q_X9_readSteps_145, q_X9_readSteps_146, q_X9_readSteps_147, q_X9_readSteps_149, q_X9_readSteps_151, q_X9_readSteps_154, q_X9_readSteps_156, q_X9_readSteps_159, q_X9_readSteps_161, q_X9_readSteps_162, q_X9_readSteps_164, q_X9_readSteps_165, q_X9_readSteps_166, q_X9_readSteps_167, q_X9_readSteps_168, q_X9_readSteps_171, q_X9_readSteps_174, q_X9_readSteps_175_b, q_X9_readSteps_175_0, q_X9_readSteps_175_1, nI_add, pI_le, pI_lt, pI_eq, pI_neg, pI_nn, pI_le0, pI_gt0, pI_eq0, xbV_s, xbU_s, if_true, if_false, bI_eq0, Nat.reduceAdd, Nat.reduceSub, Nat.reduceEqDiff, Nat.reduceLeDiff, Nat.reduceLT, Bool.true_eq_false, Bool.false_eq_true, n1, k9, k98, l98, r9_13, e3, ek, g, g9, s9_less, e5, e6, pk_mul, e7, e8, f1, pI_ne9, q', hsv]
          exact g1
end PW
end P45
