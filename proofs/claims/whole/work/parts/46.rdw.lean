/-! ===== pages in the text: the readers behind an error ===== -/
section P46
section PX6
variable {t : Nat → Nat} {L : Nat}
theorem rd_steps (hL : L ≤ 160) (ht : ∀ j, j < L → t j ≤ 255) {n p : Nat} (hn : n ≤ 12) (hn1 : 1 ≤ n) (hp : p ≤ L) : RD t L f_X3_readSteps f_X9_readSteps n p := by
  have k3 := x163
  have kr := w166.1
  have k9 := x189
  have k98 := x198
  have l98 := l198
  rcases num2 hL ht (wd := 10) (lo := 0) (hi := 1023) (p := p) (by omega) (by omega) (by omega) hp (by omega) with ⟨e, he, hc, hm⟩ | ⟨v, p1, hv1, hv2, hp1, hc, hm⟩
  · refine ⟨.inl e, fun I h => ?_, fun I h => ?_⟩
    · obtain ⟨I1, f1, f2, f3⟩ := hc I n h
      have h4 : I1 163 4 = nI n := by rw [f2.2 4 (by omega) (by omega)]; exact h.2.1
      obtain ⟨I', g1, g2, g3⟩ := rt_E (n := n) (e := e) (w := 1) (v := 0) hn (by omega) (by omega) (by omega) (by omega) (n - 1) 1 (xup I1 167 0 (nI 0)) (by omega) (by rw [xup_o (by omega)]; exact h4) (by rw [xup_o (by omega)]; exact f3)
      refine ⟨I', ?_, (f2.w.up (Or.inl rfl)).tr g2, g3, he⟩
      rw [e_X3_readSteps]
      simp (disch := omega) only [q_X3_readSteps_0, q_X3_readSteps_1, q_X3_readSteps_4, q_X3_readSteps_5, q_X3_readSteps_6, q_X3_readSteps_7, q_X3_readSteps_8, q_X3_readSteps_10, q_X3_readSteps_13, q_X3_readSteps_14, q_X3_readSteps_15, q_X3_readSteps_18, q_X3_readSteps_19, q_X3_readSteps_20, q_X3_readSteps_23, q_X3_readSteps_24, nI_add, pI_le, pI_lt, pI_eq, pI_neg, pI_nn, pI_le0, pI_gt0, pI_eq0, xbV_s, xbU_s, if_true, if_false, bI_eq0, Nat.reduceAdd, Nat.reduceSub, Nat.reduceEqDiff, Nat.reduceLeDiff, Nat.reduceLT, Bool.true_eq_false, Bool.false_eq_true, k3, kr, r163_1, s3_val (r := (none, I)) f1, s3_numE (wd := 4) (lo := 1) (hi := 11) (by omega) f3 (by omega), s_set w166]
      exact g1
    · obtain ⟨I1, f1, f2, f3⟩ := hm I h
      refine ⟨I1, ?_, f2.w, f3⟩
      rw [e_X9_readSteps]
      simp (disch := omega) only [q_X9_readSteps_0, q_X9_readSteps_1, q_X9_readSteps_3, q_X9_readSteps_4, q_X9_readSteps_7, q_X9_readSteps_10, q_X9_readSteps_11, q_X9_readSteps_12, q_X9_readSteps_15, q_X9_readSteps_18, q_X9_readSteps_21, q_X9_readSteps_24, q_X9_readSteps_25, q_X9_readSteps_26, q_X9_readSteps_27, q_X9_readSteps_29, q_X9_readSteps_32, q_X9_readSteps_33, q_X9_readSteps_34, q_X9_readSteps_37, q_X9_readSteps_40, q_X9_readSteps_41_b, q_X9_readSteps_41_0, q_X9_readSteps_41_1, q_X9_readSteps_42, q_X9_readSteps_43, q_X9_readSteps_46, q_X9_readSteps_47, q_X9_readSteps_48, q_X9_readSteps_49, q_X9_readSteps_50, q_X9_readSteps_54, q_X9_readSteps_55, q_X9_readSteps_58, q_X9_readSteps_59, q_X9_readSteps_60, q_X9_readSteps_61, q_X9_readSteps_62, q_X9_readSteps_63, q_X9_readSteps_65, q_X9_readSteps_67, q_X9_readSteps_68, q_X9_readSteps_71, q_X9_readSteps_73, q_X9_readSteps_74, q_X9_readSteps_75, q_X9_readSteps_76, q_X9_readSteps_79, q_X9_readSteps_81, q_X9_readSteps_82, q_X9_readSteps_83, q_X9_readSteps_84, q_X9_readSteps_86, q_X9_readSteps_87, q_X9_readSteps_88, q_X9_readSteps_91, q_X9_readSteps_92, q_X9_readSteps_95, q_X9_readSteps_97, q_X9_readSteps_98, q_X9_readSteps_99, q_X9_readSteps_100, q_X9_readSteps_101, q_X9_readSteps_104, q_X9_readSteps_105, q_X9_readSteps_107, q_X9_readSteps_108, q_X9_readSteps_110, q_X9_readSteps_111, q_X9_readSteps_112, q_X9_readSteps_114, q_X9_readSteps_115, q_X9_readSteps_116, q_X9_readSteps_117, q_X9_readSteps_120, q_X9_readSteps_122, q_X9_readSteps_124, q_X9_readSteps_127, q_X9_readSteps_130, q_X9_readSteps_131_b, q_X9_readSteps_131_0, q_X9_readSteps_131_1, q_X9_readSteps_132, q_X9_readSteps_133, q_X9_readSteps_136, q_X9_readSteps_138, q_X9_readSteps_139, q_X9_readSteps_142, q_X9_readSteps_144, q_X9_readSteps_145, q_X9_readSteps_146, q_X9_readSteps_147, q_X9_readSteps_149, q_X9_readSteps_151, q_X9_readSteps_154, q_X9_readSteps_156, q_X9_readSteps_159, q_X9_readSteps_161, q_X9_readSteps_162, q_X9_readSteps_164, q_X9_readSteps_165, q_X9_readSteps_166, q_X9_readSteps_167, q_X9_readSteps_168, q_X9_readSteps_171, q_X9_readSteps_174, q_X9_readSteps_175_b, q_X9_readSteps_175_0, q_X9_readSteps_175_1, nI_add, pI_le, pI_lt, pI_eq, pI_neg, pI_nn, pI_le0, pI_gt0, pI_eq0, xbV_s, xbU_s, if_true, if_false, bI_eq0, Nat.reduceAdd, Nat.reduceSub, Nat.reduceEqDiff, Nat.reduceLeDiff, Nat.reduceLT, Bool.true_eq_false, Bool.false_eq_true, k9, f1]
      rfl
  · rcases num2 hL ht (wd := 4) (lo := 1) (hi := 11) (p := p1) (by omega) (by omega) (by omega) hp1 (by omega) with ⟨e, he, hc2, hm2⟩ | ⟨wd, p2, hw1, hw2, hp2, hc2, hm2⟩
    · refine ⟨.inl e, fun I h => ?_, fun I h => ?_⟩
      · obtain ⟨I1, f1, f2, f3⟩ := hc I n h
        obtain ⟨I2, j1, j2, j3⟩ := hc2 I1 n f3
        have h4 : I2 163 4 = nI n := by rw [j2.2 4 (by omega) (by omega)]; exact f3.2.1
        obtain ⟨I', g1, g2, g3⟩ := rt_E (n := n) (e := e) (w := 1) (v := v) hn (by omega) (by omega) (by omega) hv2 (n - 1) 1 (xup I2 167 0 (nI v)) (by omega) (by rw [xup_o (by omega)]; exact h4) (by rw [xup_o (by omega)]; exact j3)
        refine ⟨I', ?_, f2.w.tr ((j2.w.up (Or.inl rfl)).tr g2), g3, he⟩
        rw [e_X3_readSteps]
        simp (disch := omega) only [q_X3_readSteps_0, q_X3_readSteps_1, q_X3_readSteps_4, q_X3_readSteps_5, q_X3_readSteps_6, q_X3_readSteps_7, q_X3_readSteps_8, q_X3_readSteps_10, q_X3_readSteps_13, q_X3_readSteps_14, q_X3_readSteps_15, q_X3_readSteps_18, q_X3_readSteps_19, q_X3_readSteps_20, q_X3_readSteps_23, q_X3_readSteps_24, nI_add, pI_le, pI_lt, pI_eq, pI_neg, pI_nn, pI_le0, pI_gt0, pI_eq0, xbV_s, xbU_s, if_true, if_false, bI_eq0, Nat.reduceAdd, Nat.reduceSub, Nat.reduceEqDiff, Nat.reduceLeDiff, Nat.reduceLT, Bool.true_eq_false, Bool.false_eq_true, k3, kr, r163_1, s3_val (r := (none, I)) f1, j1, s_set w166]
        exact g1
      · obtain ⟨I1, f1, f2, f3⟩ := hm I h
        obtain ⟨I2, j1, j2, j3⟩ := hm2 I1 f3
        refine ⟨I2, ?_, f2.w.tr j2.w, j3⟩
        rw [e_X9_readSteps]
        simp (disch := omega) only [q_X9_readSteps_0, q_X9_readSteps_1, q_X9_readSteps_3, q_X9_readSteps_4, q_X9_readSteps_7, q_X9_readSteps_10, q_X9_readSteps_11, q_X9_readSteps_12, q_X9_readSteps_15, q_X9_readSteps_18, q_X9_readSteps_21, q_X9_readSteps_24, q_X9_readSteps_25, q_X9_readSteps_26, q_X9_readSteps_27, q_X9_readSteps_29, q_X9_readSteps_32, q_X9_readSteps_33, q_X9_readSteps_34, q_X9_readSteps_37, q_X9_readSteps_40, q_X9_readSteps_41_b, q_X9_readSteps_41_0, q_X9_readSteps_41_1, q_X9_readSteps_42, q_X9_readSteps_43, q_X9_readSteps_46, q_X9_readSteps_47, q_X9_readSteps_48, q_X9_readSteps_49, q_X9_readSteps_50, q_X9_readSteps_54, q_X9_readSteps_55, q_X9_readSteps_58, q_X9_readSteps_59, q_X9_readSteps_60, q_X9_readSteps_61, q_X9_readSteps_62, q_X9_readSteps_63, q_X9_readSteps_65, q_X9_readSteps_67, q_X9_readSteps_68, q_X9_readSteps_71, q_X9_readSteps_73, q_X9_readSteps_74, q_X9_readSteps_75, q_X9_readSteps_76, q_X9_readSteps_79, q_X9_readSteps_81, q_X9_readSteps_82, q_X9_readSteps_83, q_X9_readSteps_84, q_X9_readSteps_86, q_X9_readSteps_87, q_X9_readSteps_88, q_X9_readSteps_91, q_X9_readSteps_92, q_X9_readSteps_95, q_X9_readSteps_97, q_X9_readSteps_98, q_X9_readSteps_99, q_X9_readSteps_100, q_X9_readSteps_101, q_X9_readSteps_104, q_X9_readSteps_105, q_X9_readSteps_107, q_X9_readSteps_108, q_X9_readSteps_110, q_X9_readSteps_111, q_X9_readSteps_112, q_X9_readSteps_114, q_X9_readSteps_115, q_X9_readSteps_116, q_X9_readSteps_117, q_X9_readSteps_120, q_X9_readSteps_122, q_X9_readSteps_124, q_X9_readSteps_127, q_X9_readSteps_130, q_X9_readSteps_131_b, q_X9_readSteps_131_0, q_X9_readSteps_131_1, q_X9_readSteps_132, q_X9_readSteps_133, q_X9_readSteps_136, q_X9_readSteps_138, q_X9_readSteps_139, q_X9_readSteps_142, q_X9_readSteps_144, q_X9_readSteps_145, q_X9_readSteps_146, q_X9_readSteps_147, q_X9_readSteps_149, q_X9_readSteps_151, q_X9_readSteps_154, q_X9_readSteps_156, q_X9_readSteps_159, q_X9_readSteps_161, q_X9_readSteps_162, q_X9_readSteps_164, q_X9_readSteps_165, q_X9_readSteps_166, q_X9_readSteps_167, q_X9_readSteps_168, q_X9_readSteps_171, q_X9_readSteps_174, q_X9_readSteps_175_b, q_X9_readSteps_175_0, q_X9_readSteps_175_1, nI_add, pI_le, pI_lt, pI_eq, pI_neg, pI_nn, pI_le0, pI_gt0, pI_eq0, xbV_s, xbU_s, if_true, if_false, bI_eq0, Nat.reduceAdd, Nat.reduceSub, Nat.reduceEqDiff, Nat.reduceLeDiff, Nat.reduceLT, Bool.true_eq_false, Bool.false_eq_true, k9, f1, pI_ne9, j1]
        rfl
    · obtain ⟨r, hc3, hm3⟩ := rt_l hL ht (n := n) (wd := wd) hn hw1 hw2 (n - 1) 1 p2 (fun _ => v) (by omega) (by omega) hp2 (fun j hj => hv2)
      refine ⟨r, fun I h => ?_, fun I h => ?_⟩
      · obtain ⟨I1, f1, f2, f3⟩ := hc I n h
        obtain ⟨I2, j1, j2, j3⟩ := hc2 I1 n f3
        obtain ⟨I', g1, g2⟩ := hc3 (xup I2 167 0 (nI v)) (j3.go (tGw.rf.up (Or.inl rfl)) (by rw [xup_o (by omega)]; exact j3.2.2.1) (by rw [xup_o (by omega)]; exact j3.2.2.2) (by rw [xup_o (by omega)])) (fun j hj => by rw [show j = 0 by omega, xup_s])
        refine ⟨I', ?_, f2.w.tr ((j2.w.up (Or.inl rfl)).tr g2.1), g2.2⟩
        rw [e_X3_readSteps]
        simp (disch := omega) only [q_X3_readSteps_0, q_X3_readSteps_1, q_X3_readSteps_4, q_X3_readSteps_5, q_X3_readSteps_6, q_X3_readSteps_7, q_X3_readSteps_8, q_X3_readSteps_10, q_X3_readSteps_13, q_X3_readSteps_14, q_X3_readSteps_15, q_X3_readSteps_18, q_X3_readSteps_19, q_X3_readSteps_20, q_X3_readSteps_23, q_X3_readSteps_24, nI_add, pI_le, pI_lt, pI_eq, pI_neg, pI_nn, pI_le0, pI_gt0, pI_eq0, xbV_s, xbU_s, if_true, if_false, bI_eq0, Nat.reduceAdd, Nat.reduceSub, Nat.reduceEqDiff, Nat.reduceLeDiff, Nat.reduceLT, Bool.true_eq_false, Bool.false_eq_true, k3, kr, r163_1, s3_val (r := (none, I)) f1, j1, s_set w166]
        exact g1
      · obtain ⟨I1, f1, f2, f3⟩ := hm I h
        obtain ⟨I2, j1, j2, j3⟩ := hm2 I1 f3
        obtain ⟨I', g1, g2⟩ := hm3 (xup I2 198 0 (nI v)) none none none (j3.go (mGw.rf.up (Or.inl rfl)) (by rw [xup_o (by omega)]; exact j3.2) (by rw [xup_o (by omega)])) (fun j hj => by rw [show j = 0 by omega, xup_s])
        refine ⟨I', ?_, f2.w.tr ((j2.w.up (Or.inl rfl)).tr g2.1), g2.2⟩
        rw [e_X9_readSteps]
        simp (disch := omega) only [q_X9_readSteps_0, q_X9_readSteps_1, q_X9_readSteps_3, q_X9_readSteps_4, q_X9_readSteps_7, q_X9_readSteps_10, q_X9_readSteps_11, q_X9_readSteps_12, q_X9_readSteps_15, q_X9_readSteps_18, q_X9_readSteps_21, q_X9_readSteps_24, q_X9_readSteps_25, q_X9_readSteps_26, q_X9_readSteps_27, q_X9_readSteps_29, q_X9_readSteps_32, q_X9_readSteps_33, q_X9_readSteps_34, q_X9_readSteps_37, q_X9_readSteps_40, q_X9_readSteps_41_b, q_X9_readSteps_41_0, q_X9_readSteps_41_1, q_X9_readSteps_42, q_X9_readSteps_43, q_X9_readSteps_46, q_X9_readSteps_47, q_X9_readSteps_48, q_X9_readSteps_49, q_X9_readSteps_50, nI_add, pI_le, pI_lt, pI_eq, pI_neg, pI_nn, pI_le0, pI_gt0, pI_eq0, xbV_s, xbU_s, if_true, if_false, bI_eq0, Nat.reduceAdd, Nat.reduceSub, Nat.reduceEqDiff, Nat.reduceLeDiff, Nat.reduceLT, Bool.true_eq_false, Bool.false_eq_true, k9, k98, l98, r9_13, f1, pI_ne9, j1]
        exact g1
/-- behind an error a reader ends, and the error stays -/
def RE (f : List Value → xMem → Option ((Option Value ⊕ Nat) × xMem)) : Prop := ∀ (I : xMem) n e, 1 ≤ n → n ≤ 12 → e ≤ 200 → I 163 4 = nI n → I 163 6 = nI e → ∃ I', f [.ref 163] I = some (.inl none, I') ∧ tGw I I' ∧ I' 163 6 = nI e
theorem re_plain : RE f_X3_readPlain := by
  intro I n e h1 hn he h4 h6
  obtain ⟨I', g1, g2⟩ := rp_E hn he n 0 I (by omega) h4 h6
  refine ⟨I', ?_, g2⟩
  rw [e_X3_readPlain]
  simp (disch := omega) only [q_X3_readPlain_0, q_X3_readPlain_1, nI_add, pI_le, pI_lt, pI_eq, pI_neg, pI_nn, pI_le0, pI_gt0, pI_eq0, xbV_s, xbU_s, if_true, if_false, bI_eq0, Nat.reduceAdd, Nat.reduceSub, Nat.reduceEqDiff, Nat.reduceLeDiff, Nat.reduceLT, Bool.true_eq_false, Bool.false_eq_true]
  exact g1
theorem re_words : RE f_X3_readWords := by
  intro I n e h1 hn he h4 h6
  have k3 := x163
  obtain ⟨I', g1, g2⟩ := rw_E (n := n) (e := e) (wc := 1) (k := 0) (l := none) hn he (by omega) (by omega) (by omega) h4 h6
  refine ⟨I', ?_, g2⟩
  rw [e_X3_readWords]
  simp (disch := omega) only [q_X3_readWords_0, q_X3_readWords_1, q_X3_readWords_2, q_X3_readWords_3, q_X3_readWords_4, q_X3_readWords_7, q_X3_readWords_10, q_X3_readWords_11, q_X3_readWords_12, nI_add, pI_le, pI_lt, pI_eq, pI_neg, pI_nn, pI_le0, pI_gt0, pI_eq0, xbV_s, xbU_s, if_true, if_false, bI_eq0, Nat.reduceAdd, Nat.reduceSub, Nat.reduceEqDiff, Nat.reduceLeDiff, Nat.reduceLT, Bool.true_eq_false, Bool.false_eq_true, k3, h4, s3_numE (wd := 4) (lo := 1) (hi := n) (by omega) h6 he]
  exact g1
theorem re_runs : RE f_X3_readRuns := by
  intro I n e h1 hn he h4 h6
  obtain ⟨I', g1, g2⟩ := rr_E hn he n 0 (nI 0) I (by omega) h4 h6
  refine ⟨I', ?_, g2⟩
  rw [e_X3_readRuns]
  simp (disch := omega) only [q_X3_readRuns_0, q_X3_readRuns_1, q_X3_readRuns_2, q_X3_readRuns_3, q_X3_readRuns_4, q_X3_readRuns_5, nI_add, pI_le, pI_lt, pI_eq, pI_neg, pI_nn, pI_le0, pI_gt0, pI_eq0, xbV_s, xbU_s, if_true, if_false, bI_eq0, Nat.reduceAdd, Nat.reduceSub, Nat.reduceEqDiff, Nat.reduceLeDiff, Nat.reduceLT, Bool.true_eq_false, Bool.false_eq_true]
  exact g1
theorem re_small : RE f_X3_readSmall := by
  intro I n e h1 hn he h4 h6
  have k3 := x163
  obtain ⟨I', g1, g2⟩ := rs_E (n := n) (e := e) (lo := 0) (wd := 0) hn he (by omega) (by omega) n 0 I (by omega) h4 h6
  refine ⟨I', ?_, g2⟩
  rw [e_X3_readSmall]
  simp (disch := omega) only [q_X3_readSmall_0, q_X3_readSmall_1, q_X3_readSmall_4, q_X3_readSmall_5, q_X3_readSmall_6, q_X3_readSmall_7, q_X3_readSmall_8, q_X3_readSmall_10, q_X3_readSmall_13, q_X3_readSmall_14, q_X3_readSmall_15, nI_add, pI_le, pI_lt, pI_eq, pI_neg, pI_nn, pI_le0, pI_gt0, pI_eq0, xbV_s, xbU_s, if_true, if_false, bI_eq0, Nat.reduceAdd, Nat.reduceSub, Nat.reduceEqDiff, Nat.reduceLeDiff, Nat.reduceLT, Bool.true_eq_false, Bool.false_eq_true, k3, s3_valE h6 he, s3_numE (wd := 4) (lo := 0) (hi := 10) (by omega) h6 he]
  exact g1
theorem re_steps : RE f_X3_readSteps := by
  intro I n e h1 hn he h4 h6
  have k3 := x163
  have kr := w166.1
  obtain ⟨I', g1, g2, g3⟩ := rt_E (n := n) (e := e) (w := 1) (v := 0) hn he (by omega) (by omega) (by omega) (n - 1) 1 (xup I 167 0 (nI 0)) (by omega) (by rw [xup_o (by omega)]; exact h4) (by rw [xup_o (by omega)]; exact h6)
  refine ⟨I', ?_, (tGw.rf.up (Or.inl rfl)).tr g2, g3⟩
  rw [e_X3_readSteps]
  simp (disch := omega) only [q_X3_readSteps_0, q_X3_readSteps_1, q_X3_readSteps_4, q_X3_readSteps_5, q_X3_readSteps_6, q_X3_readSteps_7, q_X3_readSteps_8, q_X3_readSteps_10, q_X3_readSteps_13, q_X3_readSteps_14, q_X3_readSteps_15, q_X3_readSteps_18, q_X3_readSteps_19, q_X3_readSteps_20, q_X3_readSteps_23, q_X3_readSteps_24, nI_add, pI_le, pI_lt, pI_eq, pI_neg, pI_nn, pI_le0, pI_gt0, pI_eq0, xbV_s, xbU_s, if_true, if_false, bI_eq0, Nat.reduceAdd, Nat.reduceSub, Nat.reduceEqDiff, Nat.reduceLeDiff, Nat.reduceLT, Bool.true_eq_false, Bool.false_eq_true, k3, kr, r163_1, s3_valE h6 he, s3_numE (wd := 4) (lo := 1) (hi := 11) (by omega) h6 he, s_set w166]
  exact g1
end PX6
end P46
