/-! ===== bits written: the reference ===== -/
section P52
theorem x197 : xK 197 = 10 := by decide
theorem l197 : xL 197 = 200 := by decide
theorem r9_11 : xR 189 11 = 197 := by decide
def mB (I : xMem) (o : wO) : Prop := I 189 12 = nI o.2 ∧ ∀ j, j < o.2 → I 197 j = o.1 j
def mBf (I I' : xMem) : Prop := (∀ c, c ≠ 189 → c ≠ 197 → I' c = I c) ∧ ∀ j, j ≠ 12 → I' 189 j = I 189 j
theorem mBf.rf {I : xMem} : mBf I I := ⟨fun _ _ _ => rfl, fun _ _ => rfl⟩
theorem mBf.tr {I I' I'' : xMem} (h : mBf I I') (h' : mBf I' I'') : mBf I I'' := ⟨fun c h1 h2 => (h'.1 c h1 h2).trans (h.1 c h1 h2), fun j h1 => (h'.2 j h1).trans (h.2 j h1)⟩
theorem mW.cg {I I' : xMem} {m a n : Nat} {w : Nat → Nat} (h : mW I m a n w) (e : I' m = I m) : mW I' m a n w := by
  unfold mW
  rw [e]
  exact h
theorem s9_wr_l {x : Int32} {wd : Nat} : ∀ k (o : wO) (I : xMem), o.2 + k ≤ 200 → k ≤ 12 → mB I o → ∃ I', xgo k_X9_write 4 [some (.ref 189), some (.int x), some (.int (nI wd)), some (.int (nI k - nI 1))] [] I = some (.inl none, I') ∧ mBf I I' ∧ mB I' (oW x k o) := by
  have k9 := x189
  have k97 := x197
  have l97 := l197
  intro k
  induction k with
  | zero =>
    intro o I hb hk h
    have e : nI 0 - nI 1 < 0 := by decide
    refine ⟨I, ?_, mBf.rf, h⟩
    rw [q_X9_write_4]
    simp (disch := omega) only [q_X9_write_0, q_X9_write_1, q_X9_write_2, q_X9_write_3, q_X9_write_5, q_X9_write_8, q_X9_write_9, q_X9_write_12, q_X9_write_13, q_X9_write_16, q_X9_write_17, q_X9_write_18, q_X9_write_19, q_X9_write_20, q_X9_write_21, q_X9_write_22, q_X9_write_23, q_X9_write_24, q_X9_write_27, q_X9_write_28, q_X9_write_29, q_X9_write_32, q_X9_write_35, q_X9_write_38, nI_add, pI_le, pI_lt, pI_eq, pI_neg, pI_nn, pI_le0, pI_gt0, pI_eq0, xbV_s, xbU_s, if_true, if_false, bI_eq0, Nat.reduceAdd, Nat.reduceSub, Nat.reduceEqDiff, Nat.reduceLeDiff, Nat.reduceLT, Bool.true_eq_false, Bool.false_eq_true, e]
  | succ k ih =>
    intro o I hb hk h
    have e : nI (k + 1) - nI 1 = nI k := by rw [pI_sub (by omega)]; rfl
    have e2 : nI k + -1 = nI k - nI 1 := by rw [Int32.sub_eq_add_neg]; rfl
    have h1 := h.1
    obtain ⟨I', f1, f2, f3⟩ := ih (fun j => if j = o.2 then xbt x k else o.1 j, o.2 + 1) (xup (xup I 197 o.2 (xbt x k)) 189 12 (nI (o.2 + 1))) (by show o.2 + 1 + k ≤ 200; omega) (by omega) ⟨xup_s, fun j hj => by
      have hj : j < o.2 + 1 := hj
      show _ = if j = o.2 then xbt x k else o.1 j
      rw [xup_o (by omega)]
      by_cases q : j = o.2
      · rw [if_pos q, q, xup_s]
      · rw [if_neg q, xup_d q]
        exact h.2 j (by omega)⟩
    have f0 : mBf I (xup (xup I 197 o.2 (xbt x k)) 189 12 (nI (o.2 + 1))) := ⟨fun c h1 h2 => by rw [xup_o h1, xup_o h2], fun j h1 => by rw [xup_d h1, xup_o (by omega)]⟩
    refine ⟨I', ?_, f0.tr f2, f3⟩
    rw [q_X9_write_4]
    simp (disch := omega) only [q_X9_write_0, q_X9_write_1, q_X9_write_2, q_X9_write_3, q_X9_write_5, q_X9_write_8, q_X9_write_9, q_X9_write_12, q_X9_write_13, q_X9_write_16, q_X9_write_17, q_X9_write_18, q_X9_write_19, q_X9_write_20, q_X9_write_21, q_X9_write_22, q_X9_write_23, q_X9_write_24, q_X9_write_27, q_X9_write_28, q_X9_write_29, q_X9_write_32, q_X9_write_35, q_X9_write_38, nI_add, pI_le, pI_lt, pI_eq, pI_neg, pI_nn, pI_le0, pI_gt0, pI_eq0, xbV_s, xbU_s, if_true, if_false, bI_eq0, Nat.reduceAdd, Nat.reduceSub, Nat.reduceEqDiff, Nat.reduceLeDiff, Nat.reduceLT, Bool.true_eq_false, Bool.false_eq_true, e, k9, r9_11, k97, l97, h1, xup_o, e2]
    exact f1
theorem s9_wr {x : Int32} {k : Nat} {o : wO} {I : xMem} (hb : o.2 + k ≤ 200) (hk : k ≤ 12) (h : mB I o) : ∃ I', f_X9_write [.ref 189, .int x, .int (nI k)] I = some (.inl none, I') ∧ mBf I I' ∧ mB I' (oW x k o) := by
  rw [e_X9_write]
  simp only [q_X9_write_0, q_X9_write_1, q_X9_write_2, q_X9_write_3, q_X9_write_5, q_X9_write_8, q_X9_write_9, q_X9_write_12, q_X9_write_13, q_X9_write_16, q_X9_write_17, q_X9_write_18, q_X9_write_19, q_X9_write_20, q_X9_write_21, q_X9_write_22, q_X9_write_23, q_X9_write_24, q_X9_write_27, q_X9_write_28, q_X9_write_29, q_X9_write_32, q_X9_write_35, q_X9_write_38]
  exact s9_wr_l k o I hb hk h
section PX2
variable {a n : Nat} {w : Nat → Nat}
theorem mBf.mw {I I' : xMem} (h : mBf I I') (hP : mW I 191 a n w) : mW I' 191 a n w := hP.cg (h.1 191 (by omega) (by omega))
theorem s9_wpl_l {o : wO} {I : xMem} {x1 x4 : Int32} {l6 l7 : Option Value} (hn : n ≤ 12) (ha : a + n ≤ 142) (hb : o.2 + 120 ≤ 200) : ∀ d k (I1 : xMem), k + d = n → mBf I I1 → mW I1 191 a n w → mB I1 (oL (fun k => nI (w k)) 10 k o) → ∃ I', xgo k_X9_writePage 87 [some (.ref 189), some (.int x1), some (.int (nI a)), some (.int (nI n)), some (.int x4), some (.int (nI (a + k))), l6, l7] [] I1 = some (.inl none, I') ∧ mBf I I' ∧ mB I' (oL (fun k => nI (w k)) 10 n o) := by
  have k9 := x189
  have k91 := x191
  have l91 := l191
  intro d
  induction d with
  | zero =>
    intro k I1 hk hG hP h
    have e : k = n := by omega
    subst e
    refine ⟨I1, ?_, hG, h⟩
    rw [q_X9_writePage_87]
    simp (disch := omega) only [q_X9_writePage_0, q_X9_writePage_1, q_X9_writePage_2, q_X9_writePage_5, q_X9_writePage_7, q_X9_writePage_8, q_X9_writePage_11, q_X9_writePage_12, q_X9_writePage_15, q_X9_writePage_16, q_X9_writePage_17, q_X9_writePage_18, q_X9_writePage_21, q_X9_writePage_22, q_X9_writePage_23, q_X9_writePage_24, q_X9_writePage_25, q_X9_writePage_26, q_X9_writePage_27, q_X9_writePage_30, q_X9_writePage_31, q_X9_writePage_34, q_X9_writePage_36, q_X9_writePage_37, q_X9_writePage_39, q_X9_writePage_40, q_X9_writePage_43, q_X9_writePage_44, q_X9_writePage_45, q_X9_writePage_46, q_X9_writePage_49, q_X9_writePage_51, q_X9_writePage_52, q_X9_writePage_55, q_X9_writePage_56, q_X9_writePage_57, q_X9_writePage_58, q_X9_writePage_61, q_X9_writePage_64, q_X9_writePage_66, q_X9_writePage_67, q_X9_writePage_70, q_X9_writePage_71, q_X9_writePage_72, q_X9_writePage_73, q_X9_writePage_76, q_X9_writePage_79, q_X9_writePage_81, q_X9_writePage_84, q_X9_writePage_85, q_X9_writePage_89, q_X9_writePage_90, q_X9_writePage_91, q_X9_writePage_92, q_X9_writePage_95, q_X9_writePage_96, q_X9_writePage_97, q_X9_writePage_100, q_X9_writePage_102, q_X9_writePage_103, q_X9_writePage_105, q_X9_writePage_108, q_X9_writePage_111, q_X9_writePage_114, q_X9_writePage_117, q_X9_writePage_119, q_X9_writePage_120, q_X9_writePage_123, q_X9_writePage_124, q_X9_writePage_127, q_X9_writePage_128, q_X9_writePage_129, q_X9_writePage_132, q_X9_writePage_134, q_X9_writePage_135, q_X9_writePage_138, q_X9_writePage_139, q_X9_writePage_140, q_X9_writePage_143, q_X9_writePage_145, q_X9_writePage_146, q_X9_writePage_149, q_X9_writePage_151, q_X9_writePage_152, q_X9_writePage_154, q_X9_writePage_156, q_X9_writePage_159, q_X9_writePage_160, q_X9_writePage_162, q_X9_writePage_163, q_X9_writePage_166, q_X9_writePage_167, q_X9_writePage_171, q_X9_writePage_172, q_X9_writePage_173, q_X9_writePage_174, q_X9_writePage_177, q_X9_writePage_178, q_X9_writePage_179, q_X9_writePage_182, q_X9_writePage_184, q_X9_writePage_185, q_X9_writePage_187, q_X9_writePage_188, q_X9_writePage_190, q_X9_writePage_193, q_X9_writePage_196, q_X9_writePage_199, q_X9_writePage_202, q_X9_writePage_203, q_X9_writePage_206, q_X9_writePage_207, q_X9_writePage_208, q_X9_writePage_211, q_X9_writePage_213, q_X9_writePage_214, q_X9_writePage_215, q_X9_writePage_218, q_X9_writePage_219, q_X9_writePage_220, q_X9_writePage_222, q_X9_writePage_225, q_X9_writePage_226, q_X9_writePage_228, q_X9_writePage_229, q_X9_writePage_232, q_X9_writePage_233, q_X9_writePage_234, q_X9_writePage_235, q_X9_writePage_239, q_X9_writePage_240, q_X9_writePage_241, q_X9_writePage_242, q_X9_writePage_245, q_X9_writePage_246, q_X9_writePage_247, q_X9_writePage_250, q_X9_writePage_252, q_X9_writePage_253, q_X9_writePage_254, q_X9_writePage_257, q_X9_writePage_259, q_X9_writePage_260, q_X9_writePage_261, q_X9_writePage_262, q_X9_writePage_263, q_X9_writePage_265, q_X9_writePage_268, q_X9_writePage_271, q_X9_writePage_274, nI_add, pI_le, pI_lt, pI_eq, pI_neg, pI_nn, pI_le0, pI_gt0, pI_eq0, xbV_s, xbU_s, if_true, if_false, bI_eq0, Nat.reduceAdd, Nat.reduceSub, Nat.reduceEqDiff, Nat.reduceLeDiff, Nat.reduceLT, Bool.true_eq_false, Bool.false_eq_true, Nat.le_refl]
  | succ d ih =>
    intro k I1 hk hG hP h
    have n1 : ¬ a + n ≤ a + k := by omega
    have hv := hP.2.2.2.1 k (by omega)
    obtain ⟨I2, g1, g2, g3⟩ := s9_wr (x := nI (w k)) (k := 10) (by rw [oL_n]; omega) (by omega) h
    obtain ⟨I', f1, f2, f3⟩ := ih (k + 1) I2 (by omega) (hG.tr g2) (g2.mw hP) g3
    refine ⟨I', ?_, f2, f3⟩
    rw [q_X9_writePage_87]
    simp (disch := omega) only [q_X9_writePage_89, q_X9_writePage_90, q_X9_writePage_91, q_X9_writePage_92, q_X9_writePage_95, q_X9_writePage_96, q_X9_writePage_97, q_X9_writePage_100, q_X9_writePage_102, q_X9_writePage_103, q_X9_writePage_105, q_X9_writePage_108, q_X9_writePage_111, q_X9_writePage_114, nI_add, pI_le, pI_lt, pI_eq, pI_neg, pI_nn, pI_le0, pI_gt0, pI_eq0, xbV_s, xbU_s, if_true, if_false, bI_eq0, Nat.reduceAdd, Nat.reduceSub, Nat.reduceEqDiff, Nat.reduceLeDiff, Nat.reduceLT, Bool.true_eq_false, Bool.false_eq_true, n1, k9, k91, l91, r9_4, hv, g1]
    exact f1
theorem s9_wsm_l {o : wO} {I : xMem} {x1 x4 x5 : Int32} {wd : Nat} (hwd : wd ≤ 10) (hn : n ≤ 12) (ha : a + n ≤ 142) (hb : o.2 + 120 ≤ 200) : ∀ d k (I1 : xMem), k + d = n → mBf I I1 → mW I1 191 a n w → mB I1 (oL (fun k => nI (w k) - x5) wd k o) → ∃ I', xgo k_X9_writePage 169 [some (.ref 189), some (.int x1), some (.int (nI a)), some (.int (nI n)), some (.int x4), some (.int x5), some (.int (nI wd)), some (.int (nI (a + k)))] [] I1 = some (.inl none, I') ∧ mBf I I' ∧ mB I' (oL (fun k => nI (w k) - x5) wd n o) := by
  have k9 := x189
  have k91 := x191
  have l91 := l191
  intro d
  induction d with
  | zero =>
    intro k I1 hk hG hP h
    have e : k = n := by omega
    subst e
    refine ⟨I1, ?_, hG, h⟩
    rw [q_X9_writePage_169]
    simp (disch := omega) only [q_X9_writePage_0, q_X9_writePage_1, q_X9_writePage_2, q_X9_writePage_5, q_X9_writePage_7, q_X9_writePage_8, q_X9_writePage_11, q_X9_writePage_12, q_X9_writePage_15, q_X9_writePage_16, q_X9_writePage_17, q_X9_writePage_18, q_X9_writePage_21, q_X9_writePage_22, q_X9_writePage_23, q_X9_writePage_24, q_X9_writePage_25, q_X9_writePage_26, q_X9_writePage_27, q_X9_writePage_30, q_X9_writePage_31, q_X9_writePage_34, q_X9_writePage_36, q_X9_writePage_37, q_X9_writePage_39, q_X9_writePage_40, q_X9_writePage_43, q_X9_writePage_44, q_X9_writePage_45, q_X9_writePage_46, q_X9_writePage_49, q_X9_writePage_51, q_X9_writePage_52, q_X9_writePage_55, q_X9_writePage_56, q_X9_writePage_57, q_X9_writePage_58, q_X9_writePage_61, q_X9_writePage_64, q_X9_writePage_66, q_X9_writePage_67, q_X9_writePage_70, q_X9_writePage_71, q_X9_writePage_72, q_X9_writePage_73, q_X9_writePage_76, q_X9_writePage_79, q_X9_writePage_81, q_X9_writePage_84, q_X9_writePage_85, q_X9_writePage_89, q_X9_writePage_90, q_X9_writePage_91, q_X9_writePage_92, q_X9_writePage_95, q_X9_writePage_96, q_X9_writePage_97, q_X9_writePage_100, q_X9_writePage_102, q_X9_writePage_103, q_X9_writePage_105, q_X9_writePage_108, q_X9_writePage_111, q_X9_writePage_114, q_X9_writePage_117, q_X9_writePage_119, q_X9_writePage_120, q_X9_writePage_123, q_X9_writePage_124, q_X9_writePage_127, q_X9_writePage_128, q_X9_writePage_129, q_X9_writePage_132, q_X9_writePage_134, q_X9_writePage_135, q_X9_writePage_138, q_X9_writePage_139, q_X9_writePage_140, q_X9_writePage_143, q_X9_writePage_145, q_X9_writePage_146, q_X9_writePage_149, q_X9_writePage_151, q_X9_writePage_152, q_X9_writePage_154, q_X9_writePage_156, q_X9_writePage_159, q_X9_writePage_160, q_X9_writePage_162, q_X9_writePage_163, q_X9_writePage_166, q_X9_writePage_167, q_X9_writePage_171, q_X9_writePage_172, q_X9_writePage_173, q_X9_writePage_174, q_X9_writePage_177, q_X9_writePage_178, q_X9_writePage_179, q_X9_writePage_182, q_X9_writePage_184, q_X9_writePage_185, q_X9_writePage_187, q_X9_writePage_188, q_X9_writePage_190, q_X9_writePage_193, q_X9_writePage_196, q_X9_writePage_199, q_X9_writePage_202, q_X9_writePage_203, q_X9_writePage_206, q_X9_writePage_207, q_X9_writePage_208, q_X9_writePage_211, q_X9_writePage_213, q_X9_writePage_214, q_X9_writePage_215, q_X9_writePage_218, q_X9_writePage_219, q_X9_writePage_220, q_X9_writePage_222, q_X9_writePage_225, q_X9_writePage_226, q_X9_writePage_228, q_X9_writePage_229, q_X9_writePage_232, q_X9_writePage_233, q_X9_writePage_234, q_X9_writePage_235, q_X9_writePage_239, q_X9_writePage_240, q_X9_writePage_241, q_X9_writePage_242, q_X9_writePage_245, q_X9_writePage_246, q_X9_writePage_247, q_X9_writePage_250, q_X9_writePage_252, q_X9_writePage_253, q_X9_writePage_254, q_X9_writePage_257, q_X9_writePage_259, q_X9_writePage_260, q_X9_writePage_261, q_X9_writePage_262, q_X9_writePage_263, q_X9_writePage_265, q_X9_writePage_268, q_X9_writePage_271, q_X9_writePage_274, nI_add, pI_le, pI_lt, pI_eq, pI_neg, pI_nn, pI_le0, pI_gt0, pI_eq0, xbV_s, xbU_s, if_true, if_false, bI_eq0, Nat.reduceAdd, Nat.reduceSub, Nat.reduceEqDiff, Nat.reduceLeDiff, Nat.reduceLT, Bool.true_eq_false, Bool.false_eq_true, Nat.le_refl]
  | succ d ih =>
    intro k I1 hk hG hP h
    have n1 : ¬ a + n ≤ a + k := by omega
    have hv := hP.2.2.2.1 k (by omega)
    have hm : wd * k + wd ≤ 10 * 12 := by
      rw [← Nat.mul_succ]
      exact Nat.mul_le_mul hwd (by omega)
    obtain ⟨I2, g1, g2, g3⟩ := s9_wr (x := nI (w k) - x5) (k := wd) (by rw [oL_n]; omega) (by omega) h
    obtain ⟨I', f1, f2, f3⟩ := ih (k + 1) I2 (by omega) (hG.tr g2) (g2.mw hP) g3
    refine ⟨I', ?_, f2, f3⟩
    rw [q_X9_writePage_169]
    simp (disch := omega) only [q_X9_writePage_171, q_X9_writePage_172, q_X9_writePage_173, q_X9_writePage_174, q_X9_writePage_177, q_X9_writePage_178, q_X9_writePage_179, q_X9_writePage_182, q_X9_writePage_184, q_X9_writePage_185, q_X9_writePage_187, q_X9_writePage_188, q_X9_writePage_190, q_X9_writePage_193, q_X9_writePage_196, nI_add, pI_le, pI_lt, pI_eq, pI_neg, pI_nn, pI_le0, pI_gt0, pI_eq0, xbV_s, xbU_s, if_true, if_false, bI_eq0, Nat.reduceAdd, Nat.reduceSub, Nat.reduceEqDiff, Nat.reduceLeDiff, Nat.reduceLT, Bool.true_eq_false, Bool.false_eq_true, n1, k9, k91, l91, r9_4, hv, g1]
    exact f1
theorem s9_wst_l {o : wO} {I : xMem} {x1 x4 : Int32} {wd : Nat} {l7 : Option Value} (hwd : wd ≤ 11) (hn : n ≤ 12) (h1 : 1 ≤ n) (ha : a + n ≤ 142) (hb : o.2 + 121 ≤ 200) : ∀ d k (I1 : xMem), k + 1 + d = n → mBf I I1 → mW I1 191 a n w → mB I1 (oL (fun k => nI (w (k + 1)) - nI (w k)) wd k o) → ∃ I', xgo k_X9_writePage 237 [some (.ref 189), some (.int x1), some (.int (nI a)), some (.int (nI n)), some (.int x4), some (.int (nI wd)), some (.int (nI (a + (k + 1)))), l7] [] I1 = some (.inl none, I') ∧ mBf I I' ∧ mB I' (oL (fun k => nI (w (k + 1)) - nI (w k)) wd (n - 1) o) := by
  have k9 := x189
  have k91 := x191
  have l91 := l191
  intro d
  induction d with
  | zero =>
    intro k I1 hk hG hP h
    have e : k = n - 1 := by omega
    have n1 : a + n ≤ a + (k + 1) := by omega
    refine ⟨I1, ?_, hG, by rw [e] at h; exact h⟩
    rw [q_X9_writePage_237]
    simp (disch := omega) only [q_X9_writePage_0, q_X9_writePage_1, q_X9_writePage_2, q_X9_writePage_5, q_X9_writePage_7, q_X9_writePage_8, q_X9_writePage_11, q_X9_writePage_12, q_X9_writePage_15, q_X9_writePage_16, q_X9_writePage_17, q_X9_writePage_18, q_X9_writePage_21, q_X9_writePage_22, q_X9_writePage_23, q_X9_writePage_24, q_X9_writePage_25, q_X9_writePage_26, q_X9_writePage_27, q_X9_writePage_30, q_X9_writePage_31, q_X9_writePage_34, q_X9_writePage_36, q_X9_writePage_37, q_X9_writePage_39, q_X9_writePage_40, q_X9_writePage_43, q_X9_writePage_44, q_X9_writePage_45, q_X9_writePage_46, q_X9_writePage_49, q_X9_writePage_51, q_X9_writePage_52, q_X9_writePage_55, q_X9_writePage_56, q_X9_writePage_57, q_X9_writePage_58, q_X9_writePage_61, q_X9_writePage_64, q_X9_writePage_66, q_X9_writePage_67, q_X9_writePage_70, q_X9_writePage_71, q_X9_writePage_72, q_X9_writePage_73, q_X9_writePage_76, q_X9_writePage_79, q_X9_writePage_81, q_X9_writePage_84, q_X9_writePage_85, q_X9_writePage_89, q_X9_writePage_90, q_X9_writePage_91, q_X9_writePage_92, q_X9_writePage_95, q_X9_writePage_96, q_X9_writePage_97, q_X9_writePage_100, q_X9_writePage_102, q_X9_writePage_103, q_X9_writePage_105, q_X9_writePage_108, q_X9_writePage_111, q_X9_writePage_114, q_X9_writePage_117, q_X9_writePage_119, q_X9_writePage_120, q_X9_writePage_123, q_X9_writePage_124, q_X9_writePage_127, q_X9_writePage_128, q_X9_writePage_129, q_X9_writePage_132, q_X9_writePage_134, q_X9_writePage_135, q_X9_writePage_138, q_X9_writePage_139, q_X9_writePage_140, q_X9_writePage_143, q_X9_writePage_145, q_X9_writePage_146, q_X9_writePage_149, q_X9_writePage_151, q_X9_writePage_152, q_X9_writePage_154, q_X9_writePage_156, q_X9_writePage_159, q_X9_writePage_160, q_X9_writePage_162, q_X9_writePage_163, q_X9_writePage_166, q_X9_writePage_167, q_X9_writePage_171, q_X9_writePage_172, q_X9_writePage_173, q_X9_writePage_174, q_X9_writePage_177, q_X9_writePage_178, q_X9_writePage_179, q_X9_writePage_182, q_X9_writePage_184, q_X9_writePage_185, q_X9_writePage_187, q_X9_writePage_188, q_X9_writePage_190, q_X9_writePage_193, q_X9_writePage_196, q_X9_writePage_199, q_X9_writePage_202, q_X9_writePage_203, q_X9_writePage_206, q_X9_writePage_207, q_X9_writePage_208, q_X9_writePage_211, q_X9_writePage_213, q_X9_writePage_214, q_X9_writePage_215, q_X9_writePage_218, q_X9_writePage_219, q_X9_writePage_220, q_X9_writePage_222, q_X9_writePage_225, q_X9_writePage_226, q_X9_writePage_228, q_X9_writePage_229, q_X9_writePage_232, q_X9_writePage_233, q_X9_writePage_234, q_X9_writePage_235, q_X9_writePage_239, q_X9_writePage_240, q_X9_writePage_241, q_X9_writePage_242, q_X9_writePage_245, q_X9_writePage_246, q_X9_writePage_247, q_X9_writePage_250, q_X9_writePage_252, q_X9_writePage_253, q_X9_writePage_254, q_X9_writePage_257, q_X9_writePage_259, q_X9_writePage_260, q_X9_writePage_261, q_X9_writePage_262, q_X9_writePage_263, q_X9_writePage_265, q_X9_writePage_268, q_X9_writePage_271, q_X9_writePage_274, nI_add, pI_le, pI_lt, pI_eq, pI_neg, pI_nn, pI_le0, pI_gt0, pI_eq0, xbV_s, xbU_s, if_true, if_false, bI_eq0, Nat.reduceAdd, Nat.reduceSub, Nat.reduceEqDiff, Nat.reduceLeDiff, Nat.reduceLT, Bool.true_eq_false, Bool.false_eq_true, n1]
  | succ d ih =>
    intro k I1 hk hG hP h
    have n1 : ¬ a + n ≤ a + (k + 1) := by omega
    have hv := hP.2.2.2.1 (k + 1) (by omega)
    have hv2 := hP.2.2.2.1 k (by omega)
    have e0 : nI (a + (k + 1)) - nI 1 = nI (a + k) := by rw [pI_sub (by omega)]; rfl
    have hm : wd * k + wd ≤ 11 * 11 := by
      rw [← Nat.mul_succ]
      exact Nat.mul_le_mul hwd (by omega)
    obtain ⟨I2, g1, g2, g3⟩ := s9_wr (x := nI (w (k + 1)) - nI (w k)) (k := wd) (by rw [oL_n]; omega) (by omega) h
    obtain ⟨I', f1, f2, f3⟩ := ih (k + 1) I2 (by omega) (hG.tr g2) (g2.mw hP) g3
    refine ⟨I', ?_, f2, f3⟩
    rw [q_X9_writePage_237]
    simp (disch := omega) only [q_X9_writePage_239, q_X9_writePage_240, q_X9_writePage_241, q_X9_writePage_242, q_X9_writePage_245, q_X9_writePage_246, q_X9_writePage_247, q_X9_writePage_250, q_X9_writePage_252, q_X9_writePage_253, q_X9_writePage_254, q_X9_writePage_257, q_X9_writePage_259, q_X9_writePage_260, q_X9_writePage_261, q_X9_writePage_262, q_X9_writePage_263, q_X9_writePage_265, q_X9_writePage_268, q_X9_writePage_271, nI_add, pI_le, pI_lt, pI_eq, pI_neg, pI_nn, pI_le0, pI_gt0, pI_eq0, xbV_s, xbU_s, if_true, if_false, bI_eq0, Nat.reduceAdd, Nat.reduceSub, Nat.reduceEqDiff, Nat.reduceLeDiff, Nat.reduceLT, Bool.true_eq_false, Bool.false_eq_true, n1, k9, k91, l91, r9_4, hv, hv2, e0, g1]
    exact f1
theorem s9_wwd_a {o : wO} {I : xMem} {x3 : Int32} (hn : n ≤ 12) (ha : a + n ≤ 142) (hb : o.2 + 120 ≤ 200) : ∀ d k (I1 : xMem), k + d = n → mBf I I1 → mW I1 191 a n w → mB I1 (oD w k o) → ∃ I', xgo k_X9_writeWords 19 [some (.ref 189), some (.int (nI a)), some (.int (nI n)), some (.int x3), some (.int (nI (a + k)))] [] I1 = xgo k_X9_writeWords 62 [some (.ref 189), some (.int (nI a)), some (.int (nI n)), some (.int x3), some (.int (nI a))] [] I' ∧ mBf I I' ∧ mW I' 191 a n w ∧ mB I' (oD w n o) := by
  have k9 := x189
  have k91 := x191
  have l91 := l191
  intro d
  induction d with
  | zero =>
    intro k I1 hk hG hP h
    have e : k = n := by omega
    subst e
    refine ⟨I1, ?_, hG, hP, h⟩
    rw [q_X9_writeWords_19]
    simp (disch := omega) only [q_X9_writeWords_21, q_X9_writeWords_22, q_X9_writeWords_23, q_X9_writeWords_24, q_X9_writeWords_27, q_X9_writeWords_28, q_X9_writeWords_31, q_X9_writeWords_32, q_X9_writeWords_34, q_X9_writeWords_37, q_X9_writeWords_40, q_X9_writeWords_41, q_X9_writeWords_42, q_X9_writeWords_45, q_X9_writeWords_47, q_X9_writeWords_48, q_X9_writeWords_50, q_X9_writeWords_53, q_X9_writeWords_56, q_X9_writeWords_59, q_X9_writeWords_60, nI_add, pI_le, pI_lt, pI_eq, pI_neg, pI_nn, pI_le0, pI_gt0, pI_eq0, xbV_s, xbU_s, if_true, if_false, bI_eq0, Nat.reduceAdd, Nat.reduceSub, Nat.reduceEqDiff, Nat.reduceLeDiff, Nat.reduceLT, Bool.true_eq_false, Bool.false_eq_true, Nat.le_refl]
  | succ d ih =>
    intro k I1 hk hG hP h
    have n1 : ¬ a + n ≤ a + k := by omega
    have hv := hP.2.2.2.1 k (by omega)
    have hnew := s9_isNew hP (k := k) (by omega)
    have hd := pDiff_le w k
    by_cases q : pFree w (w k) k = true
    · rw [q] at hnew
      obtain ⟨I2, g1, g2, g3⟩ := s9_wr (x := nI (w k)) (k := 10) (by rw [oD_n]; omega) (by omega) h
      obtain ⟨I', f1, f2, f3, f4⟩ := ih (k + 1) I2 (by omega) (hG.tr g2) (g2.mw hP) (by
        show mB I2 (if pFree w (w k) k = true then oW (nI (w k)) 10 (oD w k o) else oD w k o)
        rw [if_pos q]
        exact g3)
      refine ⟨I', ?_, f2, f3, f4⟩
      rw [q_X9_writeWords_19]
      simp (disch := omega) only [q_X9_writeWords_21, q_X9_writeWords_22, q_X9_writeWords_23, q_X9_writeWords_24, q_X9_writeWords_27, q_X9_writeWords_28, q_X9_writeWords_31, q_X9_writeWords_32, q_X9_writeWords_34, q_X9_writeWords_37, q_X9_writeWords_40, q_X9_writeWords_41, q_X9_writeWords_42, q_X9_writeWords_45, q_X9_writeWords_47, q_X9_writeWords_48, q_X9_writeWords_50, q_X9_writeWords_53, q_X9_writeWords_56, nI_add, pI_le, pI_lt, pI_eq, pI_neg, pI_nn, pI_le0, pI_gt0, pI_eq0, xbV_s, xbU_s, if_true, if_false, bI_eq0, Nat.reduceAdd, Nat.reduceSub, Nat.reduceEqDiff, Nat.reduceLeDiff, Nat.reduceLT, Bool.true_eq_false, Bool.false_eq_true, n1, k9, k91, l91, r9_4, hv, hnew, g1]
      exact f1
    · have q' : pFree w (w k) k = false := by simpa using q
      rw [q'] at hnew
      obtain ⟨I', f1, f2, f3, f4⟩ := ih (k + 1) I1 (by omega) hG hP (by
        show mB I1 (if pFree w (w k) k = true then oW (nI (w k)) 10 (oD w k o) else oD w k o)
        rw [if_neg q]
        exact h)
      refine ⟨I', ?_, f2, f3, f4⟩
      rw [q_X9_writeWords_19]
      simp (disch := omega) only [q_X9_writeWords_21, q_X9_writeWords_22, q_X9_writeWords_23, q_X9_writeWords_24, q_X9_writeWords_27, q_X9_writeWords_28, q_X9_writeWords_31, q_X9_writeWords_32, q_X9_writeWords_34, q_X9_writeWords_37, q_X9_writeWords_40, q_X9_writeWords_41, q_X9_writeWords_42, q_X9_writeWords_45, q_X9_writeWords_47, q_X9_writeWords_48, q_X9_writeWords_50, q_X9_writeWords_53, q_X9_writeWords_56, nI_add, pI_le, pI_lt, pI_eq, pI_neg, pI_nn, pI_le0, pI_gt0, pI_eq0, xbV_s, xbU_s, if_true, if_false, bI_eq0, Nat.reduceAdd, Nat.reduceSub, Nat.reduceEqDiff, Nat.reduceLeDiff, Nat.reduceLT, Bool.true_eq_false, Bool.false_eq_true, n1, k9, k91, l91, r9_4, hnew]
      exact f1
theorem s9_wwd_b {o : wO} {I : xMem} (hn : n ≤ 12) (h1 : 1 ≤ n) (ha : a + n ≤ 142) (hb : o.2 + 48 ≤ 200) : ∀ d k (I1 : xMem), k + d = n → mBf I I1 → mW I1 191 a n w → mB I1 (oL (fun k => nI (pWord w (w k) n)) (pWd (pDiff w n - 1)) k o) → ∃ I', xgo k_X9_writeWords 62 [some (.ref 189), some (.int (nI a)), some (.int (nI n)), some (.int (nI (pDiff w n))), some (.int (nI (a + k)))] [] I1 = some (.inl none, I') ∧ mBf I I' ∧ mB I' (oL (fun k => nI (pWord w (w k) n)) (pWd (pDiff w n - 1)) n o) := by
  have k9 := x189
  have k91 := x191
  have l91 := l191
  have hd := pDiff_le w n
  have hd0 := pDiff_pos w (n := n) (by omega)
  have hwd : pWd (pDiff w n - 1) ≤ 4 := pWd4 (by omega)
  have e0 : nI (pDiff w n) - nI 1 = nI (pDiff w n - 1) := pI_sub (by omega)
  intro d
  induction d with
  | zero =>
    intro k I1 hk hG hP h
    have e : k = n := by omega
    refine ⟨I1, ?_, hG, by rw [e] at h; exact h⟩
    have n1 : a + n ≤ a + k := by omega
    rw [q_X9_writeWords_62]
    simp (disch := omega) only [q_X9_writeWords_0, q_X9_writeWords_1, q_X9_writeWords_4, q_X9_writeWords_5, q_X9_writeWords_6, q_X9_writeWords_9, q_X9_writeWords_10, q_X9_writeWords_11, q_X9_writeWords_12, q_X9_writeWords_13, q_X9_writeWords_16, q_X9_writeWords_17, q_X9_writeWords_21, q_X9_writeWords_22, q_X9_writeWords_23, q_X9_writeWords_24, q_X9_writeWords_27, q_X9_writeWords_28, q_X9_writeWords_31, q_X9_writeWords_32, q_X9_writeWords_34, q_X9_writeWords_37, q_X9_writeWords_40, q_X9_writeWords_41, q_X9_writeWords_42, q_X9_writeWords_45, q_X9_writeWords_47, q_X9_writeWords_48, q_X9_writeWords_50, q_X9_writeWords_53, q_X9_writeWords_56, q_X9_writeWords_59, q_X9_writeWords_60, q_X9_writeWords_64, q_X9_writeWords_65, q_X9_writeWords_66, q_X9_writeWords_67, q_X9_writeWords_70, q_X9_writeWords_71, q_X9_writeWords_72, q_X9_writeWords_75, q_X9_writeWords_76, q_X9_writeWords_77, q_X9_writeWords_78, q_X9_writeWords_81, q_X9_writeWords_83, q_X9_writeWords_84, q_X9_writeWords_87, q_X9_writeWords_88, q_X9_writeWords_89, q_X9_writeWords_90, q_X9_writeWords_93, q_X9_writeWords_96, q_X9_writeWords_99, q_X9_writeWords_102, nI_add, pI_le, pI_lt, pI_eq, pI_neg, pI_nn, pI_le0, pI_gt0, pI_eq0, xbV_s, xbU_s, if_true, if_false, bI_eq0, Nat.reduceAdd, Nat.reduceSub, Nat.reduceEqDiff, Nat.reduceLeDiff, Nat.reduceLT, Bool.true_eq_false, Bool.false_eq_true, n1]
  | succ d ih =>
    intro k I1 hk hG hP h
    have n1 : ¬ a + n ≤ a + k := by omega
    have hv := hP.2.2.2.1 k (by omega)
    have hb2 := hP.2.2.2.2 k (by omega)
    have hword := s9_word hP (x := w k) (by omega)
    have hm : pWd (pDiff w n - 1) * k + pWd (pDiff w n - 1) ≤ 4 * 12 := by
      rw [← Nat.mul_succ]
      exact Nat.mul_le_mul hwd (by omega)
    obtain ⟨I2, g1, g2, g3⟩ := s9_wr (x := nI (pWord w (w k) n)) (k := pWd (pDiff w n - 1)) (by rw [oL_n]; omega) (by omega) h
    obtain ⟨I', f1, f2, f3⟩ := ih (k + 1) I2 (by omega) (hG.tr g2) (g2.mw hP) g3
    refine ⟨I', ?_, f2, f3⟩
    rw [q_X9_writeWords_62]
    simp (disch := omega) only [q_X9_writeWords_0, q_X9_writeWords_1, q_X9_writeWords_4, q_X9_writeWords_5, q_X9_writeWords_6, q_X9_writeWords_9, q_X9_writeWords_10, q_X9_writeWords_11, q_X9_writeWords_12, q_X9_writeWords_13, q_X9_writeWords_16, q_X9_writeWords_17, q_X9_writeWords_21, q_X9_writeWords_22, q_X9_writeWords_23, q_X9_writeWords_24, q_X9_writeWords_27, q_X9_writeWords_28, q_X9_writeWords_31, q_X9_writeWords_32, q_X9_writeWords_34, q_X9_writeWords_37, q_X9_writeWords_40, q_X9_writeWords_41, q_X9_writeWords_42, q_X9_writeWords_45, q_X9_writeWords_47, q_X9_writeWords_48, q_X9_writeWords_50, q_X9_writeWords_53, q_X9_writeWords_56, q_X9_writeWords_59, q_X9_writeWords_60, q_X9_writeWords_64, q_X9_writeWords_65, q_X9_writeWords_66, q_X9_writeWords_67, q_X9_writeWords_70, q_X9_writeWords_71, q_X9_writeWords_72, q_X9_writeWords_75, q_X9_writeWords_76, q_X9_writeWords_77, q_X9_writeWords_78, q_X9_writeWords_81, q_X9_writeWords_83, q_X9_writeWords_84, q_X9_writeWords_87, q_X9_writeWords_88, q_X9_writeWords_89, q_X9_writeWords_90, q_X9_writeWords_93, q_X9_writeWords_96, q_X9_writeWords_99, q_X9_writeWords_102, nI_add, pI_le, pI_lt, pI_eq, pI_neg, pI_nn, pI_le0, pI_gt0, pI_eq0, xbV_s, xbU_s, if_true, if_false, bI_eq0, Nat.reduceAdd, Nat.reduceSub, Nat.reduceEqDiff, Nat.reduceLeDiff, Nat.reduceLT, Bool.true_eq_false, Bool.false_eq_true, n1, k9, k91, l91, r9_4, hv, hword, e0, s9_width, g1]
    exact f1
theorem s9_wrn_l {I : xMem} (hn : n ≤ 12) (ha : a + n ≤ 142) : ∀ f i s (o : wO) (I1 : xMem), i + 1 + f = n → s ≤ i → w i = w s → o.2 + 14 * (f + 1) ≤ 200 → mBf I I1 → mW I1 191 a n w → mB I1 o → ∃ I', xgo k_X9_writeRuns 12 [some (.ref 189), some (.int (nI a)), some (.int (nI n)), some (.int (nI (a + s))), some (.int (nI (i + 1 - s)))] [] I1 = some (.inl none, I') ∧ mBf I I' ∧ mB I' (oR w n (f + 1) i s o) := by
  have k9 := x189
  have k91 := x191
  have l91 := l191
  intro f
  induction f with
  | zero =>
    intro i s o I1 hi hs hws hb hG hP h
    have e1 : a + s + (i + 1 - s) = a + (i + 1) := by omega
    have n1 : a + n ≤ a + (i + 1) := by omega
    have hv := hP.2.2.2.1 s (by omega)
    rw [← hws] at hv
    obtain ⟨I2, g1, g2, g3⟩ := s9_wr (x := nI (w i)) (k := 10) (by omega) (by omega) h
    obtain ⟨I3, j1, j2, j3⟩ := s9_wr (x := nI (i + 1 - s)) (k := 4) (by rw [oW_n]; omega) (by omega) g3
    rw [oR_s, if_pos (Or.inl (by omega))]
    refine ⟨I3, ?_, hG.tr (g2.tr j2), j3⟩
    rw [q_X9_writeRuns_12]
    simp (disch := omega) only [q_X9_writeRuns_0, q_X9_writeRuns_1, q_X9_writeRuns_3, q_X9_writeRuns_4, q_X9_writeRuns_5, q_X9_writeRuns_6, q_X9_writeRuns_9, q_X9_writeRuns_10, q_X9_writeRuns_13, q_X9_writeRuns_15, q_X9_writeRuns_16, q_X9_writeRuns_17, q_X9_writeRuns_18, q_X9_writeRuns_19, q_X9_writeRuns_22, q_X9_writeRuns_23, q_X9_writeRuns_26, q_X9_writeRuns_27, q_X9_writeRuns_29, q_X9_writeRuns_30, q_X9_writeRuns_31, q_X9_writeRuns_32, q_X9_writeRuns_35, q_X9_writeRuns_36, q_X9_writeRuns_37, q_X9_writeRuns_40, q_X9_writeRuns_43, q_X9_writeRuns_46, q_X9_writeRuns_47, q_X9_writeRuns_48, q_X9_writeRuns_51, q_X9_writeRuns_52, q_X9_writeRuns_53, q_X9_writeRuns_55, q_X9_writeRuns_58, q_X9_writeRuns_59, q_X9_writeRuns_61, q_X9_writeRuns_62, q_X9_writeRuns_65, q_X9_writeRuns_66, q_X9_writeRuns_68, q_X9_writeRuns_69, q_X9_writeRuns_70, q_X9_writeRuns_73, nI_add, pI_le, pI_lt, pI_eq, pI_neg, pI_nn, pI_le0, pI_gt0, pI_eq0, xbV_s, xbU_s, if_true, if_false, bI_eq0, Nat.reduceAdd, Nat.reduceSub, Nat.reduceEqDiff, Nat.reduceLeDiff, Nat.reduceLT, Bool.true_eq_false, Bool.false_eq_true, e1, n1, k9, k91, l91, r9_4, hv, g1, j1]
    rw [q_X9_writeRuns_2]
    simp (disch := omega) only [q_X9_writeRuns_0, q_X9_writeRuns_1, q_X9_writeRuns_3, q_X9_writeRuns_4, q_X9_writeRuns_5, q_X9_writeRuns_6, q_X9_writeRuns_9, q_X9_writeRuns_10, q_X9_writeRuns_13, q_X9_writeRuns_15, q_X9_writeRuns_16, q_X9_writeRuns_17, q_X9_writeRuns_18, q_X9_writeRuns_19, q_X9_writeRuns_22, q_X9_writeRuns_23, q_X9_writeRuns_26, q_X9_writeRuns_27, q_X9_writeRuns_29, q_X9_writeRuns_30, q_X9_writeRuns_31, q_X9_writeRuns_32, q_X9_writeRuns_35, q_X9_writeRuns_36, q_X9_writeRuns_37, q_X9_writeRuns_40, q_X9_writeRuns_43, q_X9_writeRuns_46, q_X9_writeRuns_47, q_X9_writeRuns_48, q_X9_writeRuns_51, q_X9_writeRuns_52, q_X9_writeRuns_53, q_X9_writeRuns_55, q_X9_writeRuns_58, q_X9_writeRuns_59, q_X9_writeRuns_61, q_X9_writeRuns_62, q_X9_writeRuns_65, q_X9_writeRuns_66, q_X9_writeRuns_68, q_X9_writeRuns_69, q_X9_writeRuns_70, q_X9_writeRuns_73, nI_add, pI_le, pI_lt, pI_eq, pI_neg, pI_nn, pI_le0, pI_gt0, pI_eq0, xbV_s, xbU_s, if_true, if_false, bI_eq0, Nat.reduceAdd, Nat.reduceSub, Nat.reduceEqDiff, Nat.reduceLeDiff, Nat.reduceLT, Bool.true_eq_false, Bool.false_eq_true, n1]
  | succ f ih =>
    intro i s o I1 hi hs hws hb hG hP h
    have e1 : a + s + (i + 1 - s) = a + (i + 1) := by omega
    have e2 : i + 1 - s + 1 = i + 1 + 1 - s := by omega
    have n1 : ¬ a + n ≤ a + (i + 1) := by omega
    have hv := hP.2.2.2.1 s (by omega)
    rw [← hws] at hv
    have hv2 := hP.2.2.2.1 (i + 1) (by omega)
    have bi := hP.2.2.2.2 i (by omega)
    have bi2 := hP.2.2.2.2 (i + 1) (by omega)
    rw [oR_s]
    by_cases q : w (i + 1) = w i
    · rw [if_neg (by omega)]
      obtain ⟨I', f1, f2, f3⟩ := ih (i + 1) s o I1 (by omega) (by omega) (q.trans hws) (by omega) hG hP h
      refine ⟨I', ?_, f2, f3⟩
      rw [q_X9_writeRuns_12]
      simp (disch := omega) only [q_X9_writeRuns_13, q_X9_writeRuns_15, q_X9_writeRuns_16, q_X9_writeRuns_17, q_X9_writeRuns_18, q_X9_writeRuns_19, q_X9_writeRuns_22, q_X9_writeRuns_23, q_X9_writeRuns_26, q_X9_writeRuns_27, q_X9_writeRuns_29, q_X9_writeRuns_30, q_X9_writeRuns_31, q_X9_writeRuns_32, q_X9_writeRuns_35, q_X9_writeRuns_36, q_X9_writeRuns_37, q_X9_writeRuns_40, q_X9_writeRuns_43, nI_add, pI_le, pI_lt, pI_eq, pI_neg, pI_nn, pI_le0, pI_gt0, pI_eq0, xbV_s, xbU_s, if_true, if_false, bI_eq0, Nat.reduceAdd, Nat.reduceSub, Nat.reduceEqDiff, Nat.reduceLeDiff, Nat.reduceLT, Bool.true_eq_false, Bool.false_eq_true, e1, n1, k9, k91, l91, r9_4, hv, hv2, q, e2]
      exact f1
    · rw [if_pos (Or.inr q)]
      obtain ⟨I2, g1, g2, g3⟩ := s9_wr (x := nI (w i)) (k := 10) (by omega) (by omega) h
      obtain ⟨I3, j1, j2, j3⟩ := s9_wr (x := nI (i + 1 - s)) (k := 4) (by rw [oW_n]; omega) (by omega) g3
      obtain ⟨I', f1, f2, f3⟩ := ih (i + 1) (i + 1) (oW (nI (i + 1 - s)) 4 (oW (nI (w i)) 10 o)) I3 (by omega) (Nat.le_refl _) rfl (by rw [oW_n, oW_n]; omega) (hG.tr (g2.tr j2)) (j2.mw (g2.mw hP)) j3
      refine ⟨I', ?_, f2, f3⟩
      have e3 : i + 1 + 1 - (i + 1) = 1 := by omega
      rw [e3] at f1
      rw [q_X9_writeRuns_12]
      simp (disch := omega) only [q_X9_writeRuns_13, q_X9_writeRuns_15, q_X9_writeRuns_16, q_X9_writeRuns_17, q_X9_writeRuns_18, q_X9_writeRuns_19, q_X9_writeRuns_22, q_X9_writeRuns_23, q_X9_writeRuns_26, q_X9_writeRuns_27, q_X9_writeRuns_29, q_X9_writeRuns_30, q_X9_writeRuns_31, q_X9_writeRuns_32, q_X9_writeRuns_35, q_X9_writeRuns_36, q_X9_writeRuns_37, q_X9_writeRuns_40, q_X9_writeRuns_43, q_X9_writeRuns_46, q_X9_writeRuns_47, q_X9_writeRuns_48, q_X9_writeRuns_51, q_X9_writeRuns_52, q_X9_writeRuns_53, q_X9_writeRuns_55, q_X9_writeRuns_58, q_X9_writeRuns_59, q_X9_writeRuns_61, q_X9_writeRuns_62, q_X9_writeRuns_65, q_X9_writeRuns_66, q_X9_writeRuns_68, q_X9_writeRuns_69, q_X9_writeRuns_70, nI_add, pI_le, pI_lt, pI_eq, pI_neg, pI_nn, pI_le0, pI_gt0, pI_eq0, xbV_s, xbU_s, if_true, if_false, bI_eq0, Nat.reduceAdd, Nat.reduceSub, Nat.reduceEqDiff, Nat.reduceLeDiff, Nat.reduceLT, Bool.true_eq_false, Bool.false_eq_true, e1, n1, k9, k91, l91, r9_4, hv, hv2, q, g1, j1]
      rw [q_X9_writeRuns_2]
      simp (disch := omega) only [q_X9_writeRuns_3, q_X9_writeRuns_4, q_X9_writeRuns_5, q_X9_writeRuns_6, q_X9_writeRuns_9, q_X9_writeRuns_10, nI_add, pI_le, pI_lt, pI_eq, pI_neg, pI_nn, pI_le0, pI_gt0, pI_eq0, xbV_s, xbU_s, if_true, if_false, bI_eq0, Nat.reduceAdd, Nat.reduceSub, Nat.reduceEqDiff, Nat.reduceLeDiff, Nat.reduceLT, Bool.true_eq_false, Bool.false_eq_true, n1]
      exact f1
theorem s9_wwd {o : wO} {I : xMem} (hn : n ≤ 12) (h1 : 1 ≤ n) (ha : a + n ≤ 142) (hb : o.2 = 7) (hP : mW I 191 a n w) (h : mB I o) : ∃ I', f_X9_writeWords [.ref 189, .int (nI a), .int (nI n)] I = some (.inl none, I') ∧ mBf I I' ∧ mB I' (oL (fun k => nI (pWord w (w k) n)) (pWd (pDiff w n - 1)) n (oD w n (oW (nI (pDiff w n)) 4 o))) := by
  have hd := pDiff_le w n
  have k9 := x189
  obtain ⟨I1, f1, f2, f3⟩ := s9_wr (x := nI (pDiff w n)) (k := 4) (by omega) (by omega) h
  obtain ⟨I2, g1, g2, g3, g4⟩ := s9_wwd_a (o := oW (nI (pDiff w n)) 4 o) (I := I1) (x3 := nI (pDiff w n)) hn ha (by rw [oW_n]; omega) n 0 I1 (by omega) mBf.rf (f2.mw hP) f3
  obtain ⟨I3, j1, j2, j3⟩ := s9_wwd_b (o := oD w n (oW (nI (pDiff w n)) 4 o)) (I := I2) hn h1 ha (by rw [oD_n, oW_n]; omega) n 0 I2 (by omega) mBf.rf g3 g4
  refine ⟨I3, ?_, f2.tr (g2.tr j2), j3⟩
  rw [e_X9_writeWords]
  simp (disch := omega) only [q_X9_writeWords_0, q_X9_writeWords_1, q_X9_writeWords_4, q_X9_writeWords_5, q_X9_writeWords_6, q_X9_writeWords_9, q_X9_writeWords_10, q_X9_writeWords_11, q_X9_writeWords_12, q_X9_writeWords_13, q_X9_writeWords_16, q_X9_writeWords_17, nI_add, pI_le, pI_lt, pI_eq, pI_neg, pI_nn, pI_le0, pI_gt0, pI_eq0, xbV_s, xbU_s, if_true, if_false, bI_eq0, Nat.reduceAdd, Nat.reduceSub, Nat.reduceEqDiff, Nat.reduceLeDiff, Nat.reduceLT, Bool.true_eq_false, Bool.false_eq_true, k9, r9_4, s9_diff hP, f1]
  exact g1.trans j1
theorem s9_wrn {o : wO} {I : xMem} (hn : n ≤ 12) (h1 : 1 ≤ n) (ha : a + n ≤ 142) (hb : o.2 = 7) (hP : mW I 191 a n w) (h : mB I o) : ∃ I', f_X9_writeRuns [.ref 189, .int (nI a), .int (nI n)] I = some (.inl none, I') ∧ mBf I I' ∧ mB I' (oR w n n 0 0 o) := by
  obtain ⟨I1, f1, f2, f3⟩ := s9_wrn_l (I := I) hn ha (n - 1) 0 0 o I (by omega) (Nat.le_refl _) rfl (by omega) mBf.rf hP h
  have e : n - 1 + 1 = n := by omega
  rw [e] at f3
  have n1 : ¬ a + n ≤ a := by omega
  refine ⟨I1, ?_, f2, f3⟩
  rw [e_X9_writeRuns]
  simp (disch := omega) only [q_X9_writeRuns_0, q_X9_writeRuns_1, nI_add, pI_le, pI_lt, pI_eq, pI_neg, pI_nn, pI_le0, pI_gt0, pI_eq0, xbV_s, xbU_s, if_true, if_false, bI_eq0, Nat.reduceAdd, Nat.reduceSub, Nat.reduceEqDiff, Nat.reduceLeDiff, Nat.reduceLT, Bool.true_eq_false, Bool.false_eq_true]
  rw [q_X9_writeRuns_2]
  simp (disch := omega) only [q_X9_writeRuns_3, q_X9_writeRuns_4, q_X9_writeRuns_5, q_X9_writeRuns_6, q_X9_writeRuns_9, q_X9_writeRuns_10, nI_add, pI_le, pI_lt, pI_eq, pI_neg, pI_nn, pI_le0, pI_gt0, pI_eq0, xbV_s, xbU_s, if_true, if_false, bI_eq0, Nat.reduceAdd, Nat.reduceSub, Nat.reduceEqDiff, Nat.reduceLeDiff, Nat.reduceLT, Bool.true_eq_false, Bool.false_eq_true, n1]
  exact f1
end PX2
theorem s9_page {S : cS} {p : Nat} {I : xMem} (hR : mR I 191 S) (hW : sWF S) (hp : p < sq S) : ∃ I', f_X9_writePage [.ref 189, .int (nI p)] I = some (.inl none, I') ∧ mBf I I' ∧ mB I' (pOut (sw S p) (sl S p) (sC S p)) := by
  have k9 := x189
  have k91 := x191
  have l91 := l191
  have hq := hW.1
  have hl := hW.2.2.1 p hp
  have hc4 := sC_le hW hp
  have hF := sF_in hW hp
  have hn := sn_120 hW
  have ha : 22 + sF S p + sl S p ≤ 142 := by omega
  have hB2 : mB (xup I 189 12 (nI 0)) (fun _ => 0, 0) := ⟨xup_s, fun j hj => absurd hj (Nat.not_lt_zero _)⟩
  have hG2 : mBf I (xup I 189 12 (nI 0)) := ⟨fun c h1 h2 => by rw [xup_o h1], fun j h1 => by rw [xup_d h1]⟩
  have hR2 : mR (xup I 189 12 (nI 0)) 191 S := hR.cg (hG2.1 191 (by omega) (by omega))
  have hP2 := hR2.page hW hp
  have g := hR2.2.2.2.2.1 p hp
  obtain ⟨I3, f1, f2, f3⟩ := s9_wr (x := nI (sC S p)) (k := 3) (by show 0 + 3 ≤ 200; omega) (by omega) hB2
  obtain ⟨I4, j1, j2, j3⟩ := s9_wr (x := nI (sl S p)) (k := 4) (by rw [oW_n]; show 0 + 3 + 4 ≤ 200; omega) (by omega) f3
  have hP4 := j2.mw (f2.mw hP2)
  have hG4 : mBf I I4 := hG2.tr (f2.tr j2)
  have hl7 : (oW (nI (sl S p)) 4 (oW (nI (sC S p)) 3 (fun _ => 0, 0))).2 = 7 := by rw [oW_n, oW_n]
  have key : f_X9_writePage [.ref 189, .int (nI p)] I = xgo k_X9_writePage 49 [some (.ref 189), some (.int (nI p)), some (.int (nI (22 + sF S p))), some (.int (nI (sl S p))), some (.int (nI (sC S p))), none, none, none] [] I4 := by
    rw [e_X9_writePage]
    simp (disch := omega) only [q_X9_writePage_0, q_X9_writePage_1, q_X9_writePage_2, q_X9_writePage_5, q_X9_writePage_7, q_X9_writePage_8, q_X9_writePage_11, q_X9_writePage_12, q_X9_writePage_15, q_X9_writePage_16, q_X9_writePage_17, q_X9_writePage_18, q_X9_writePage_21, q_X9_writePage_22, q_X9_writePage_23, q_X9_writePage_24, q_X9_writePage_25, q_X9_writePage_26, q_X9_writePage_27, q_X9_writePage_30, q_X9_writePage_31, q_X9_writePage_34, q_X9_writePage_36, q_X9_writePage_37, q_X9_writePage_39, q_X9_writePage_40, q_X9_writePage_43, q_X9_writePage_44, q_X9_writePage_45, q_X9_writePage_46, nI_add, pI_le, pI_lt, pI_eq, pI_neg, pI_nn, pI_le0, pI_gt0, pI_eq0, xbV_s, xbU_s, if_true, if_false, bI_eq0, Nat.reduceAdd, Nat.reduceSub, Nat.reduceEqDiff, Nat.reduceLeDiff, Nat.reduceLT, Bool.true_eq_false, Bool.false_eq_true, k9, k91, l91, r9_4, s9_first hR2 hW (Nat.le_of_lt hp), s9_cod hR2 hW hp, g, f1, j1]
  rw [key]
  generalize sC S p = c at *
  generalize 22 + sF S p = a at *
  have b2 : pMx (sw S p) (sl S p) ≤ 1023 := pMx_le (sw_le hW hp)
  rcases (show c = 0 ∨ c = 1 ∨ c = 2 ∨ c = 3 ∨ c = 4 by omega) with rfl | rfl | rfl | rfl | rfl
  · obtain ⟨I5, m1, m2, m3⟩ := s9_wpl_l (o := oW (nI (sl S p)) 4 (oW (nI 0) 3 (fun _ => 0, 0))) (I := I4) (x1 := nI p) (x4 := nI 0) (l6 := none) (l7 := none) hl.2 ha (by omega) (sl S p) 0 I4 (by omega) mBf.rf hP4 j3
    refine ⟨I5, ?_, hG4.tr m2, m3⟩
    simp (disch := omega) only [q_X9_writePage_49, q_X9_writePage_51, q_X9_writePage_52, q_X9_writePage_55, q_X9_writePage_56, q_X9_writePage_57, q_X9_writePage_58, q_X9_writePage_61, q_X9_writePage_64, q_X9_writePage_66, q_X9_writePage_67, q_X9_writePage_70, q_X9_writePage_71, q_X9_writePage_72, q_X9_writePage_73, q_X9_writePage_76, q_X9_writePage_79, q_X9_writePage_81, q_X9_writePage_84, q_X9_writePage_85, nI_add, pI_le, pI_lt, pI_eq, pI_neg, pI_nn, pI_le0, pI_gt0, pI_eq0, xbV_s, xbU_s, if_true, if_false, bI_eq0, Nat.reduceAdd, Nat.reduceSub, Nat.reduceEqDiff, Nat.reduceLeDiff, Nat.reduceLT, Bool.true_eq_false, Bool.false_eq_true]
    exact m1
  · obtain ⟨I5, m1, m2, m3⟩ := s9_wwd hl.2 hl.1 ha hl7 hP4 j3
    refine ⟨I5, ?_, hG4.tr m2, m3⟩
    simp (disch := omega) only [q_X9_writePage_0, q_X9_writePage_1, q_X9_writePage_2, q_X9_writePage_5, q_X9_writePage_7, q_X9_writePage_8, q_X9_writePage_11, q_X9_writePage_12, q_X9_writePage_15, q_X9_writePage_16, q_X9_writePage_17, q_X9_writePage_18, q_X9_writePage_21, q_X9_writePage_22, q_X9_writePage_23, q_X9_writePage_24, q_X9_writePage_25, q_X9_writePage_26, q_X9_writePage_27, q_X9_writePage_30, q_X9_writePage_31, q_X9_writePage_34, q_X9_writePage_36, q_X9_writePage_37, q_X9_writePage_39, q_X9_writePage_40, q_X9_writePage_43, q_X9_writePage_44, q_X9_writePage_45, q_X9_writePage_46, q_X9_writePage_49, q_X9_writePage_51, q_X9_writePage_52, q_X9_writePage_55, q_X9_writePage_56, q_X9_writePage_57, q_X9_writePage_58, q_X9_writePage_61, q_X9_writePage_64, q_X9_writePage_66, q_X9_writePage_67, q_X9_writePage_70, q_X9_writePage_71, q_X9_writePage_72, q_X9_writePage_73, q_X9_writePage_76, q_X9_writePage_79, q_X9_writePage_81, q_X9_writePage_84, q_X9_writePage_85, q_X9_writePage_89, q_X9_writePage_90, q_X9_writePage_91, q_X9_writePage_92, q_X9_writePage_95, q_X9_writePage_96, q_X9_writePage_97, q_X9_writePage_100, q_X9_writePage_102, q_X9_writePage_103, q_X9_writePage_105, q_X9_writePage_108, q_X9_writePage_111, q_X9_writePage_114, q_X9_writePage_117, q_X9_writePage_119, q_X9_writePage_120, q_X9_writePage_123, q_X9_writePage_124, q_X9_writePage_127, q_X9_writePage_128, q_X9_writePage_129, q_X9_writePage_132, q_X9_writePage_134, q_X9_writePage_135, q_X9_writePage_138, q_X9_writePage_139, q_X9_writePage_140, q_X9_writePage_143, q_X9_writePage_145, q_X9_writePage_146, q_X9_writePage_149, q_X9_writePage_151, q_X9_writePage_152, q_X9_writePage_154, q_X9_writePage_156, q_X9_writePage_159, q_X9_writePage_160, q_X9_writePage_162, q_X9_writePage_163, q_X9_writePage_166, q_X9_writePage_167, q_X9_writePage_171, q_X9_writePage_172, q_X9_writePage_173, q_X9_writePage_174, q_X9_writePage_177, q_X9_writePage_178, q_X9_writePage_179, q_X9_writePage_182, q_X9_writePage_184, q_X9_writePage_185, q_X9_writePage_187, q_X9_writePage_188, q_X9_writePage_190, q_X9_writePage_193, q_X9_writePage_196, q_X9_writePage_199, q_X9_writePage_202, q_X9_writePage_203, q_X9_writePage_206, q_X9_writePage_207, q_X9_writePage_208, q_X9_writePage_211, q_X9_writePage_213, q_X9_writePage_214, q_X9_writePage_215, q_X9_writePage_218, q_X9_writePage_219, q_X9_writePage_220, q_X9_writePage_222, q_X9_writePage_225, q_X9_writePage_226, q_X9_writePage_228, q_X9_writePage_229, q_X9_writePage_232, q_X9_writePage_233, q_X9_writePage_234, q_X9_writePage_235, q_X9_writePage_239, q_X9_writePage_240, q_X9_writePage_241, q_X9_writePage_242, q_X9_writePage_245, q_X9_writePage_246, q_X9_writePage_247, q_X9_writePage_250, q_X9_writePage_252, q_X9_writePage_253, q_X9_writePage_254, q_X9_writePage_257, q_X9_writePage_259, q_X9_writePage_260, q_X9_writePage_261, q_X9_writePage_262, q_X9_writePage_263, q_X9_writePage_265, q_X9_writePage_268, q_X9_writePage_271, q_X9_writePage_274, nI_add, pI_le, pI_lt, pI_eq, pI_neg, pI_nn, pI_le0, pI_gt0, pI_eq0, xbV_s, xbU_s, if_true, if_false, bI_eq0, Nat.reduceAdd, Nat.reduceSub, Nat.reduceEqDiff, Nat.reduceLeDiff, Nat.reduceLT, Bool.true_eq_false, Bool.false_eq_true, k9, m1]
  · obtain ⟨I5, m1, m2, m3⟩ := s9_wrn hl.2 hl.1 ha hl7 hP4 j3
    refine ⟨I5, ?_, hG4.tr m2, m3⟩
    simp (disch := omega) only [q_X9_writePage_0, q_X9_writePage_1, q_X9_writePage_2, q_X9_writePage_5, q_X9_writePage_7, q_X9_writePage_8, q_X9_writePage_11, q_X9_writePage_12, q_X9_writePage_15, q_X9_writePage_16, q_X9_writePage_17, q_X9_writePage_18, q_X9_writePage_21, q_X9_writePage_22, q_X9_writePage_23, q_X9_writePage_24, q_X9_writePage_25, q_X9_writePage_26, q_X9_writePage_27, q_X9_writePage_30, q_X9_writePage_31, q_X9_writePage_34, q_X9_writePage_36, q_X9_writePage_37, q_X9_writePage_39, q_X9_writePage_40, q_X9_writePage_43, q_X9_writePage_44, q_X9_writePage_45, q_X9_writePage_46, q_X9_writePage_49, q_X9_writePage_51, q_X9_writePage_52, q_X9_writePage_55, q_X9_writePage_56, q_X9_writePage_57, q_X9_writePage_58, q_X9_writePage_61, q_X9_writePage_64, q_X9_writePage_66, q_X9_writePage_67, q_X9_writePage_70, q_X9_writePage_71, q_X9_writePage_72, q_X9_writePage_73, q_X9_writePage_76, q_X9_writePage_79, q_X9_writePage_81, q_X9_writePage_84, q_X9_writePage_85, q_X9_writePage_89, q_X9_writePage_90, q_X9_writePage_91, q_X9_writePage_92, q_X9_writePage_95, q_X9_writePage_96, q_X9_writePage_97, q_X9_writePage_100, q_X9_writePage_102, q_X9_writePage_103, q_X9_writePage_105, q_X9_writePage_108, q_X9_writePage_111, q_X9_writePage_114, q_X9_writePage_117, q_X9_writePage_119, q_X9_writePage_120, q_X9_writePage_123, q_X9_writePage_124, q_X9_writePage_127, q_X9_writePage_128, q_X9_writePage_129, q_X9_writePage_132, q_X9_writePage_134, q_X9_writePage_135, q_X9_writePage_138, q_X9_writePage_139, q_X9_writePage_140, q_X9_writePage_143, q_X9_writePage_145, q_X9_writePage_146, q_X9_writePage_149, q_X9_writePage_151, q_X9_writePage_152, q_X9_writePage_154, q_X9_writePage_156, q_X9_writePage_159, q_X9_writePage_160, q_X9_writePage_162, q_X9_writePage_163, q_X9_writePage_166, q_X9_writePage_167, q_X9_writePage_171, q_X9_writePage_172, q_X9_writePage_173, q_X9_writePage_174, q_X9_writePage_177, q_X9_writePage_178, q_X9_writePage_179, q_X9_writePage_182, q_X9_writePage_184, q_X9_writePage_185, q_X9_writePage_187, q_X9_writePage_188, q_X9_writePage_190, q_X9_writePage_193, q_X9_writePage_196, q_X9_writePage_199, q_X9_writePage_202, q_X9_writePage_203, q_X9_writePage_206, q_X9_writePage_207, q_X9_writePage_208, q_X9_writePage_211, q_X9_writePage_213, q_X9_writePage_214, q_X9_writePage_215, q_X9_writePage_218, q_X9_writePage_219, q_X9_writePage_220, q_X9_writePage_222, q_X9_writePage_225, q_X9_writePage_226, q_X9_writePage_228, q_X9_writePage_229, q_X9_writePage_232, q_X9_writePage_233, q_X9_writePage_234, q_X9_writePage_235, q_X9_writePage_239, q_X9_writePage_240, q_X9_writePage_241, q_X9_writePage_242, q_X9_writePage_245, q_X9_writePage_246, q_X9_writePage_247, q_X9_writePage_250, q_X9_writePage_252, q_X9_writePage_253, q_X9_writePage_254, q_X9_writePage_257, q_X9_writePage_259, q_X9_writePage_260, q_X9_writePage_261, q_X9_writePage_262, q_X9_writePage_263, q_X9_writePage_265, q_X9_writePage_268, q_X9_writePage_271, q_X9_writePage_274, nI_add, pI_le, pI_lt, pI_eq, pI_neg, pI_nn, pI_le0, pI_gt0, pI_eq0, xbV_s, xbU_s, if_true, if_false, bI_eq0, Nat.reduceAdd, Nat.reduceSub, Nat.reduceEqDiff, Nat.reduceLeDiff, Nat.reduceLT, Bool.true_eq_false, Bool.false_eq_true, k9, m1]
  · have hwd : pWd (pMx (sw S p) (sl S p) - pMn (sw S p) (sl S p)) ≤ 10 := pWd10 (by omega)
    have e0 : nI (pMx (sw S p) (sl S p)) - nI (pMn (sw S p) (sl S p)) = nI (pMx (sw S p) (sl S p) - pMn (sw S p) (sl S p)) := pI_sub (pMn_pMx _ (by omega))
    obtain ⟨I5, m1, m2, m3⟩ := s9_wr (x := nI (pMn (sw S p) (sl S p))) (k := 10) (by omega) (by omega) j3
    obtain ⟨I6, t1, t2, t3⟩ := s9_wr (x := nI (pWd (pMx (sw S p) (sl S p) - pMn (sw S p) (sl S p)))) (k := 4) (by rw [oW_n]; omega) (by omega) m3
    obtain ⟨I7, u1, u2, u3⟩ := s9_wsm_l (o := oW (nI (pWd (pMx (sw S p) (sl S p) - pMn (sw S p) (sl S p)))) 4 (oW (nI (pMn (sw S p) (sl S p))) 10 (oW (nI (sl S p)) 4 (oW (nI 3) 3 (fun _ => 0, 0))))) (I := I6) (x1 := nI p) (x4 := nI 3) (x5 := nI (pMn (sw S p) (sl S p))) hwd hl.2 ha (by rw [oW_n, oW_n]; omega) (sl S p) 0 I6 (by omega) mBf.rf (t2.mw (m2.mw hP4)) t3
    refine ⟨I7, ?_, hG4.tr (m2.tr (t2.tr u2)), u3⟩
    simp (disch := omega) only [q_X9_writePage_49, q_X9_writePage_51, q_X9_writePage_52, q_X9_writePage_55, q_X9_writePage_56, q_X9_writePage_57, q_X9_writePage_58, q_X9_writePage_61, q_X9_writePage_64, q_X9_writePage_66, q_X9_writePage_67, q_X9_writePage_70, q_X9_writePage_71, q_X9_writePage_72, q_X9_writePage_73, q_X9_writePage_76, q_X9_writePage_79, q_X9_writePage_81, q_X9_writePage_84, q_X9_writePage_85, q_X9_writePage_89, q_X9_writePage_90, q_X9_writePage_91, q_X9_writePage_92, q_X9_writePage_95, q_X9_writePage_96, q_X9_writePage_97, q_X9_writePage_100, q_X9_writePage_102, q_X9_writePage_103, q_X9_writePage_105, q_X9_writePage_108, q_X9_writePage_111, q_X9_writePage_114, q_X9_writePage_117, q_X9_writePage_119, q_X9_writePage_120, q_X9_writePage_123, q_X9_writePage_124, q_X9_writePage_127, q_X9_writePage_128, q_X9_writePage_129, q_X9_writePage_132, q_X9_writePage_134, q_X9_writePage_135, q_X9_writePage_138, q_X9_writePage_139, q_X9_writePage_140, q_X9_writePage_143, q_X9_writePage_145, q_X9_writePage_146, q_X9_writePage_149, q_X9_writePage_151, q_X9_writePage_152, q_X9_writePage_154, q_X9_writePage_156, q_X9_writePage_159, q_X9_writePage_160, q_X9_writePage_162, q_X9_writePage_163, q_X9_writePage_166, q_X9_writePage_167, nI_add, pI_le, pI_lt, pI_eq, pI_neg, pI_nn, pI_le0, pI_gt0, pI_eq0, xbV_s, xbU_s, if_true, if_false, bI_eq0, Nat.reduceAdd, Nat.reduceSub, Nat.reduceEqDiff, Nat.reduceLeDiff, Nat.reduceLT, Bool.true_eq_false, Bool.false_eq_true, k9, r9_4, s9_smallest hP4, s9_greatest hP4, e0, s9_width, m1, t1]
    exact u1
  · have hwd : pStep (sw S p) (sl S p) ≤ 11 := pStep_le (sw_le hW hp)
    have g0 := hP4.2.2.2.1 0 (by omega)
    have g0 : I4 191 a = nI (sw S p 0) := g0
    obtain ⟨I5, m1, m2, m3⟩ := s9_wr (x := nI (sw S p 0)) (k := 10) (by omega) (by omega) j3
    obtain ⟨I6, t1, t2, t3⟩ := s9_wr (x := nI (pStep (sw S p) (sl S p))) (k := 4) (by rw [oW_n]; omega) (by omega) m3
    obtain ⟨I7, u1, u2, u3⟩ := s9_wst_l (o := oW (nI (pStep (sw S p) (sl S p))) 4 (oW (nI (sw S p 0)) 10 (oW (nI (sl S p)) 4 (oW (nI 4) 3 (fun _ => 0, 0))))) (I := I6) (x1 := nI p) (x4 := nI 4) (l7 := none) hwd hl.2 hl.1 ha (by rw [oW_n, oW_n]; omega) (sl S p - 1) 0 I6 (by omega) mBf.rf (t2.mw (m2.mw hP4)) t3
    refine ⟨I7, ?_, hG4.tr (m2.tr (t2.tr u2)), u3⟩
    simp (disch := omega) only [q_X9_writePage_49, q_X9_writePage_51, q_X9_writePage_52, q_X9_writePage_55, q_X9_writePage_56, q_X9_writePage_57, q_X9_writePage_58, q_X9_writePage_61, q_X9_writePage_64, q_X9_writePage_66, q_X9_writePage_67, q_X9_writePage_70, q_X9_writePage_71, q_X9_writePage_72, q_X9_writePage_73, q_X9_writePage_76, q_X9_writePage_79, q_X9_writePage_81, q_X9_writePage_117, q_X9_writePage_119, q_X9_writePage_120, q_X9_writePage_202, q_X9_writePage_203, q_X9_writePage_206, q_X9_writePage_207, q_X9_writePage_208, q_X9_writePage_211, q_X9_writePage_213, q_X9_writePage_214, q_X9_writePage_215, q_X9_writePage_218, q_X9_writePage_219, q_X9_writePage_220, q_X9_writePage_222, q_X9_writePage_225, q_X9_writePage_226, q_X9_writePage_228, q_X9_writePage_229, q_X9_writePage_232, q_X9_writePage_233, q_X9_writePage_234, q_X9_writePage_235, nI_add, pI_le, pI_lt, pI_eq, pI_neg, pI_nn, pI_le0, pI_gt0, pI_eq0, xbV_s, xbU_s, if_true, if_false, bI_eq0, Nat.reduceAdd, Nat.reduceSub, Nat.reduceEqDiff, Nat.reduceLeDiff, Nat.reduceLT, Bool.true_eq_false, Bool.false_eq_true, k9, k91, l91, r9_4, s9_step hP4, g0, m1, t1]
    exact u1
end P52
