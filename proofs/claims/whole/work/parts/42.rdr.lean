/-! ===== pages in the text: runs ===== -/
section P42
section PT
variable {t : Nat → Nat} {L : Nat}
theorem rr_E {n e : Nat} (hn : n ≤ 12) (he : e ≤ 200) : ∀ d k (x : Int32) (I : xMem), k + d = n → I 163 4 = nI n → I 163 6 = nI e → ∃ I', xgo k_X3_readRuns 6 [some (.ref 163), some (.int x), some (.int (nI k)), some (.int (nI k))] [] I = some (.inl none, I') ∧ tGw I I' ∧ I' 163 6 = nI e := by
  have k3 := x163
  have kr := w166.1
  intro d
  induction d with
  | zero =>
    intro k x I hk h4 h6
    have e1 : k = n := by omega
    refine ⟨I, ?_, tGw.rf, h6⟩
    rw [e1, q_X3_readRuns_6]
    simp (disch := omega) only [q_X3_readRuns_0, q_X3_readRuns_1, q_X3_readRuns_2, q_X3_readRuns_3, q_X3_readRuns_4, q_X3_readRuns_5, q_X3_readRuns_7, q_X3_readRuns_8, q_X3_readRuns_11, q_X3_readRuns_14, q_X3_readRuns_15, q_X3_readRuns_16, q_X3_readRuns_19, q_X3_readRuns_20, q_X3_readRuns_23, q_X3_readRuns_24, q_X3_readRuns_25, q_X3_readRuns_26, q_X3_readRuns_27, q_X3_readRuns_28, q_X3_readRuns_29, q_X3_readRuns_32, q_X3_readRuns_33, q_X3_readRuns_34, q_X3_readRuns_37, q_X3_readRuns_38, q_X3_readRuns_39, q_X3_readRuns_40, q_X3_readRuns_43, q_X3_readRuns_44, q_X3_readRuns_45, q_X3_readRuns_48, q_X3_readRuns_51, q_X3_readRuns_54, nI_add, pI_le, pI_lt, pI_eq, pI_neg, pI_nn, pI_le0, pI_gt0, pI_eq0, xbV_s, xbU_s, if_true, if_false, bI_eq0, Nat.reduceAdd, Nat.reduceSub, Nat.reduceEqDiff, Nat.reduceLeDiff, Nat.reduceLT, Bool.true_eq_false, Bool.false_eq_true, k3, h4, Nat.le_refl]
  | succ d ih =>
    intro k x I hk h4 h6
    have n1 : ¬ n ≤ k := by omega
    have e1 : nI n - nI k = nI (n - k) := pI_sub (by omega)
    obtain ⟨I', f1, f2, f3⟩ := ih (k + 1) (nI 0) (xup I 167 k (nI 0)) (by omega) (by rw [xup_o (by omega)]; exact h4) (by rw [xup_o (by omega)]; exact h6)
    refine ⟨I', ?_, (tGw.rf.up (Or.inl rfl)).tr f2, f3⟩
    rw [q_X3_readRuns_6]
    simp (disch := omega) only [q_X3_readRuns_0, q_X3_readRuns_1, q_X3_readRuns_2, q_X3_readRuns_3, q_X3_readRuns_4, q_X3_readRuns_5, q_X3_readRuns_7, q_X3_readRuns_8, q_X3_readRuns_11, q_X3_readRuns_14, q_X3_readRuns_15, q_X3_readRuns_16, q_X3_readRuns_19, q_X3_readRuns_20, q_X3_readRuns_23, q_X3_readRuns_24, q_X3_readRuns_25, q_X3_readRuns_26, q_X3_readRuns_27, q_X3_readRuns_28, q_X3_readRuns_29, q_X3_readRuns_32, q_X3_readRuns_33, q_X3_readRuns_34, q_X3_readRuns_37, q_X3_readRuns_38, q_X3_readRuns_39, q_X3_readRuns_40, q_X3_readRuns_43, q_X3_readRuns_44, q_X3_readRuns_45, q_X3_readRuns_48, q_X3_readRuns_51, q_X3_readRuns_54, nI_add, pI_le, pI_lt, pI_eq, pI_neg, pI_nn, pI_le0, pI_gt0, pI_eq0, xbV_s, xbU_s, if_true, if_false, bI_eq0, Nat.reduceAdd, Nat.reduceSub, Nat.reduceEqDiff, Nat.reduceLeDiff, Nat.reduceLT, Bool.true_eq_false, Bool.false_eq_true, k3, kr, r163_1, h4, n1, e1, s3_valE h6 he, s3_numE (wd := 4) (lo := 1) (hi := n - k) (by omega) h6 he, s_set w166]
    exact f1
theorem rr_fc {n v re : Nat} (hn : n ≤ 12) (hre : re ≤ n) : ∀ d i (I : xMem), i + 1 + d = re → I 163 4 = nI n → ∃ I', xgo k_X3_readRuns 39 [some (.ref 163), some (.int (nI v)), some (.int (nI re)), some (.int (nI i))] [] I = xgo k_X3_readRuns 6 [some (.ref 163), some (.int (nI v)), some (.int (nI re)), some (.int (nI re))] [] I' ∧ (∀ c, c ≠ 167 → I' c = I c) ∧ ∀ j, I' 167 j = if i ≤ j ∧ j < re then nI v else I 167 j := by
  have k3 := x163
  have kr := w166.1
  intro d
  induction d with
  | zero =>
    intro i I hi h4
    have e1 : i + 1 = re := by omega
    refine ⟨xup I 167 i (nI v), ?_, fun c hc => xup_o hc, fun j => ?_⟩
    · simp (disch := omega) only [q_X3_readRuns_39, q_X3_readRuns_40, q_X3_readRuns_43, q_X3_readRuns_44, q_X3_readRuns_45, q_X3_readRuns_48, q_X3_readRuns_51, nI_add, pI_le, pI_lt, pI_eq, pI_neg, pI_nn, pI_le0, pI_gt0, pI_eq0, xbV_s, xbU_s, if_true, if_false, bI_eq0, Nat.reduceAdd, Nat.reduceSub, Nat.reduceEqDiff, Nat.reduceLeDiff, Nat.reduceLT, Bool.true_eq_false, Bool.false_eq_true, k3, kr, r163_1, s_set w166, e1]
    · by_cases q : j = i
      · subst q; rw [xup_s, if_pos (by omega)]
      · rw [xup_d q, if_neg (by omega)]
  | succ d ih =>
    intro i I hi h4
    have n1 : ¬ n ≤ i + 1 := by omega
    have n2 : ¬ i + 1 = re := by omega
    obtain ⟨I', f1, f2, f3⟩ := ih (i + 1) (xup I 167 i (nI v)) (by omega) (by rw [xup_o (by omega)]; exact h4)
    refine ⟨I', ?_, fun c hc => by rw [f2 c hc, xup_o hc], fun j => ?_⟩
    · simp (disch := omega) only [q_X3_readRuns_39, q_X3_readRuns_40, q_X3_readRuns_43, q_X3_readRuns_44, q_X3_readRuns_45, q_X3_readRuns_48, q_X3_readRuns_51, nI_add, pI_le, pI_lt, pI_eq, pI_neg, pI_nn, pI_le0, pI_gt0, pI_eq0, xbV_s, xbU_s, if_true, if_false, bI_eq0, Nat.reduceAdd, Nat.reduceSub, Nat.reduceEqDiff, Nat.reduceLeDiff, Nat.reduceLT, Bool.true_eq_false, Bool.false_eq_true, k3, kr, r163_1, s_set w166]
      rw [q_X3_readRuns_6]
      simp (disch := omega) only [q_X3_readRuns_7, q_X3_readRuns_8, q_X3_readRuns_11, q_X3_readRuns_14, q_X3_readRuns_15, q_X3_readRuns_16, nI_add, pI_le, pI_lt, pI_eq, pI_neg, pI_nn, pI_le0, pI_gt0, pI_eq0, xbV_s, xbU_s, if_true, if_false, bI_eq0, Nat.reduceAdd, Nat.reduceSub, Nat.reduceEqDiff, Nat.reduceLeDiff, Nat.reduceLT, Bool.true_eq_false, Bool.false_eq_true, k3, xup_o, h4, n1, n2]
      exact f1
    · rw [f3 j]
      by_cases q : j = i
      · subst q; rw [if_neg (by omega), xup_s, if_pos (by omega)]
      · rw [xup_d q]
        by_cases q2 : i + 1 ≤ j ∧ j < re
        · rw [if_pos q2, if_pos (by omega)]
        · rw [if_neg q2, if_neg (by omega)]
theorem rr_fm {n v len k : Nat} (hlen : k + len ≤ 12) (hn : n ≤ 12) : ∀ d i (I : xMem), i + d = len → ∃ I' l, xgo k_X9_readRuns 55 [some (.ref 189), some (.int (nI n)), some (.int (nI (k + i))), some (.int (nI v)), some (.int (nI len)), some (.int (nI i))] [] I = xgo k_X9_readRuns 2 ([some (.ref 189), some (.int (nI n)), some (.int (nI (k + len)))] ++ l) [] I' ∧ l.length = 3 ∧ (∀ c, c ≠ 198 → I' c = I c) ∧ ∀ j, I' 198 j = if k + i ≤ j ∧ j < k + len then nI v else I 198 j := by
  have k9 := x189
  have k98 := x198
  have l98 := l198
  intro d
  induction d with
  | zero =>
    intro i I hi
    have e1 : i = len := by omega
    refine ⟨I, [some (.int (nI v)), some (.int (nI len)), some (.int (nI len))], ?_, rfl, fun c _ => rfl, fun j => by rw [if_neg (by omega)]⟩
    rw [e1, q_X9_readRuns_55]
    simp (disch := omega) only [q_X9_readRuns_57, q_X9_readRuns_59, q_X9_readRuns_62, q_X9_readRuns_63, q_X9_readRuns_66, q_X9_readRuns_67, q_X9_readRuns_68, q_X9_readRuns_69, q_X9_readRuns_72, q_X9_readRuns_75, q_X9_readRuns_78, nI_add, pI_le, pI_lt, pI_eq, pI_neg, pI_nn, pI_le0, pI_gt0, pI_eq0, xbV_s, xbU_s, if_true, if_false, bI_eq0, Nat.reduceAdd, Nat.reduceSub, Nat.reduceEqDiff, Nat.reduceLeDiff, Nat.reduceLT, Bool.true_eq_false, Bool.false_eq_true, Nat.le_refl]
    rfl
  | succ d ih =>
    intro i I hi
    have n1 : ¬ len ≤ i := by omega
    obtain ⟨I', l, f1, fl, f2, f3⟩ := ih (i + 1) (xup I 198 (k + i) (nI v)) (by omega)
    refine ⟨I', l, ?_, fl, fun c hc => by rw [f2 c hc, xup_o hc], fun j => ?_⟩
    · rw [q_X9_readRuns_55]
      simp (disch := omega) only [q_X9_readRuns_57, q_X9_readRuns_59, q_X9_readRuns_62, q_X9_readRuns_63, q_X9_readRuns_66, q_X9_readRuns_67, q_X9_readRuns_68, q_X9_readRuns_69, q_X9_readRuns_72, q_X9_readRuns_75, q_X9_readRuns_78, nI_add, pI_le, pI_lt, pI_eq, pI_neg, pI_nn, pI_le0, pI_gt0, pI_eq0, xbV_s, xbU_s, if_true, if_false, bI_eq0, Nat.reduceAdd, Nat.reduceSub, Nat.reduceEqDiff, Nat.reduceLeDiff, Nat.reduceLT, Bool.true_eq_false, Bool.false_eq_true, n1, k9, k98, l98, r9_13]
      exact f1
    · rw [f3 j]
      by_cases q : j = k + i
      · subst q; rw [if_neg (by omega), xup_s, if_pos (by omega)]
      · rw [xup_d q]
        by_cases q2 : k + (i + 1) ≤ j ∧ j < k + len
        · rw [if_pos q2, if_pos (by omega)]
        · rw [if_neg q2, if_neg (by omega)]
theorem rr_l (hL : L ≤ 160) (ht : ∀ j, j < L → t j ≤ 255) {n : Nat} (hn : n ≤ 12) : ∀ d k p (w : Nat → Nat), n - k ≤ d → k ≤ n → p ≤ L → (∀ j, j < k → w j ≤ 1023) → ∃ r : rO, (∀ I (x : Int32), cG I t L n p → (∀ j, j < k → I 167 j = nI (w j)) → ∃ I', xgo k_X3_readRuns 6 [some (.ref 163), some (.int x), some (.int (nI k)), some (.int (nI k))] [] I = some (.inl none, I') ∧ cOut I I' L n r) ∧ (∀ I (l3 l4 l5 : Option Value), mG I t L p → (∀ j, j < k → I 198 j = nI (w j)) → ∃ I', xgo k_X9_readRuns 2 [some (.ref 189), some (.int (nI n)), some (.int (nI k)), l3, l4, l5] [] I = some (.inl (some (.int (bI (rOk r)))), I') ∧ mOut I I' n r) := by
  have k3 := x163
  have kr := w166.1
  have k9 := x189
  intro d
  induction d with
  | zero =>
    intro k p w hk hkn hp hw
    have e1 : k = n := by omega
    refine ⟨.inr (p, w), fun I x h hv => ⟨I, ?_, tGw.rf, h.2.2.2, h.2.2.1, hp, fun j hj => ⟨hv j (by omega), hw j (by omega)⟩⟩, fun I l3 l4 l5 h hv => ⟨I, ?_, mGw.rf, h.2, fun j hj => hv j (by omega)⟩⟩
    · have h4 := h.2.1
      rw [e1, q_X3_readRuns_6]
      simp (disch := omega) only [q_X3_readRuns_0, q_X3_readRuns_1, q_X3_readRuns_2, q_X3_readRuns_3, q_X3_readRuns_4, q_X3_readRuns_5, q_X3_readRuns_7, q_X3_readRuns_8, q_X3_readRuns_11, q_X3_readRuns_14, q_X3_readRuns_15, q_X3_readRuns_16, q_X3_readRuns_19, q_X3_readRuns_20, q_X3_readRuns_23, q_X3_readRuns_24, q_X3_readRuns_25, q_X3_readRuns_26, q_X3_readRuns_27, q_X3_readRuns_28, q_X3_readRuns_29, q_X3_readRuns_32, q_X3_readRuns_33, q_X3_readRuns_34, q_X3_readRuns_37, q_X3_readRuns_38, q_X3_readRuns_39, q_X3_readRuns_40, q_X3_readRuns_43, q_X3_readRuns_44, q_X3_readRuns_45, q_X3_readRuns_48, q_X3_readRuns_51, q_X3_readRuns_54, nI_add, pI_le, pI_lt, pI_eq, pI_neg, pI_nn, pI_le0, pI_gt0, pI_eq0, xbV_s, xbU_s, if_true, if_false, bI_eq0, Nat.reduceAdd, Nat.reduceSub, Nat.reduceEqDiff, Nat.reduceLeDiff, Nat.reduceLT, Bool.true_eq_false, Bool.false_eq_true, k3, h4, Nat.le_refl]
    · rw [e1, q_X9_readRuns_2]
      simp (disch := omega) only [q_X9_readRuns_0, q_X9_readRuns_1, q_X9_readRuns_3, q_X9_readRuns_4, q_X9_readRuns_7, q_X9_readRuns_8, q_X9_readRuns_10, q_X9_readRuns_11, q_X9_readRuns_14, q_X9_readRuns_17, q_X9_readRuns_18, q_X9_readRuns_19, q_X9_readRuns_22, q_X9_readRuns_25, q_X9_readRuns_28, q_X9_readRuns_31, q_X9_readRuns_32, q_X9_readRuns_33, q_X9_readRuns_34, q_X9_readRuns_35, q_X9_readRuns_36, q_X9_readRuns_37, q_X9_readRuns_40, q_X9_readRuns_42, q_X9_readRuns_44, q_X9_readRuns_47, q_X9_readRuns_50, q_X9_readRuns_51_b, q_X9_readRuns_51_0, q_X9_readRuns_51_1, q_X9_readRuns_52, q_X9_readRuns_53, q_X9_readRuns_57, q_X9_readRuns_59, q_X9_readRuns_62, q_X9_readRuns_63, q_X9_readRuns_66, q_X9_readRuns_67, q_X9_readRuns_68, q_X9_readRuns_69, q_X9_readRuns_72, q_X9_readRuns_75, q_X9_readRuns_78, q_X9_readRuns_81, q_X9_readRuns_82_b, q_X9_readRuns_82_0, q_X9_readRuns_82_1, nI_add, pI_le, pI_lt, pI_eq, pI_neg, pI_nn, pI_le0, pI_gt0, pI_eq0, xbV_s, xbU_s, if_true, if_false, bI_eq0, Nat.reduceAdd, Nat.reduceSub, Nat.reduceEqDiff, Nat.reduceLeDiff, Nat.reduceLT, Bool.true_eq_false, Bool.false_eq_true, Nat.le_refl]
      rfl
  | succ d ih =>
    intro k p w hk hkn hp hw
    by_cases z : k = n
    · obtain ⟨r, h1, h2⟩ := ih k p w (by omega) hkn hp hw
      exact ⟨r, h1, h2⟩
    have n1 : ¬ n ≤ k := by omega
    have e1 : nI n - nI k = nI (n - k) := pI_sub (by omega)
    rcases num2 hL ht (wd := 10) (lo := 0) (hi := 1023) (p := p) (by omega) (by omega) (by omega) hp (by omega) with ⟨e, he, hc, hm⟩ | ⟨v, p1, hv1, hv2, hp1, hc, hm⟩
    · refine ⟨.inl e, fun I x h hv => ?_, fun I l3 l4 l5 h hv => ?_⟩
      · obtain ⟨I1, f1, f2, f3⟩ := hc I n h
        have h4 : I1 163 4 = nI n := by rw [f2.2 4 (by omega) (by omega)]; exact h.2.1
        have h40 := h.2.1
        obtain ⟨I', g1, g2, g3⟩ := rr_E (n := n) (e := e) hn (by omega) (n - (k + 1)) (k + 1) (nI 0) (xup I1 167 k (nI 0)) (by omega) (by rw [xup_o (by omega)]; exact h4) (by rw [xup_o (by omega)]; exact f3)
        refine ⟨I', ?_, (f2.w.up (Or.inl rfl)).tr g2, g3, he⟩
        rw [q_X3_readRuns_6]
        simp (disch := omega) only [q_X3_readRuns_0, q_X3_readRuns_1, q_X3_readRuns_2, q_X3_readRuns_3, q_X3_readRuns_4, q_X3_readRuns_5, q_X3_readRuns_7, q_X3_readRuns_8, q_X3_readRuns_11, q_X3_readRuns_14, q_X3_readRuns_15, q_X3_readRuns_16, q_X3_readRuns_19, q_X3_readRuns_20, q_X3_readRuns_23, q_X3_readRuns_24, q_X3_readRuns_25, q_X3_readRuns_26, q_X3_readRuns_27, q_X3_readRuns_28, q_X3_readRuns_29, q_X3_readRuns_32, q_X3_readRuns_33, q_X3_readRuns_34, q_X3_readRuns_37, q_X3_readRuns_38, q_X3_readRuns_39, q_X3_readRuns_40, q_X3_readRuns_43, q_X3_readRuns_44, q_X3_readRuns_45, q_X3_readRuns_48, q_X3_readRuns_51, q_X3_readRuns_54, nI_add, pI_le, pI_lt, pI_eq, pI_neg, pI_nn, pI_le0, pI_gt0, pI_eq0, xbV_s, xbU_s, if_true, if_false, bI_eq0, Nat.reduceAdd, Nat.reduceSub, Nat.reduceEqDiff, Nat.reduceLeDiff, Nat.reduceLT, Bool.true_eq_false, Bool.false_eq_true, k3, kr, r163_1, h4, h40, n1, e1, s3_val (r := (none, I)) f1, s3_numE (wd := 4) (lo := 1) (hi := n - k) (by omega) f3 (by omega), s_set w166]
        exact g1
      · obtain ⟨I1, f1, f2, f3⟩ := hm I h
        refine ⟨I1, ?_, f2.w, f3⟩
        rw [q_X9_readRuns_2]
        simp (disch := omega) only [q_X9_readRuns_0, q_X9_readRuns_1, q_X9_readRuns_3, q_X9_readRuns_4, q_X9_readRuns_7, q_X9_readRuns_8, q_X9_readRuns_10, q_X9_readRuns_11, q_X9_readRuns_14, q_X9_readRuns_17, q_X9_readRuns_18, q_X9_readRuns_19, q_X9_readRuns_22, q_X9_readRuns_25, q_X9_readRuns_28, q_X9_readRuns_31, q_X9_readRuns_32, q_X9_readRuns_33, q_X9_readRuns_34, q_X9_readRuns_35, q_X9_readRuns_36, q_X9_readRuns_37, q_X9_readRuns_40, q_X9_readRuns_42, q_X9_readRuns_44, q_X9_readRuns_47, q_X9_readRuns_50, q_X9_readRuns_51_b, q_X9_readRuns_51_0, q_X9_readRuns_51_1, q_X9_readRuns_52, q_X9_readRuns_53, q_X9_readRuns_57, q_X9_readRuns_59, q_X9_readRuns_62, q_X9_readRuns_63, q_X9_readRuns_66, q_X9_readRuns_67, q_X9_readRuns_68, q_X9_readRuns_69, q_X9_readRuns_72, q_X9_readRuns_75, q_X9_readRuns_78, q_X9_readRuns_81, q_X9_readRuns_82_b, q_X9_readRuns_82_0, q_X9_readRuns_82_1, nI_add, pI_le, pI_lt, pI_eq, pI_neg, pI_nn, pI_le0, pI_gt0, pI_eq0, xbV_s, xbU_s, if_true, if_false, bI_eq0, Nat.reduceAdd, Nat.reduceSub, Nat.reduceEqDiff, Nat.reduceLeDiff, Nat.reduceLT, Bool.true_eq_false, Bool.false_eq_true, n1, k9, f1]
        rfl
    · rcases num2 hL ht (wd := 4) (lo := 1) (hi := n - k) (p := p1) (by omega) (by omega) (by omega) hp1 (by omega) with ⟨e, he, hc2, hm2⟩ | ⟨len, p2, hl1, hl2, hp2, hc2, hm2⟩
      · refine ⟨.inl e, fun I x h hv => ?_, fun I l3 l4 l5 h hv => ?_⟩
        · obtain ⟨I1, f1, f2, f3⟩ := hc I n h
          obtain ⟨I2, j1, j2, j3⟩ := hc2 I1 n f3
          have h40 := h.2.1
          have h41 := f3.2.1
          have h4 : I2 163 4 = nI n := by rw [j2.2 4 (by omega) (by omega)]; exact f3.2.1
          obtain ⟨I', g1, g2, g3⟩ := rr_E (n := n) (e := e) hn (by omega) (n - (k + 1)) (k + 1) (nI v) (xup I2 167 k (nI v)) (by omega) (by rw [xup_o (by omega)]; exact h4) (by rw [xup_o (by omega)]; exact j3)
          refine ⟨I', ?_, (f2.w.tr (j2.w.up (Or.inl rfl))).tr g2, g3, he⟩
          rw [q_X3_readRuns_6]
          simp (disch := omega) only [q_X3_readRuns_0, q_X3_readRuns_1, q_X3_readRuns_2, q_X3_readRuns_3, q_X3_readRuns_4, q_X3_readRuns_5, q_X3_readRuns_7, q_X3_readRuns_8, q_X3_readRuns_11, q_X3_readRuns_14, q_X3_readRuns_15, q_X3_readRuns_16, q_X3_readRuns_19, q_X3_readRuns_20, q_X3_readRuns_23, q_X3_readRuns_24, q_X3_readRuns_25, q_X3_readRuns_26, q_X3_readRuns_27, q_X3_readRuns_28, q_X3_readRuns_29, q_X3_readRuns_32, q_X3_readRuns_33, q_X3_readRuns_34, q_X3_readRuns_37, q_X3_readRuns_38, q_X3_readRuns_39, q_X3_readRuns_40, q_X3_readRuns_43, q_X3_readRuns_44, q_X3_readRuns_45, q_X3_readRuns_48, q_X3_readRuns_51, q_X3_readRuns_54, nI_add, pI_le, pI_lt, pI_eq, pI_neg, pI_nn, pI_le0, pI_gt0, pI_eq0, xbV_s, xbU_s, if_true, if_false, bI_eq0, Nat.reduceAdd, Nat.reduceSub, Nat.reduceEqDiff, Nat.reduceLeDiff, Nat.reduceLT, Bool.true_eq_false, Bool.false_eq_true, k3, kr, r163_1, h40, h41, n1, e1, s3_val (r := (none, I)) f1, j1, s_set w166]
          exact g1
        · obtain ⟨I1, f1, f2, f3⟩ := hm I h
          obtain ⟨I2, j1, j2, j3⟩ := hm2 I1 f3
          refine ⟨I2, ?_, f2.w.tr j2.w, j3⟩
          rw [q_X9_readRuns_2]
          simp (disch := omega) only [q_X9_readRuns_0, q_X9_readRuns_1, q_X9_readRuns_3, q_X9_readRuns_4, q_X9_readRuns_7, q_X9_readRuns_8, q_X9_readRuns_10, q_X9_readRuns_11, q_X9_readRuns_14, q_X9_readRuns_17, q_X9_readRuns_18, q_X9_readRuns_19, q_X9_readRuns_22, q_X9_readRuns_25, q_X9_readRuns_28, q_X9_readRuns_31, q_X9_readRuns_32, q_X9_readRuns_33, q_X9_readRuns_34, q_X9_readRuns_35, q_X9_readRuns_36, q_X9_readRuns_37, q_X9_readRuns_40, q_X9_readRuns_42, q_X9_readRuns_44, q_X9_readRuns_47, q_X9_readRuns_50, q_X9_readRuns_51_b, q_X9_readRuns_51_0, q_X9_readRuns_51_1, q_X9_readRuns_52, q_X9_readRuns_53, q_X9_readRuns_57, q_X9_readRuns_59, q_X9_readRuns_62, q_X9_readRuns_63, q_X9_readRuns_66, q_X9_readRuns_67, q_X9_readRuns_68, q_X9_readRuns_69, q_X9_readRuns_72, q_X9_readRuns_75, q_X9_readRuns_78, q_X9_readRuns_81, q_X9_readRuns_82_b, q_X9_readRuns_82_0, q_X9_readRuns_82_1, nI_add, pI_le, pI_lt, pI_eq, pI_neg, pI_nn, pI_le0, pI_gt0, pI_eq0, xbV_s, xbU_s, if_true, if_false, bI_eq0, Nat.reduceAdd, Nat.reduceSub, Nat.reduceEqDiff, Nat.reduceLeDiff, Nat.reduceLT, Bool.true_eq_false, Bool.false_eq_true, n1, k9, f1, pI_ne9, e1, j1]
          rfl
      · obtain ⟨r, hc3, hm3⟩ := ih (k + len) p2 (fun j => if k ≤ j then v else w j) (by omega) (by omega) hp2 (fun j hj => by
          try dsimp only
          split
          · exact hv2
          · exact hw j (by omega))
        refine ⟨r, fun I x h hv => ?_, fun I l3 l4 l5 h hv => ?_⟩
        · obtain ⟨I1, f1, f2, f3⟩ := hc I n h
          obtain ⟨I2, j1, j2, j3⟩ := hc2 I1 n f3
          have h40 := h.2.1
          have h41 := f3.2.1
          obtain ⟨I3, m1, m2, m3⟩ := rr_fc (n := n) (v := v) (re := k + len) hn (by omega) (len - 1) k I2 (by omega) j3.2.1
          have hw3 : tGw I2 I3 := ⟨fun c h1 h2 _ => m2 c h2, fun j _ _ => by rw [m2 163 (by omega)]⟩
          obtain ⟨I', g1, g2⟩ := hc3 I3 (nI v) (j3.go hw3 (by rw [m2 163 (by omega)]; exact j3.2.2.1) (by rw [m2 163 (by omega)]; exact j3.2.2.2) (m2 165 (by omega))) (fun j hj => by
            rw [m3 j]
            by_cases q : k ≤ j
            · rw [if_pos ⟨q, hj⟩, if_pos q]
            · rw [if_neg (fun z => q z.1), if_neg q, j2.1 167 (by omega), f2.1 167 (by omega)]
              exact hv j (by omega))
          refine ⟨I', ?_, ((f2.w.tr j2.w).tr hw3).tr g2.1, g2.2⟩
          rw [q_X3_readRuns_6]
          simp (disch := omega) only [q_X3_readRuns_7, q_X3_readRuns_8, q_X3_readRuns_11, q_X3_readRuns_14, q_X3_readRuns_15, q_X3_readRuns_16, q_X3_readRuns_19, q_X3_readRuns_20, q_X3_readRuns_23, q_X3_readRuns_24, q_X3_readRuns_25, q_X3_readRuns_26, q_X3_readRuns_27, q_X3_readRuns_28, q_X3_readRuns_29, q_X3_readRuns_32, q_X3_readRuns_33, q_X3_readRuns_34, q_X3_readRuns_37, q_X3_readRuns_38, nI_add, pI_le, pI_lt, pI_eq, pI_neg, pI_nn, pI_le0, pI_gt0, pI_eq0, xbV_s, xbU_s, if_true, if_false, bI_eq0, Nat.reduceAdd, Nat.reduceSub, Nat.reduceEqDiff, Nat.reduceLeDiff, Nat.reduceLT, Bool.true_eq_false, Bool.false_eq_true, k3, h40, h41, n1, e1, s3_val (r := (none, I)) f1, j1]
          rw [m1]
          exact g1
        · obtain ⟨I1, f1, f2, f3⟩ := hm I h
          obtain ⟨I2, j1, j2, j3⟩ := hm2 I1 f3
          obtain ⟨I3, l, m1, ml, m2, m3⟩ := rr_fm (n := n) (v := v) (len := len) (k := k) (by omega) hn len 0 I2 (by omega)
          have hw3 : mGw I2 I3 := ⟨fun c h1 h2 _ => m2 c h2, fun j _ => by rw [m2 189 (by omega)]⟩
          obtain ⟨a3, a4, a5, rfl⟩ : ∃ a3 a4 a5, l = [a3, a4, a5] := by
            match l, ml with
            | [a3, a4, a5], _ => exact ⟨a3, a4, a5, rfl⟩
          obtain ⟨I', g1, g2⟩ := hm3 I3 a3 a4 a5 (j3.go hw3 (by rw [m2 189 (by omega)]; exact j3.2) (m2 190 (by omega))) (fun j hj => by
            rw [m3 j]
            by_cases q : k ≤ j
            · rw [if_pos ⟨q, hj⟩, if_pos q]
            · rw [if_neg (fun z => q z.1), if_neg q, j2.1 198 (by omega), f2.1 198 (by omega)]
              exact hv j (by omega))
          refine ⟨I', ?_, ((f2.w.tr j2.w).tr hw3).tr g2.1, g2.2⟩
          rw [q_X9_readRuns_2]
          simp (disch := omega) only [q_X9_readRuns_3, q_X9_readRuns_4, q_X9_readRuns_7, q_X9_readRuns_8, q_X9_readRuns_10, q_X9_readRuns_11, q_X9_readRuns_14, q_X9_readRuns_17, q_X9_readRuns_18, q_X9_readRuns_19, q_X9_readRuns_22, q_X9_readRuns_25, q_X9_readRuns_28, q_X9_readRuns_31, q_X9_readRuns_32, q_X9_readRuns_33, q_X9_readRuns_34, q_X9_readRuns_35, q_X9_readRuns_36, q_X9_readRuns_37, q_X9_readRuns_40, q_X9_readRuns_42, q_X9_readRuns_44, q_X9_readRuns_47, q_X9_readRuns_50, q_X9_readRuns_51_b, q_X9_readRuns_51_0, q_X9_readRuns_51_1, q_X9_readRuns_52, q_X9_readRuns_53, nI_add, pI_le, pI_lt, pI_eq, pI_neg, pI_nn, pI_le0, pI_gt0, pI_eq0, xbV_s, xbU_s, if_true, if_false, bI_eq0, Nat.reduceAdd, Nat.reduceSub, Nat.reduceEqDiff, Nat.reduceLeDiff, Nat.reduceLT, Bool.true_eq_false, Bool.false_eq_true, n1, k9, f1, pI_ne9, e1, j1]
          rw [show nI k = nI (k + 0) from rfl, m1]
          exact g1
theorem rd_runs (hL : L ≤ 160) (ht : ∀ j, j < L → t j ≤ 255) {n p : Nat} (hn : n ≤ 12) (hp : p ≤ L) : RD t L f_X3_readRuns f_X9_readRuns n p := by
  obtain ⟨r, h1, h2⟩ := rr_l hL ht hn n 0 p (fun _ => 0) (by omega) (by omega) hp (fun j hj => absurd hj (Nat.not_lt_zero _))
  refine ⟨r, fun I h => ?_, fun I h => ?_⟩
  · obtain ⟨I', g1, g2⟩ := h1 I (nI 0) h (fun j hj => absurd hj (Nat.not_lt_zero _))
    refine ⟨I', ?_, g2⟩
    rw [e_X3_readRuns]
    simp (disch := omega) only [q_X3_readRuns_0, q_X3_readRuns_1, q_X3_readRuns_2, q_X3_readRuns_3, q_X3_readRuns_4, q_X3_readRuns_5, nI_add, pI_le, pI_lt, pI_eq, pI_neg, pI_nn, pI_le0, pI_gt0, pI_eq0, xbV_s, xbU_s, if_true, if_false, bI_eq0, Nat.reduceAdd, Nat.reduceSub, Nat.reduceEqDiff, Nat.reduceLeDiff, Nat.reduceLT, Bool.true_eq_false, Bool.false_eq_true]
    exact g1
  · obtain ⟨I', g1, g2⟩ := h2 I none none none h (fun j hj => absurd hj (Nat.not_lt_zero _))
    refine ⟨I', ?_, g2⟩
    rw [e_X9_readRuns]
    simp (disch := omega) only [q_X9_readRuns_0, q_X9_readRuns_1, nI_add, pI_le, pI_lt, pI_eq, pI_neg, pI_nn, pI_le0, pI_gt0, pI_eq0, xbV_s, xbU_s, if_true, if_false, bI_eq0, Nat.reduceAdd, Nat.reduceSub, Nat.reduceEqDiff, Nat.reduceLeDiff, Nat.reduceLT, Bool.true_eq_false, Bool.false_eq_true]
    exact g1
end PT
end P42
