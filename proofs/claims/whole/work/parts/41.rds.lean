/-! ===== pages in the text: small numbers, words ===== -/
section P41
section PS
variable {t : Nat → Nat} {L : Nat}
theorem rs_E {n e lo wd : Nat} (hn : n ≤ 12) (he : e ≤ 200) (hlo : lo ≤ 1023) (hwd : wd ≤ 12) : ∀ d k (I : xMem), k + d = n → I 163 4 = nI n → I 163 6 = nI e → ∃ I', xgo k_X3_readSmall 16 [some (.ref 163), some (.int (nI lo)), some (.int (nI wd)), some (.int (nI k))] [] I = some (.inl none, I') ∧ tGw I I' ∧ I' 163 6 = nI e := by
  have k3 := x163
  have kr := w166.1
  intro d
  induction d with
  | zero =>
    intro k I hk h4 h6
    have e1 : k = n := by omega
    refine ⟨I, ?_, tGw.rf, h6⟩
    rw [e1, q_X3_readSmall_16]
    simp (disch := omega) only [q_X3_readSmall_0, q_X3_readSmall_1, q_X3_readSmall_4, q_X3_readSmall_5, q_X3_readSmall_6, q_X3_readSmall_7, q_X3_readSmall_8, q_X3_readSmall_10, q_X3_readSmall_13, q_X3_readSmall_14, q_X3_readSmall_15, q_X3_readSmall_17, q_X3_readSmall_18, q_X3_readSmall_21, q_X3_readSmall_24, q_X3_readSmall_25, q_X3_readSmall_28, q_X3_readSmall_29, q_X3_readSmall_30, q_X3_readSmall_31, q_X3_readSmall_32, q_X3_readSmall_33, q_X3_readSmall_36, q_X3_readSmall_37, q_X3_readSmall_38, q_X3_readSmall_41, q_X3_readSmall_42, q_X3_readSmall_45, q_X3_readSmall_48, q_X3_readSmall_51, nI_add, pI_le, pI_lt, pI_eq, pI_neg, pI_nn, pI_le0, pI_gt0, pI_eq0, xbV_s, xbU_s, if_true, if_false, bI_eq0, Nat.reduceAdd, Nat.reduceSub, Nat.reduceEqDiff, Nat.reduceLeDiff, Nat.reduceLT, Bool.true_eq_false, Bool.false_eq_true, k3, h4, Nat.le_refl]
  | succ d ih =>
    intro k I hk h4 h6
    have n1 : ¬ n ≤ k := by omega
    have e1 : nI 1023 - nI lo = nI (1023 - lo) := pI_sub hlo
    obtain ⟨I', f1, f2, f3⟩ := ih (k + 1) (xup I 167 k (nI (lo + 0))) (by omega) (by rw [xup_o (by omega)]; exact h4) (by rw [xup_o (by omega)]; exact h6)
    refine ⟨I', ?_, (tGw.rf.up (Or.inl rfl)).tr f2, f3⟩
    rw [q_X3_readSmall_16]
    simp (disch := omega) only [q_X3_readSmall_0, q_X3_readSmall_1, q_X3_readSmall_4, q_X3_readSmall_5, q_X3_readSmall_6, q_X3_readSmall_7, q_X3_readSmall_8, q_X3_readSmall_10, q_X3_readSmall_13, q_X3_readSmall_14, q_X3_readSmall_15, q_X3_readSmall_17, q_X3_readSmall_18, q_X3_readSmall_21, q_X3_readSmall_24, q_X3_readSmall_25, q_X3_readSmall_28, q_X3_readSmall_29, q_X3_readSmall_30, q_X3_readSmall_31, q_X3_readSmall_32, q_X3_readSmall_33, q_X3_readSmall_36, q_X3_readSmall_37, q_X3_readSmall_38, q_X3_readSmall_41, q_X3_readSmall_42, q_X3_readSmall_45, q_X3_readSmall_48, q_X3_readSmall_51, nI_add, pI_le, pI_lt, pI_eq, pI_neg, pI_nn, pI_le0, pI_gt0, pI_eq0, xbV_s, xbU_s, if_true, if_false, bI_eq0, Nat.reduceAdd, Nat.reduceSub, Nat.reduceEqDiff, Nat.reduceLeDiff, Nat.reduceLT, Bool.true_eq_false, Bool.false_eq_true, k3, kr, r163_1, h4, n1, e1, s3_numE (wd := wd) (lo := 0) (hi := 1023 - lo) hwd h6 he, s_set w166]
    exact f1
theorem rs_l (hL : L ≤ 160) (ht : ∀ j, j < L → t j ≤ 255) {n lo wd : Nat} (hn : n ≤ 12) (hlo : lo ≤ 1023) (hwd : wd ≤ 10) : ∀ d k p (w : Nat → Nat), k + d = n → p ≤ L → (∀ j, j < k → w j ≤ 1023) → ∃ r : rO, (∀ I, cG I t L n p → (∀ j, j < k → I 167 j = nI (w j)) → ∃ I', xgo k_X3_readSmall 16 [some (.ref 163), some (.int (nI lo)), some (.int (nI wd)), some (.int (nI k))] [] I = some (.inl none, I') ∧ cOut I I' L n r) ∧ (∀ I (l : Option Value), mG I t L p → (∀ j, j < k → I 198 j = nI (w j)) → ∃ I', xgo k_X9_readSmall 36 [some (.ref 189), some (.int (nI n)), some (.int (nI lo)), some (.int (nI wd)), some (.int (nI k)), l] [] I = some (.inl (some (.int (bI (rOk r)))), I') ∧ mOut I I' n r) := by
  have k3 := x163
  have kr := w166.1
  have k9 := x189
  have k98 := x198
  have l98 := l198
  have e1 : nI 1023 - nI lo = nI (1023 - lo) := pI_sub hlo
  intro d
  induction d with
  | zero =>
    intro k p w hk hp hw
    have e1 : k = n := by omega
    refine ⟨.inr (p, w), fun I h hv => ⟨I, ?_, tGw.rf, h.2.2.2, h.2.2.1, hp, fun j hj => ⟨hv j (by omega), hw j (by omega)⟩⟩, fun I l h hv => ⟨I, ?_, mGw.rf, h.2, fun j hj => hv j (by omega)⟩⟩
    · have h4 := h.2.1
      rw [e1, q_X3_readSmall_16]
      simp (disch := omega) only [q_X3_readSmall_0, q_X3_readSmall_1, q_X3_readSmall_4, q_X3_readSmall_5, q_X3_readSmall_6, q_X3_readSmall_7, q_X3_readSmall_8, q_X3_readSmall_10, q_X3_readSmall_13, q_X3_readSmall_14, q_X3_readSmall_15, q_X3_readSmall_17, q_X3_readSmall_18, q_X3_readSmall_21, q_X3_readSmall_24, q_X3_readSmall_25, q_X3_readSmall_28, q_X3_readSmall_29, q_X3_readSmall_30, q_X3_readSmall_31, q_X3_readSmall_32, q_X3_readSmall_33, q_X3_readSmall_36, q_X3_readSmall_37, q_X3_readSmall_38, q_X3_readSmall_41, q_X3_readSmall_42, q_X3_readSmall_45, q_X3_readSmall_48, q_X3_readSmall_51, nI_add, pI_le, pI_lt, pI_eq, pI_neg, pI_nn, pI_le0, pI_gt0, pI_eq0, xbV_s, xbU_s, if_true, if_false, bI_eq0, Nat.reduceAdd, Nat.reduceSub, Nat.reduceEqDiff, Nat.reduceLeDiff, Nat.reduceLT, Bool.true_eq_false, Bool.false_eq_true, k3, h4, Nat.le_refl]
    · rw [e1, q_X9_readSmall_36]
      simp (disch := omega) only [q_X9_readSmall_0, q_X9_readSmall_1, q_X9_readSmall_3, q_X9_readSmall_4, q_X9_readSmall_7, q_X9_readSmall_10, q_X9_readSmall_11, q_X9_readSmall_12, q_X9_readSmall_15, q_X9_readSmall_18, q_X9_readSmall_21, q_X9_readSmall_24, q_X9_readSmall_25, q_X9_readSmall_26, q_X9_readSmall_27, q_X9_readSmall_29, q_X9_readSmall_32, q_X9_readSmall_33, q_X9_readSmall_34, q_X9_readSmall_38, q_X9_readSmall_39, q_X9_readSmall_42, q_X9_readSmall_43, q_X9_readSmall_46, q_X9_readSmall_49, q_X9_readSmall_50, q_X9_readSmall_51, q_X9_readSmall_52, q_X9_readSmall_55, q_X9_readSmall_56, q_X9_readSmall_57, q_X9_readSmall_60, q_X9_readSmall_62, q_X9_readSmall_64, q_X9_readSmall_67, q_X9_readSmall_70, q_X9_readSmall_71_b, q_X9_readSmall_71_0, q_X9_readSmall_71_1, q_X9_readSmall_72, q_X9_readSmall_73, q_X9_readSmall_76, q_X9_readSmall_78, q_X9_readSmall_79, q_X9_readSmall_81, q_X9_readSmall_82, q_X9_readSmall_83, q_X9_readSmall_86, q_X9_readSmall_89, q_X9_readSmall_90, q_X9_readSmall_93, q_X9_readSmall_96, q_X9_readSmall_97, q_X9_readSmall_100, q_X9_readSmall_101_b, q_X9_readSmall_101_0, q_X9_readSmall_101_1, nI_add, pI_le, pI_lt, pI_eq, pI_neg, pI_nn, pI_le0, pI_gt0, pI_eq0, xbV_s, xbU_s, if_true, if_false, bI_eq0, Nat.reduceAdd, Nat.reduceSub, Nat.reduceEqDiff, Nat.reduceLeDiff, Nat.reduceLT, Bool.true_eq_false, Bool.false_eq_true, Nat.le_refl, pI_ne9]
      rfl
  | succ d ih =>
    intro k p w hk hp hw
    have n1 : ¬ n ≤ k := by omega
    rcases num2 hL ht (wd := wd) (lo := 0) (hi := 1023 - lo) (p := p) (by omega) (by omega) (by omega) hp (by omega) with ⟨e, he, hc, hm⟩ | ⟨v, p', hv1, hv2, hp', hc, hm⟩
    · refine ⟨.inl e, fun I h hv => ?_, fun I l h hv => ?_⟩
      · obtain ⟨I1, f1, f2, f3⟩ := hc I n h
        have h4 := h.2.1
        obtain ⟨I', g1, g2, g3⟩ := rs_E (n := n) (e := e) (wd := wd) hn (by omega) hlo (by omega) d (k + 1) (xup I1 167 k (nI (lo + 0))) (by omega) (by rw [xup_o (by omega), f2.2 4 (by omega) (by omega)]; exact h4) (by rw [xup_o (by omega)]; exact f3)
        refine ⟨I', ?_, (f2.w.up (Or.inl rfl)).tr g2, g3, he⟩
        rw [q_X3_readSmall_16]
        simp (disch := omega) only [q_X3_readSmall_0, q_X3_readSmall_1, q_X3_readSmall_4, q_X3_readSmall_5, q_X3_readSmall_6, q_X3_readSmall_7, q_X3_readSmall_8, q_X3_readSmall_10, q_X3_readSmall_13, q_X3_readSmall_14, q_X3_readSmall_15, q_X3_readSmall_17, q_X3_readSmall_18, q_X3_readSmall_21, q_X3_readSmall_24, q_X3_readSmall_25, q_X3_readSmall_28, q_X3_readSmall_29, q_X3_readSmall_30, q_X3_readSmall_31, q_X3_readSmall_32, q_X3_readSmall_33, q_X3_readSmall_36, q_X3_readSmall_37, q_X3_readSmall_38, q_X3_readSmall_41, q_X3_readSmall_42, q_X3_readSmall_45, q_X3_readSmall_48, q_X3_readSmall_51, nI_add, pI_le, pI_lt, pI_eq, pI_neg, pI_nn, pI_le0, pI_gt0, pI_eq0, xbV_s, xbU_s, if_true, if_false, bI_eq0, Nat.reduceAdd, Nat.reduceSub, Nat.reduceEqDiff, Nat.reduceLeDiff, Nat.reduceLT, Bool.true_eq_false, Bool.false_eq_true, k3, kr, r163_1, h4, n1, e1, f1, s_set w166]
        exact g1
      · obtain ⟨I1, f1, f2, f3⟩ := hm I h
        refine ⟨I1, ?_, f2.w, f3⟩
        rw [q_X9_readSmall_36]
        simp (disch := omega) only [q_X9_readSmall_0, q_X9_readSmall_1, q_X9_readSmall_3, q_X9_readSmall_4, q_X9_readSmall_7, q_X9_readSmall_10, q_X9_readSmall_11, q_X9_readSmall_12, q_X9_readSmall_15, q_X9_readSmall_18, q_X9_readSmall_21, q_X9_readSmall_24, q_X9_readSmall_25, q_X9_readSmall_26, q_X9_readSmall_27, q_X9_readSmall_29, q_X9_readSmall_32, q_X9_readSmall_33, q_X9_readSmall_34, q_X9_readSmall_38, q_X9_readSmall_39, q_X9_readSmall_42, q_X9_readSmall_43, q_X9_readSmall_46, q_X9_readSmall_49, q_X9_readSmall_50, q_X9_readSmall_51, q_X9_readSmall_52, q_X9_readSmall_55, q_X9_readSmall_56, q_X9_readSmall_57, q_X9_readSmall_60, q_X9_readSmall_62, q_X9_readSmall_64, q_X9_readSmall_67, q_X9_readSmall_70, q_X9_readSmall_71_b, q_X9_readSmall_71_0, q_X9_readSmall_71_1, q_X9_readSmall_72, q_X9_readSmall_73, q_X9_readSmall_76, q_X9_readSmall_78, q_X9_readSmall_79, q_X9_readSmall_81, q_X9_readSmall_82, q_X9_readSmall_83, q_X9_readSmall_86, q_X9_readSmall_89, q_X9_readSmall_90, q_X9_readSmall_93, q_X9_readSmall_96, q_X9_readSmall_97, q_X9_readSmall_100, q_X9_readSmall_101_b, q_X9_readSmall_101_0, q_X9_readSmall_101_1, nI_add, pI_le, pI_lt, pI_eq, pI_neg, pI_nn, pI_le0, pI_gt0, pI_eq0, xbV_s, xbU_s, if_true, if_false, bI_eq0, Nat.reduceAdd, Nat.reduceSub, Nat.reduceEqDiff, Nat.reduceLeDiff, Nat.reduceLT, Bool.true_eq_false, Bool.false_eq_true, n1, k9, pI_ne9, e1, f1]
        rfl
    · obtain ⟨r, hc2, hm2⟩ := ih (k + 1) p' (nup w k (lo + v)) (by omega) hp' (fun j hj => by
        unfold nup
        split
        · omega
        · exact hw j (by omega))
      refine ⟨r, fun I h hv => ?_, fun I l h hv => ?_⟩
      · obtain ⟨I1, f1, f2, f3⟩ := hc I n h
        have h4 := h.2.1
        obtain ⟨I', g1, g2⟩ := hc2 (xup I1 167 k (nI (lo + v))) (f3.go (tGw.rf.up (Or.inl rfl)) (by rw [xup_o (by omega)]; exact f3.2.2.1) (by rw [xup_o (by omega)]; exact f3.2.2.2) (by rw [xup_o (by omega)])) (fun j hj => by
          unfold nup
          by_cases q : j = k
          · rw [if_pos q, q, xup_s]
          · rw [if_neg q, xup_d q, f2.1 167 (by omega)]; exact hv j (by omega))
        refine ⟨I', ?_, (f2.w.up (Or.inl rfl)).tr g2.1, g2.2⟩
        rw [q_X3_readSmall_16]
        simp (disch := omega) only [q_X3_readSmall_0, q_X3_readSmall_1, q_X3_readSmall_4, q_X3_readSmall_5, q_X3_readSmall_6, q_X3_readSmall_7, q_X3_readSmall_8, q_X3_readSmall_10, q_X3_readSmall_13, q_X3_readSmall_14, q_X3_readSmall_15, q_X3_readSmall_17, q_X3_readSmall_18, q_X3_readSmall_21, q_X3_readSmall_24, q_X3_readSmall_25, q_X3_readSmall_28, q_X3_readSmall_29, q_X3_readSmall_30, q_X3_readSmall_31, q_X3_readSmall_32, q_X3_readSmall_33, q_X3_readSmall_36, q_X3_readSmall_37, q_X3_readSmall_38, q_X3_readSmall_41, q_X3_readSmall_42, q_X3_readSmall_45, q_X3_readSmall_48, q_X3_readSmall_51, nI_add, pI_le, pI_lt, pI_eq, pI_neg, pI_nn, pI_le0, pI_gt0, pI_eq0, xbV_s, xbU_s, if_true, if_false, bI_eq0, Nat.reduceAdd, Nat.reduceSub, Nat.reduceEqDiff, Nat.reduceLeDiff, Nat.reduceLT, Bool.true_eq_false, Bool.false_eq_true, k3, kr, r163_1, h4, n1, e1, f1, s_set w166]
        exact g1
      · obtain ⟨I1, f1, f2, f3⟩ := hm I h
        obtain ⟨I', g1, g2⟩ := hm2 (xup I1 198 k (nI (lo + v))) (some (.int (nI v))) (f3.go (mGw.rf.up (Or.inl rfl)) (by rw [xup_o (by omega)]; exact f3.2) (by rw [xup_o (by omega)])) (fun j hj => by
          unfold nup
          by_cases q : j = k
          · rw [if_pos q, q, xup_s]
          · rw [if_neg q, xup_d q, f2.1 198 (by omega)]; exact hv j (by omega))
        refine ⟨I', ?_, (f2.w.up (Or.inl rfl)).tr g2.1, g2.2⟩
        rw [q_X9_readSmall_36]
        simp (disch := omega) only [q_X9_readSmall_0, q_X9_readSmall_1, q_X9_readSmall_3, q_X9_readSmall_4, q_X9_readSmall_7, q_X9_readSmall_10, q_X9_readSmall_11, q_X9_readSmall_12, q_X9_readSmall_15, q_X9_readSmall_18, q_X9_readSmall_21, q_X9_readSmall_24, q_X9_readSmall_25, q_X9_readSmall_26, q_X9_readSmall_27, q_X9_readSmall_29, q_X9_readSmall_32, q_X9_readSmall_33, q_X9_readSmall_34, q_X9_readSmall_38, q_X9_readSmall_39, q_X9_readSmall_42, q_X9_readSmall_43, q_X9_readSmall_46, q_X9_readSmall_49, q_X9_readSmall_50, q_X9_readSmall_51, q_X9_readSmall_52, q_X9_readSmall_55, q_X9_readSmall_56, q_X9_readSmall_57, q_X9_readSmall_60, q_X9_readSmall_62, q_X9_readSmall_64, q_X9_readSmall_67, q_X9_readSmall_70, q_X9_readSmall_71_b, q_X9_readSmall_71_0, q_X9_readSmall_71_1, q_X9_readSmall_72, q_X9_readSmall_73, q_X9_readSmall_76, q_X9_readSmall_78, q_X9_readSmall_79, q_X9_readSmall_81, q_X9_readSmall_82, q_X9_readSmall_83, q_X9_readSmall_86, q_X9_readSmall_89, q_X9_readSmall_90, q_X9_readSmall_93, q_X9_readSmall_96, q_X9_readSmall_97, q_X9_readSmall_100, q_X9_readSmall_101_b, q_X9_readSmall_101_0, q_X9_readSmall_101_1, nI_add, pI_le, pI_lt, pI_eq, pI_neg, pI_nn, pI_le0, pI_gt0, pI_eq0, xbV_s, xbU_s, if_true, if_false, bI_eq0, Nat.reduceAdd, Nat.reduceSub, Nat.reduceEqDiff, Nat.reduceLeDiff, Nat.reduceLT, Bool.true_eq_false, Bool.false_eq_true, n1, k9, k98, l98, r9_13, pI_ne9, e1, f1]
        exact g1
theorem rd_small (hL : L ≤ 160) (ht : ∀ j, j < L → t j ≤ 255) {n p : Nat} (hn : n ≤ 12) (hn1 : 1 ≤ n) (hp : p ≤ L) : RD t L f_X3_readSmall f_X9_readSmall n p := by
  have k3 := x163
  have k9 := x189
  have n0 : ¬ n ≤ 0 := by omega
  rcases num2 hL ht (wd := 10) (lo := 0) (hi := 1023) (p := p) (by omega) (by omega) (by omega) hp (by omega) with ⟨e, he, hc, hm⟩ | ⟨lo, p1, hv1, hv2, hp1, hc, hm⟩
  · refine ⟨.inl e, fun I h => ?_, fun I h => ?_⟩
    · obtain ⟨I1, f1, f2, f3⟩ := hc I n h
      have h4 : I1 163 4 = nI n := by rw [f2.2 4 (by omega) (by omega)]; exact h.2.1
      obtain ⟨I', g1, g2, g3⟩ := rs_E (n := n) (e := e) (lo := 0) (wd := 0) hn (by omega) (by omega) (by omega) n 0 I1 (by omega) h4 f3
      refine ⟨I', ?_, f2.w.tr g2, g3, he⟩
      rw [e_X3_readSmall]
      simp (disch := omega) only [q_X3_readSmall_0, q_X3_readSmall_1, q_X3_readSmall_4, q_X3_readSmall_5, q_X3_readSmall_6, q_X3_readSmall_7, q_X3_readSmall_8, q_X3_readSmall_10, q_X3_readSmall_13, q_X3_readSmall_14, q_X3_readSmall_15, nI_add, pI_le, pI_lt, pI_eq, pI_neg, pI_nn, pI_le0, pI_gt0, pI_eq0, xbV_s, xbU_s, if_true, if_false, bI_eq0, Nat.reduceAdd, Nat.reduceSub, Nat.reduceEqDiff, Nat.reduceLeDiff, Nat.reduceLT, Bool.true_eq_false, Bool.false_eq_true, k3, s3_val (r := (none, I)) f1, s3_numE (wd := 4) (lo := 0) (hi := 10) (by omega) f3 (by omega)]
      exact g1
    · obtain ⟨I1, f1, f2, f3⟩ := hm I h
      refine ⟨I1, ?_, f2.w, f3⟩
      rw [e_X9_readSmall]
      simp (disch := omega) only [q_X9_readSmall_0, q_X9_readSmall_1, q_X9_readSmall_3, q_X9_readSmall_4, q_X9_readSmall_7, q_X9_readSmall_10, q_X9_readSmall_11, q_X9_readSmall_12, q_X9_readSmall_15, q_X9_readSmall_18, q_X9_readSmall_21, q_X9_readSmall_24, q_X9_readSmall_25, q_X9_readSmall_26, q_X9_readSmall_27, q_X9_readSmall_29, q_X9_readSmall_32, q_X9_readSmall_33, q_X9_readSmall_34, q_X9_readSmall_38, q_X9_readSmall_39, q_X9_readSmall_42, q_X9_readSmall_43, q_X9_readSmall_46, q_X9_readSmall_49, q_X9_readSmall_50, q_X9_readSmall_51, q_X9_readSmall_52, q_X9_readSmall_55, q_X9_readSmall_56, q_X9_readSmall_57, q_X9_readSmall_60, q_X9_readSmall_62, q_X9_readSmall_64, q_X9_readSmall_67, q_X9_readSmall_70, q_X9_readSmall_71_b, q_X9_readSmall_71_0, q_X9_readSmall_71_1, q_X9_readSmall_72, q_X9_readSmall_73, q_X9_readSmall_76, q_X9_readSmall_78, q_X9_readSmall_79, q_X9_readSmall_81, q_X9_readSmall_82, q_X9_readSmall_83, q_X9_readSmall_86, q_X9_readSmall_89, q_X9_readSmall_90, q_X9_readSmall_93, q_X9_readSmall_96, q_X9_readSmall_97, q_X9_readSmall_100, q_X9_readSmall_101_b, q_X9_readSmall_101_0, q_X9_readSmall_101_1, nI_add, pI_le, pI_lt, pI_eq, pI_neg, pI_nn, pI_le0, pI_gt0, pI_eq0, xbV_s, xbU_s, if_true, if_false, bI_eq0, Nat.reduceAdd, Nat.reduceSub, Nat.reduceEqDiff, Nat.reduceLeDiff, Nat.reduceLT, Bool.true_eq_false, Bool.false_eq_true, k9, f1]
      rw [q_X9_readSmall_36]
      simp (disch := omega) only [q_X9_readSmall_0, q_X9_readSmall_1, q_X9_readSmall_3, q_X9_readSmall_4, q_X9_readSmall_7, q_X9_readSmall_10, q_X9_readSmall_11, q_X9_readSmall_12, q_X9_readSmall_15, q_X9_readSmall_18, q_X9_readSmall_21, q_X9_readSmall_24, q_X9_readSmall_25, q_X9_readSmall_26, q_X9_readSmall_27, q_X9_readSmall_29, q_X9_readSmall_32, q_X9_readSmall_33, q_X9_readSmall_34, q_X9_readSmall_38, q_X9_readSmall_39, q_X9_readSmall_42, q_X9_readSmall_43, q_X9_readSmall_46, q_X9_readSmall_49, q_X9_readSmall_50, q_X9_readSmall_51, q_X9_readSmall_52, q_X9_readSmall_55, q_X9_readSmall_56, q_X9_readSmall_57, q_X9_readSmall_60, q_X9_readSmall_62, q_X9_readSmall_64, q_X9_readSmall_67, q_X9_readSmall_70, q_X9_readSmall_71_b, q_X9_readSmall_71_0, q_X9_readSmall_71_1, q_X9_readSmall_72, q_X9_readSmall_73, q_X9_readSmall_76, q_X9_readSmall_78, q_X9_readSmall_79, q_X9_readSmall_81, q_X9_readSmall_82, q_X9_readSmall_83, q_X9_readSmall_86, q_X9_readSmall_89, q_X9_readSmall_90, q_X9_readSmall_93, q_X9_readSmall_96, q_X9_readSmall_97, q_X9_readSmall_100, q_X9_readSmall_101_b, q_X9_readSmall_101_0, q_X9_readSmall_101_1, nI_add, pI_le, pI_lt, pI_eq, pI_neg, pI_nn, pI_le0, pI_gt0, pI_eq0, xbV_s, xbU_s, if_true, if_false, bI_eq0, Nat.reduceAdd, Nat.reduceSub, Nat.reduceEqDiff, Nat.reduceLeDiff, Nat.reduceLT, Bool.true_eq_false, Bool.false_eq_true, n0]
      rfl
  · rcases num2 hL ht (wd := 4) (lo := 0) (hi := 10) (p := p1) (by omega) (by omega) (by omega) hp1 (by omega) with ⟨e, he, hc2, hm2⟩ | ⟨wd, p2, hw1, hw2, hp2, hc2, hm2⟩
    · refine ⟨.inl e, fun I h => ?_, fun I h => ?_⟩
      · obtain ⟨I1, f1, f2, f3⟩ := hc I n h
        obtain ⟨I2, j1, j2, j3⟩ := hc2 I1 n f3
        have h4 : I2 163 4 = nI n := by rw [j2.2 4 (by omega) (by omega)]; exact f3.2.1
        obtain ⟨I', g1, g2, g3⟩ := rs_E (n := n) (e := e) (lo := lo) (wd := 0) hn (by omega) hv2 (by omega) n 0 I2 (by omega) h4 j3
        refine ⟨I', ?_, f2.w.tr (j2.w.tr g2), g3, he⟩
        rw [e_X3_readSmall]
        simp (disch := omega) only [q_X3_readSmall_0, q_X3_readSmall_1, q_X3_readSmall_4, q_X3_readSmall_5, q_X3_readSmall_6, q_X3_readSmall_7, q_X3_readSmall_8, q_X3_readSmall_10, q_X3_readSmall_13, q_X3_readSmall_14, q_X3_readSmall_15, nI_add, pI_le, pI_lt, pI_eq, pI_neg, pI_nn, pI_le0, pI_gt0, pI_eq0, xbV_s, xbU_s, if_true, if_false, bI_eq0, Nat.reduceAdd, Nat.reduceSub, Nat.reduceEqDiff, Nat.reduceLeDiff, Nat.reduceLT, Bool.true_eq_false, Bool.false_eq_true, k3, s3_val (r := (none, I)) f1, j1]
        exact g1
      · obtain ⟨I1, f1, f2, f3⟩ := hm I h
        obtain ⟨I2, j1, j2, j3⟩ := hm2 I1 f3
        refine ⟨I2, ?_, f2.w.tr j2.w, j3⟩
        rw [e_X9_readSmall]
        simp (disch := omega) only [q_X9_readSmall_0, q_X9_readSmall_1, q_X9_readSmall_3, q_X9_readSmall_4, q_X9_readSmall_7, q_X9_readSmall_10, q_X9_readSmall_11, q_X9_readSmall_12, q_X9_readSmall_15, q_X9_readSmall_18, q_X9_readSmall_21, q_X9_readSmall_24, q_X9_readSmall_25, q_X9_readSmall_26, q_X9_readSmall_27, q_X9_readSmall_29, q_X9_readSmall_32, q_X9_readSmall_33, q_X9_readSmall_34, q_X9_readSmall_38, q_X9_readSmall_39, q_X9_readSmall_42, q_X9_readSmall_43, q_X9_readSmall_46, q_X9_readSmall_49, q_X9_readSmall_50, q_X9_readSmall_51, q_X9_readSmall_52, q_X9_readSmall_55, q_X9_readSmall_56, q_X9_readSmall_57, q_X9_readSmall_60, q_X9_readSmall_62, q_X9_readSmall_64, q_X9_readSmall_67, q_X9_readSmall_70, q_X9_readSmall_71_b, q_X9_readSmall_71_0, q_X9_readSmall_71_1, q_X9_readSmall_72, q_X9_readSmall_73, q_X9_readSmall_76, q_X9_readSmall_78, q_X9_readSmall_79, q_X9_readSmall_81, q_X9_readSmall_82, q_X9_readSmall_83, q_X9_readSmall_86, q_X9_readSmall_89, q_X9_readSmall_90, q_X9_readSmall_93, q_X9_readSmall_96, q_X9_readSmall_97, q_X9_readSmall_100, q_X9_readSmall_101_b, q_X9_readSmall_101_0, q_X9_readSmall_101_1, nI_add, pI_le, pI_lt, pI_eq, pI_neg, pI_nn, pI_le0, pI_gt0, pI_eq0, xbV_s, xbU_s, if_true, if_false, bI_eq0, Nat.reduceAdd, Nat.reduceSub, Nat.reduceEqDiff, Nat.reduceLeDiff, Nat.reduceLT, Bool.true_eq_false, Bool.false_eq_true, k9, f1, pI_ne9, j1]
        rw [q_X9_readSmall_36]
        simp (disch := omega) only [q_X9_readSmall_0, q_X9_readSmall_1, q_X9_readSmall_3, q_X9_readSmall_4, q_X9_readSmall_7, q_X9_readSmall_10, q_X9_readSmall_11, q_X9_readSmall_12, q_X9_readSmall_15, q_X9_readSmall_18, q_X9_readSmall_21, q_X9_readSmall_24, q_X9_readSmall_25, q_X9_readSmall_26, q_X9_readSmall_27, q_X9_readSmall_29, q_X9_readSmall_32, q_X9_readSmall_33, q_X9_readSmall_34, q_X9_readSmall_38, q_X9_readSmall_39, q_X9_readSmall_42, q_X9_readSmall_43, q_X9_readSmall_46, q_X9_readSmall_49, q_X9_readSmall_50, q_X9_readSmall_51, q_X9_readSmall_52, q_X9_readSmall_55, q_X9_readSmall_56, q_X9_readSmall_57, q_X9_readSmall_60, q_X9_readSmall_62, q_X9_readSmall_64, q_X9_readSmall_67, q_X9_readSmall_70, q_X9_readSmall_71_b, q_X9_readSmall_71_0, q_X9_readSmall_71_1, q_X9_readSmall_72, q_X9_readSmall_73, q_X9_readSmall_76, q_X9_readSmall_78, q_X9_readSmall_79, q_X9_readSmall_81, q_X9_readSmall_82, q_X9_readSmall_83, q_X9_readSmall_86, q_X9_readSmall_89, q_X9_readSmall_90, q_X9_readSmall_93, q_X9_readSmall_96, q_X9_readSmall_97, q_X9_readSmall_100, q_X9_readSmall_101_b, q_X9_readSmall_101_0, q_X9_readSmall_101_1, nI_add, pI_le, pI_lt, pI_eq, pI_neg, pI_nn, pI_le0, pI_gt0, pI_eq0, xbV_s, xbU_s, if_true, if_false, bI_eq0, Nat.reduceAdd, Nat.reduceSub, Nat.reduceEqDiff, Nat.reduceLeDiff, Nat.reduceLT, Bool.true_eq_false, Bool.false_eq_true, n0]
        rfl
    · obtain ⟨r, hc3, hm3⟩ := rs_l hL ht (n := n) (lo := lo) (wd := wd) hn hv2 hw2 n 0 p2 (fun _ => 0) (by omega) hp2 (fun j hj => absurd hj (Nat.not_lt_zero _))
      refine ⟨r, fun I h => ?_, fun I h => ?_⟩
      · obtain ⟨I1, f1, f2, f3⟩ := hc I n h
        obtain ⟨I2, j1, j2, j3⟩ := hc2 I1 n f3
        obtain ⟨I', g1, g2⟩ := hc3 I2 j3 (fun j hj => absurd hj (Nat.not_lt_zero _))
        refine ⟨I', ?_, f2.w.tr (j2.w.tr g2.1), g2.2⟩
        rw [e_X3_readSmall]
        simp (disch := omega) only [q_X3_readSmall_0, q_X3_readSmall_1, q_X3_readSmall_4, q_X3_readSmall_5, q_X3_readSmall_6, q_X3_readSmall_7, q_X3_readSmall_8, q_X3_readSmall_10, q_X3_readSmall_13, q_X3_readSmall_14, q_X3_readSmall_15, nI_add, pI_le, pI_lt, pI_eq, pI_neg, pI_nn, pI_le0, pI_gt0, pI_eq0, xbV_s, xbU_s, if_true, if_false, bI_eq0, Nat.reduceAdd, Nat.reduceSub, Nat.reduceEqDiff, Nat.reduceLeDiff, Nat.reduceLT, Bool.true_eq_false, Bool.false_eq_true, k3, s3_val (r := (none, I)) f1, j1]
        exact g1
      · obtain ⟨I1, f1, f2, f3⟩ := hm I h
        obtain ⟨I2, j1, j2, j3⟩ := hm2 I1 f3
        obtain ⟨I', g1, g2⟩ := hm3 I2 none j3 (fun j hj => absurd hj (Nat.not_lt_zero _))
        refine ⟨I', ?_, f2.w.tr (j2.w.tr g2.1), g2.2⟩
        rw [e_X9_readSmall]
        simp (disch := omega) only [q_X9_readSmall_0, q_X9_readSmall_1, q_X9_readSmall_3, q_X9_readSmall_4, q_X9_readSmall_7, q_X9_readSmall_10, q_X9_readSmall_11, q_X9_readSmall_12, q_X9_readSmall_15, q_X9_readSmall_18, q_X9_readSmall_21, q_X9_readSmall_24, q_X9_readSmall_25, q_X9_readSmall_26, q_X9_readSmall_27, q_X9_readSmall_29, q_X9_readSmall_32, q_X9_readSmall_33, q_X9_readSmall_34, nI_add, pI_le, pI_lt, pI_eq, pI_neg, pI_nn, pI_le0, pI_gt0, pI_eq0, xbV_s, xbU_s, if_true, if_false, bI_eq0, Nat.reduceAdd, Nat.reduceSub, Nat.reduceEqDiff, Nat.reduceLeDiff, Nat.reduceLT, Bool.true_eq_false, Bool.false_eq_true, k9, f1, pI_ne9, j1]
        exact g1
/-! words -/
theorem rw_E1 {n e wc : Nat} (hwc : wc ≤ 12) (he : e ≤ 200) : ∀ d k (I : xMem) (l : Option Value), k + d = wc → I 163 4 = nI n → I 163 6 = nI e → ∃ I', xgo k_X3_readWords 13 [some (.ref 163), some (.int (nI wc)), some (.int (nI k)), l] [] I = xgo k_X3_readWords 36 [some (.ref 163), some (.int (nI wc)), some (.int (nI wc)), l] [] I' ∧ tGw I I' ∧ I' 163 4 = nI n ∧ I' 163 6 = nI e := by
  have k3 := x163
  have kr := w168.1
  intro d
  induction d with
  | zero =>
    intro k I l hk h4 h6
    have e1 : k = wc := by omega
    refine ⟨I, ?_, tGw.rf, h4, h6⟩
    rw [e1, q_X3_readWords_13]
    simp (disch := omega) only [q_X3_readWords_14, q_X3_readWords_15, q_X3_readWords_18, q_X3_readWords_19, q_X3_readWords_22, q_X3_readWords_23, q_X3_readWords_24, q_X3_readWords_27, q_X3_readWords_30, q_X3_readWords_33, nI_add, pI_le, pI_lt, pI_eq, pI_neg, pI_nn, pI_le0, pI_gt0, pI_eq0, xbV_s, xbU_s, if_true, if_false, bI_eq0, Nat.reduceAdd, Nat.reduceSub, Nat.reduceEqDiff, Nat.reduceLeDiff, Nat.reduceLT, Bool.true_eq_false, Bool.false_eq_true, Nat.le_refl]
  | succ d ih =>
    intro k I l hk h4 h6
    have n1 : ¬ wc ≤ k := by omega
    obtain ⟨I', f1, f2, f3⟩ := ih (k + 1) (xup I 169 k (nI 0)) l (by omega) (by rw [xup_o (by omega)]; exact h4) (by rw [xup_o (by omega)]; exact h6)
    refine ⟨I', ?_, (tGw.rf.up (Or.inr rfl)).tr f2, f3⟩
    rw [q_X3_readWords_13]
    simp (disch := omega) only [q_X3_readWords_14, q_X3_readWords_15, q_X3_readWords_18, q_X3_readWords_19, q_X3_readWords_22, q_X3_readWords_23, q_X3_readWords_24, q_X3_readWords_27, q_X3_readWords_30, q_X3_readWords_33, nI_add, pI_le, pI_lt, pI_eq, pI_neg, pI_nn, pI_le0, pI_gt0, pI_eq0, xbV_s, xbU_s, if_true, if_false, bI_eq0, Nat.reduceAdd, Nat.reduceSub, Nat.reduceEqDiff, Nat.reduceLeDiff, Nat.reduceLT, Bool.true_eq_false, Bool.false_eq_true, k3, kr, r163_2, n1, s3_valE h6 he, s_set w168]
    exact f1
theorem rw_E2 {n e wc wd : Nat} (hn : n ≤ 12) (he : e ≤ 200) (hwc1 : 1 ≤ wc) (hwc : wc ≤ 12) (hwd : wd ≤ 12) : ∀ d k (I : xMem), k + d = n → I 163 4 = nI n → I 163 6 = nI e → ∃ I', xgo k_X3_readWords 45 [some (.ref 163), some (.int (nI wc)), some (.int (nI wd)), some (.int (nI k))] [] I = some (.inl none, I') ∧ tGw I I' ∧ I' 163 6 = nI e := by
  have k3 := x163
  have kr := w166.1
  have ks := w168.1
  intro d
  induction d with
  | zero =>
    intro k I hk h4 h6
    have e1 : k = n := by omega
    refine ⟨I, ?_, tGw.rf, h6⟩
    rw [e1, q_X3_readWords_45]
    simp (disch := omega) only [q_X3_readWords_0, q_X3_readWords_1, q_X3_readWords_2, q_X3_readWords_3, q_X3_readWords_4, q_X3_readWords_7, q_X3_readWords_10, q_X3_readWords_11, q_X3_readWords_12, q_X3_readWords_14, q_X3_readWords_15, q_X3_readWords_18, q_X3_readWords_19, q_X3_readWords_22, q_X3_readWords_23, q_X3_readWords_24, q_X3_readWords_27, q_X3_readWords_30, q_X3_readWords_33, q_X3_readWords_36, q_X3_readWords_37, q_X3_readWords_38, q_X3_readWords_39, q_X3_readWords_42, q_X3_readWords_43, q_X3_readWords_44, q_X3_readWords_46, q_X3_readWords_47, q_X3_readWords_50, q_X3_readWords_53, q_X3_readWords_54, q_X3_readWords_57, q_X3_readWords_58, q_X3_readWords_59, q_X3_readWords_62, q_X3_readWords_63, q_X3_readWords_64, q_X3_readWords_65, q_X3_readWords_66, q_X3_readWords_67, q_X3_readWords_68, q_X3_readWords_71, q_X3_readWords_74, q_X3_readWords_77, q_X3_readWords_80, q_X3_readWords_83, nI_add, pI_le, pI_lt, pI_eq, pI_neg, pI_nn, pI_le0, pI_gt0, pI_eq0, xbV_s, xbU_s, if_true, if_false, bI_eq0, Nat.reduceAdd, Nat.reduceSub, Nat.reduceEqDiff, Nat.reduceLeDiff, Nat.reduceLT, Bool.true_eq_false, Bool.false_eq_true, k3, h4, Nat.le_refl]
  | succ d ih =>
    intro k I hk h4 h6
    have n1 : ¬ n ≤ k := by omega
    have e1 : nI wc - nI 1 = nI (wc - 1) := pI_sub hwc1
    obtain ⟨I', f1, f2, f3⟩ := ih (k + 1) (xup I 167 k (I 169 0)) (by omega) (by rw [xup_o (by omega)]; exact h4) (by rw [xup_o (by omega)]; exact h6)
    refine ⟨I', ?_, (tGw.rf.up (Or.inl rfl)).tr f2, f3⟩
    rw [q_X3_readWords_45]
    simp (disch := omega) only [q_X3_readWords_0, q_X3_readWords_1, q_X3_readWords_2, q_X3_readWords_3, q_X3_readWords_4, q_X3_readWords_7, q_X3_readWords_10, q_X3_readWords_11, q_X3_readWords_12, q_X3_readWords_14, q_X3_readWords_15, q_X3_readWords_18, q_X3_readWords_19, q_X3_readWords_22, q_X3_readWords_23, q_X3_readWords_24, q_X3_readWords_27, q_X3_readWords_30, q_X3_readWords_33, q_X3_readWords_36, q_X3_readWords_37, q_X3_readWords_38, q_X3_readWords_39, q_X3_readWords_42, q_X3_readWords_43, q_X3_readWords_44, q_X3_readWords_46, q_X3_readWords_47, q_X3_readWords_50, q_X3_readWords_53, q_X3_readWords_54, q_X3_readWords_57, q_X3_readWords_58, q_X3_readWords_59, q_X3_readWords_62, q_X3_readWords_63, q_X3_readWords_64, q_X3_readWords_65, q_X3_readWords_66, q_X3_readWords_67, q_X3_readWords_68, q_X3_readWords_71, q_X3_readWords_74, q_X3_readWords_77, q_X3_readWords_80, q_X3_readWords_83, nI_add, pI_le, pI_lt, pI_eq, pI_neg, pI_nn, pI_le0, pI_gt0, pI_eq0, xbV_s, xbU_s, if_true, if_false, bI_eq0, Nat.reduceAdd, Nat.reduceSub, Nat.reduceEqDiff, Nat.reduceLeDiff, Nat.reduceLT, Bool.true_eq_false, Bool.false_eq_true, k3, kr, ks, r163_1, r163_2, h4, n1, e1, s3_numE (wd := wd) (lo := 0) (hi := wc - 1) hwd h6 he, s_get w168, s_set w166]
    exact f1
/-- the error's way through the rest of readWords -/
theorem rw_E {n e wc k : Nat} {l : Option Value} {I : xMem} (hn : n ≤ 12) (he : e ≤ 200) (hwc1 : 1 ≤ wc) (hwc : wc ≤ 12) (hk : k ≤ wc) (h4 : I 163 4 = nI n) (h6 : I 163 6 = nI e) : ∃ I', xgo k_X3_readWords 13 [some (.ref 163), some (.int (nI wc)), some (.int (nI k)), l] [] I = some (.inl none, I') ∧ tGw I I' ∧ I' 163 6 = nI e := by
  obtain ⟨I1, f1, f2, f3, f4⟩ := rw_E1 hwc he (wc - k) k I l (by omega) h4 h6
  have hb : pWd (wc - 1) ≤ 4 := pWd4 (by omega)
  obtain ⟨I', g1, g2, g3⟩ := rw_E2 (wd := pWd (wc - 1)) hn he hwc1 hwc (by omega) n 0 I1 (by omega) f3 f4
  have e1 : nI wc - nI 1 = nI (wc - 1) := pI_sub hwc1
  refine ⟨I', ?_, f2.tr g2, g3⟩
  rw [f1]
  simp (disch := omega) only [q_X3_readWords_36, q_X3_readWords_37, q_X3_readWords_38, q_X3_readWords_39, q_X3_readWords_42, q_X3_readWords_43, q_X3_readWords_44, nI_add, pI_le, pI_lt, pI_eq, pI_neg, pI_nn, pI_le0, pI_gt0, pI_eq0, xbV_s, xbU_s, if_true, if_false, bI_eq0, Nat.reduceAdd, Nat.reduceSub, Nat.reduceEqDiff, Nat.reduceLeDiff, Nat.reduceLT, Bool.true_eq_false, Bool.false_eq_true, e1, s8_width (v := wc - 1) (by omega)]
  exact g1
theorem rw_l2 (hL : L ≤ 160) (ht : ∀ j, j < L → t j ≤ 255) {n wc : Nat} {u : Nat → Nat} (hn : n ≤ 12) (hwc1 : 1 ≤ wc) (hwc : wc ≤ 12) (hu : ∀ j, j < wc → u j ≤ 1023) : ∀ d k p (w : Nat → Nat), k + d = n → p ≤ L → (∀ j, j < k → w j ≤ 1023) → ∃ r : rO, (∀ I, cG I t L n p → (∀ j, j < wc → I 169 j = nI (u j)) → (∀ j, j < k → I 167 j = nI (w j)) → ∃ I', xgo k_X3_readWords 45 [some (.ref 163), some (.int (nI wc)), some (.int (nI (pWd (wc - 1)))), some (.int (nI k))] [] I = some (.inl none, I') ∧ cOut I I' L n r) ∧ (∀ I (l : Option Value), mG I t L p → (∀ j, j < wc → I 199 j = nI (u j)) → (∀ j, j < k → I 198 j = nI (w j)) → ∃ I', xgo k_X9_readWords 53 [some (.ref 189), some (.int (nI n)), some (.int (nI wc)), some (.int (nI k)), l] [] I = some (.inl (some (.int (bI (rOk r)))), I') ∧ mOut I I' n r) := by
  have k3 := x163
  have kr := w166.1
  have ks := w168.1
  have k9 := x189
  have k98 := x198
  have l98 := l198
  have k99 := x199
  have l99 := l199
  have e1 : nI wc - nI 1 = nI (wc - 1) := pI_sub hwc1
  have hb : pWd (wc - 1) ≤ 4 := pWd4 (by omega)
  intro d
  induction d with
  | zero =>
    intro k p w hk hp hw
    have e1 : k = n := by omega
    refine ⟨.inr (p, w), fun I h hu hv => ⟨I, ?_, tGw.rf, h.2.2.2, h.2.2.1, hp, fun j hj => ⟨hv j (by omega), hw j (by omega)⟩⟩, fun I l h hu hv => ⟨I, ?_, mGw.rf, h.2, fun j hj => hv j (by omega)⟩⟩
    · have h4 := h.2.1
      rw [e1, q_X3_readWords_45]
      simp (disch := omega) only [q_X3_readWords_0, q_X3_readWords_1, q_X3_readWords_2, q_X3_readWords_3, q_X3_readWords_4, q_X3_readWords_7, q_X3_readWords_10, q_X3_readWords_11, q_X3_readWords_12, q_X3_readWords_14, q_X3_readWords_15, q_X3_readWords_18, q_X3_readWords_19, q_X3_readWords_22, q_X3_readWords_23, q_X3_readWords_24, q_X3_readWords_27, q_X3_readWords_30, q_X3_readWords_33, q_X3_readWords_36, q_X3_readWords_37, q_X3_readWords_38, q_X3_readWords_39, q_X3_readWords_42, q_X3_readWords_43, q_X3_readWords_44, q_X3_readWords_46, q_X3_readWords_47, q_X3_readWords_50, q_X3_readWords_53, q_X3_readWords_54, q_X3_readWords_57, q_X3_readWords_58, q_X3_readWords_59, q_X3_readWords_62, q_X3_readWords_63, q_X3_readWords_64, q_X3_readWords_65, q_X3_readWords_66, q_X3_readWords_67, q_X3_readWords_68, q_X3_readWords_71, q_X3_readWords_74, q_X3_readWords_77, q_X3_readWords_80, q_X3_readWords_83, nI_add, pI_le, pI_lt, pI_eq, pI_neg, pI_nn, pI_le0, pI_gt0, pI_eq0, xbV_s, xbU_s, if_true, if_false, bI_eq0, Nat.reduceAdd, Nat.reduceSub, Nat.reduceEqDiff, Nat.reduceLeDiff, Nat.reduceLT, Bool.true_eq_false, Bool.false_eq_true, k3, h4, Nat.le_refl]
    · rw [e1, q_X9_readWords_53]
      simp (disch := omega) only [q_X9_readWords_0, q_X9_readWords_1, q_X9_readWords_2, q_X9_readWords_3, q_X9_readWords_4, q_X9_readWords_7, q_X9_readWords_8, q_X9_readWords_9, q_X9_readWords_11, q_X9_readWords_12, q_X9_readWords_15, q_X9_readWords_16, q_X9_readWords_19, q_X9_readWords_20, q_X9_readWords_21, q_X9_readWords_23, q_X9_readWords_24, q_X9_readWords_27, q_X9_readWords_30, q_X9_readWords_31, q_X9_readWords_32, q_X9_readWords_35, q_X9_readWords_36, q_X9_readWords_37, q_X9_readWords_40, q_X9_readWords_43, q_X9_readWords_44_b, q_X9_readWords_44_0, q_X9_readWords_44_1, q_X9_readWords_45, q_X9_readWords_48, q_X9_readWords_51, q_X9_readWords_52, q_X9_readWords_54, q_X9_readWords_55, q_X9_readWords_58, q_X9_readWords_59, q_X9_readWords_62, q_X9_readWords_65, q_X9_readWords_66, q_X9_readWords_67, q_X9_readWords_68, q_X9_readWords_69, q_X9_readWords_72, q_X9_readWords_73, q_X9_readWords_74, q_X9_readWords_75, q_X9_readWords_76, q_X9_readWords_79, q_X9_readWords_81, q_X9_readWords_83, q_X9_readWords_86, q_X9_readWords_89, q_X9_readWords_90_b, q_X9_readWords_90_0, q_X9_readWords_90_1, q_X9_readWords_91, q_X9_readWords_92, q_X9_readWords_95, q_X9_readWords_96, q_X9_readWords_97, q_X9_readWords_100, q_X9_readWords_102, q_X9_readWords_103, q_X9_readWords_104, q_X9_readWords_107, q_X9_readWords_110, q_X9_readWords_111, q_X9_readWords_114, q_X9_readWords_117, q_X9_readWords_118, q_X9_readWords_121, q_X9_readWords_122_b, q_X9_readWords_122_0, q_X9_readWords_122_1, nI_add, pI_le, pI_lt, pI_eq, pI_neg, pI_nn, pI_le0, pI_gt0, pI_eq0, xbV_s, xbU_s, if_true, if_false, bI_eq0, Nat.reduceAdd, Nat.reduceSub, Nat.reduceEqDiff, Nat.reduceLeDiff, Nat.reduceLT, Bool.true_eq_false, Bool.false_eq_true, Nat.le_refl, pI_ne9]
      rfl
  | succ d ih =>
    intro k p w hk hp hw
    have n1 : ¬ n ≤ k := by omega
    rcases num2 hL ht (wd := pWd (wc - 1)) (lo := 0) (hi := wc - 1) (p := p) (by omega) (by omega) (by omega) hp (by omega) with ⟨e, he, hc, hm⟩ | ⟨v, p', hv1, hv2, hp', hc, hm⟩
    · refine ⟨.inl e, fun I h hu hv => ?_, fun I l h hu hv => ?_⟩
      · obtain ⟨I1, f1, f2, f3⟩ := hc I n h
        have h4 := h.2.1
        obtain ⟨I', g1, g2, g3⟩ := rw_E2 (n := n) (e := e) (wc := wc) (wd := pWd (wc - 1)) hn (by omega) hwc1 hwc (by omega) d (k + 1) (xup I1 167 k (I1 169 0)) (by omega) (by rw [xup_o (by omega), f2.2 4 (by omega) (by omega)]; exact h4) (by rw [xup_o (by omega)]; exact f3)
        refine ⟨I', ?_, (f2.w.up (Or.inl rfl)).tr g2, g3, he⟩
        rw [q_X3_readWords_45]
        simp (disch := omega) only [q_X3_readWords_0, q_X3_readWords_1, q_X3_readWords_2, q_X3_readWords_3, q_X3_readWords_4, q_X3_readWords_7, q_X3_readWords_10, q_X3_readWords_11, q_X3_readWords_12, q_X3_readWords_14, q_X3_readWords_15, q_X3_readWords_18, q_X3_readWords_19, q_X3_readWords_22, q_X3_readWords_23, q_X3_readWords_24, q_X3_readWords_27, q_X3_readWords_30, q_X3_readWords_33, q_X3_readWords_36, q_X3_readWords_37, q_X3_readWords_38, q_X3_readWords_39, q_X3_readWords_42, q_X3_readWords_43, q_X3_readWords_44, q_X3_readWords_46, q_X3_readWords_47, q_X3_readWords_50, q_X3_readWords_53, q_X3_readWords_54, q_X3_readWords_57, q_X3_readWords_58, q_X3_readWords_59, q_X3_readWords_62, q_X3_readWords_63, q_X3_readWords_64, q_X3_readWords_65, q_X3_readWords_66, q_X3_readWords_67, q_X3_readWords_68, q_X3_readWords_71, q_X3_readWords_74, q_X3_readWords_77, q_X3_readWords_80, q_X3_readWords_83, nI_add, pI_le, pI_lt, pI_eq, pI_neg, pI_nn, pI_le0, pI_gt0, pI_eq0, xbV_s, xbU_s, if_true, if_false, bI_eq0, Nat.reduceAdd, Nat.reduceSub, Nat.reduceEqDiff, Nat.reduceLeDiff, Nat.reduceLT, Bool.true_eq_false, Bool.false_eq_true, k3, kr, ks, r163_1, r163_2, h4, n1, e1, f1, s_get w168, s_set w166]
        exact g1
      · obtain ⟨I1, f1, f2, f3⟩ := hm I h
        refine ⟨I1, ?_, f2.w, f3⟩
        rw [q_X9_readWords_53]
        simp (disch := omega) only [q_X9_readWords_0, q_X9_readWords_1, q_X9_readWords_2, q_X9_readWords_3, q_X9_readWords_4, q_X9_readWords_7, q_X9_readWords_8, q_X9_readWords_9, q_X9_readWords_11, q_X9_readWords_12, q_X9_readWords_15, q_X9_readWords_16, q_X9_readWords_19, q_X9_readWords_20, q_X9_readWords_21, q_X9_readWords_23, q_X9_readWords_24, q_X9_readWords_27, q_X9_readWords_30, q_X9_readWords_31, q_X9_readWords_32, q_X9_readWords_35, q_X9_readWords_36, q_X9_readWords_37, q_X9_readWords_40, q_X9_readWords_43, q_X9_readWords_44_b, q_X9_readWords_44_0, q_X9_readWords_44_1, q_X9_readWords_45, q_X9_readWords_48, q_X9_readWords_51, q_X9_readWords_52, q_X9_readWords_54, q_X9_readWords_55, q_X9_readWords_58, q_X9_readWords_59, q_X9_readWords_62, q_X9_readWords_65, q_X9_readWords_66, q_X9_readWords_67, q_X9_readWords_68, q_X9_readWords_69, q_X9_readWords_72, q_X9_readWords_73, q_X9_readWords_74, q_X9_readWords_75, q_X9_readWords_76, q_X9_readWords_79, q_X9_readWords_81, q_X9_readWords_83, q_X9_readWords_86, q_X9_readWords_89, q_X9_readWords_90_b, q_X9_readWords_90_0, q_X9_readWords_90_1, q_X9_readWords_91, q_X9_readWords_92, q_X9_readWords_95, q_X9_readWords_96, q_X9_readWords_97, q_X9_readWords_100, q_X9_readWords_102, q_X9_readWords_103, q_X9_readWords_104, q_X9_readWords_107, q_X9_readWords_110, q_X9_readWords_111, q_X9_readWords_114, q_X9_readWords_117, q_X9_readWords_118, q_X9_readWords_121, q_X9_readWords_122_b, q_X9_readWords_122_0, q_X9_readWords_122_1, nI_add, pI_le, pI_lt, pI_eq, pI_neg, pI_nn, pI_le0, pI_gt0, pI_eq0, xbV_s, xbU_s, if_true, if_false, bI_eq0, Nat.reduceAdd, Nat.reduceSub, Nat.reduceEqDiff, Nat.reduceLeDiff, Nat.reduceLT, Bool.true_eq_false, Bool.false_eq_true, n1, k9, pI_ne9, e1, s9_width (v := wc - 1) (by omega), f1]
        rfl
    · have hv3 : v < wc := by omega
      obtain ⟨r, hc2, hm2⟩ := ih (k + 1) p' (nup w k (u v)) (by omega) hp' (fun j hj => by
        unfold nup
        split
        · exact hu v hv3
        · exact hw j (by omega))
      refine ⟨r, fun I h hu hv => ?_, fun I l h hu hv => ?_⟩
      · obtain ⟨I1, f1, f2, f3⟩ := hc I n h
        have h4 := h.2.1
        have g9 : I1 169 v = nI (u v) := by rw [f2.1 169 (by omega)]; exact hu v hv3
        obtain ⟨I', g1, g2⟩ := hc2 (xup I1 167 k (nI (u v))) (f3.go (tGw.rf.up (Or.inl rfl)) (by rw [xup_o (by omega)]; exact f3.2.2.1) (by rw [xup_o (by omega)]; exact f3.2.2.2) (by rw [xup_o (by omega)])) (fun j hj => by rw [xup_o (by omega), f2.1 169 (by omega)]; exact hu j hj) (fun j hj => by
          unfold nup
          by_cases q : j = k
          · rw [if_pos q, q, xup_s]
          · rw [if_neg q, xup_d q, f2.1 167 (by omega)]; exact hv j (by omega))
        refine ⟨I', ?_, (f2.w.up (Or.inl rfl)).tr g2.1, g2.2⟩
        rw [q_X3_readWords_45]
        simp (disch := omega) only [q_X3_readWords_0, q_X3_readWords_1, q_X3_readWords_2, q_X3_readWords_3, q_X3_readWords_4, q_X3_readWords_7, q_X3_readWords_10, q_X3_readWords_11, q_X3_readWords_12, q_X3_readWords_14, q_X3_readWords_15, q_X3_readWords_18, q_X3_readWords_19, q_X3_readWords_22, q_X3_readWords_23, q_X3_readWords_24, q_X3_readWords_27, q_X3_readWords_30, q_X3_readWords_33, q_X3_readWords_36, q_X3_readWords_37, q_X3_readWords_38, q_X3_readWords_39, q_X3_readWords_42, q_X3_readWords_43, q_X3_readWords_44, q_X3_readWords_46, q_X3_readWords_47, q_X3_readWords_50, q_X3_readWords_53, q_X3_readWords_54, q_X3_readWords_57, q_X3_readWords_58, q_X3_readWords_59, q_X3_readWords_62, q_X3_readWords_63, q_X3_readWords_64, q_X3_readWords_65, q_X3_readWords_66, q_X3_readWords_67, q_X3_readWords_68, q_X3_readWords_71, q_X3_readWords_74, q_X3_readWords_77, q_X3_readWords_80, q_X3_readWords_83, nI_add, pI_le, pI_lt, pI_eq, pI_neg, pI_nn, pI_le0, pI_gt0, pI_eq0, xbV_s, xbU_s, if_true, if_false, bI_eq0, Nat.reduceAdd, Nat.reduceSub, Nat.reduceEqDiff, Nat.reduceLeDiff, Nat.reduceLT, Bool.true_eq_false, Bool.false_eq_true, k3, kr, ks, r163_1, r163_2, h4, n1, e1, f1, s_get w168, g9, s_set w166]
        exact g1
      · obtain ⟨I1, f1, f2, f3⟩ := hm I h
        have g9 : I1 199 v = nI (u v) := by rw [f2.1 199 (by omega)]; exact hu v hv3
        obtain ⟨I', g1, g2⟩ := hm2 (xup I1 198 k (nI (u v))) (some (.int (nI v))) (f3.go (mGw.rf.up (Or.inl rfl)) (by rw [xup_o (by omega)]; exact f3.2) (by rw [xup_o (by omega)])) (fun j hj => by rw [xup_o (by omega), f2.1 199 (by omega)]; exact hu j hj) (fun j hj => by
          unfold nup
          by_cases q : j = k
          · rw [if_pos q, q, xup_s]
          · rw [if_neg q, xup_d q, f2.1 198 (by omega)]; exact hv j (by omega))
        refine ⟨I', ?_, (f2.w.up (Or.inl rfl)).tr g2.1, g2.2⟩
        rw [q_X9_readWords_53]
        simp (disch := omega) only [q_X9_readWords_0, q_X9_readWords_1, q_X9_readWords_2, q_X9_readWords_3, q_X9_readWords_4, q_X9_readWords_7, q_X9_readWords_8, q_X9_readWords_9, q_X9_readWords_11, q_X9_readWords_12, q_X9_readWords_15, q_X9_readWords_16, q_X9_readWords_19, q_X9_readWords_20, q_X9_readWords_21, q_X9_readWords_23, q_X9_readWords_24, q_X9_readWords_27, q_X9_readWords_30, q_X9_readWords_31, q_X9_readWords_32, q_X9_readWords_35, q_X9_readWords_36, q_X9_readWords_37, q_X9_readWords_40, q_X9_readWords_43, q_X9_readWords_44_b, q_X9_readWords_44_0, q_X9_readWords_44_1, q_X9_readWords_45, q_X9_readWords_48, q_X9_readWords_51, q_X9_readWords_52, q_X9_readWords_54, q_X9_readWords_55, q_X9_readWords_58, q_X9_readWords_59, q_X9_readWords_62, q_X9_readWords_65, q_X9_readWords_66, q_X9_readWords_67, q_X9_readWords_68, q_X9_readWords_69, q_X9_readWords_72, q_X9_readWords_73, q_X9_readWords_74, q_X9_readWords_75, q_X9_readWords_76, q_X9_readWords_79, q_X9_readWords_81, q_X9_readWords_83, q_X9_readWords_86, q_X9_readWords_89, q_X9_readWords_90_b, q_X9_readWords_90_0, q_X9_readWords_90_1, q_X9_readWords_91, q_X9_readWords_92, q_X9_readWords_95, q_X9_readWords_96, q_X9_readWords_97, q_X9_readWords_100, q_X9_readWords_102, q_X9_readWords_103, q_X9_readWords_104, q_X9_readWords_107, q_X9_readWords_110, q_X9_readWords_111, q_X9_readWords_114, q_X9_readWords_117, q_X9_readWords_118, q_X9_readWords_121, q_X9_readWords_122_b, q_X9_readWords_122_0, q_X9_readWords_122_1, nI_add, pI_le, pI_lt, pI_eq, pI_neg, pI_nn, pI_le0, pI_gt0, pI_eq0, xbV_s, xbU_s, if_true, if_false, bI_eq0, Nat.reduceAdd, Nat.reduceSub, Nat.reduceEqDiff, Nat.reduceLeDiff, Nat.reduceLT, Bool.true_eq_false, Bool.false_eq_true, n1, k9, k98, l98, k99, l99, r9_13, r9_14, pI_ne9, e1, s9_width (v := wc - 1) (by omega), f1, g9]
        exact g1
theorem rw_l1 (hL : L ≤ 160) (ht : ∀ j, j < L → t j ≤ 255) {n wc : Nat} (hn : n ≤ 12) (hwc1 : 1 ≤ wc) (hwc : wc ≤ 12) : ∀ d k p (u : Nat → Nat), k + d = wc → p ≤ L → (∀ j, j < k → u j ≤ 1023) → ∃ r : rO, (∀ I (l : Option Value), cG I t L n p → (∀ j, j < k → I 169 j = nI (u j)) → ∃ I', xgo k_X3_readWords 13 [some (.ref 163), some (.int (nI wc)), some (.int (nI k)), l] [] I = some (.inl none, I') ∧ cOut I I' L n r) ∧ (∀ I (l : Option Value), mG I t L p → (∀ j, j < k → I 199 j = nI (u j)) → ∃ I', xgo k_X9_readWords 10 [some (.ref 189), some (.int (nI n)), some (.int (nI wc)), some (.int (nI k)), l] [] I = some (.inl (some (.int (bI (rOk r)))), I') ∧ mOut I I' n r) := by
  have k3 := x163
  have ks := w168.1
  have k9 := x189
  have k99 := x199
  have l99 := l199
  have e1 : nI wc - nI 1 = nI (wc - 1) := pI_sub hwc1
  intro d
  induction d with
  | zero =>
    intro k p u hk hp hw
    have ek : k = wc := by omega
    obtain ⟨r, hc2, hm2⟩ := rw_l2 hL ht (u := u) hn hwc1 hwc (fun j hj => hw j (by omega)) n 0 p (fun _ => 0) (by omega) hp (fun j hj => absurd hj (Nat.not_lt_zero _))
    refine ⟨r, fun I l h hv => ?_, fun I l h hv => ?_⟩
    · obtain ⟨I', g1, g2⟩ := hc2 I h (fun j hj => hv j (by omega)) (fun j hj => absurd hj (Nat.not_lt_zero _))
      refine ⟨I', ?_, g2⟩
      rw [ek, q_X3_readWords_13]
      simp (disch := omega) only [q_X3_readWords_14, q_X3_readWords_15, q_X3_readWords_18, q_X3_readWords_19, q_X3_readWords_22, q_X3_readWords_23, q_X3_readWords_24, q_X3_readWords_27, q_X3_readWords_30, q_X3_readWords_33, q_X3_readWords_36, q_X3_readWords_37, q_X3_readWords_38, q_X3_readWords_39, q_X3_readWords_42, q_X3_readWords_43, q_X3_readWords_44, nI_add, pI_le, pI_lt, pI_eq, pI_neg, pI_nn, pI_le0, pI_gt0, pI_eq0, xbV_s, xbU_s, if_true, if_false, bI_eq0, Nat.reduceAdd, Nat.reduceSub, Nat.reduceEqDiff, Nat.reduceLeDiff, Nat.reduceLT, Bool.true_eq_false, Bool.false_eq_true, Nat.le_refl, e1, s8_width (v := wc - 1) (by omega)]
      exact g1
    · obtain ⟨I', g1, g2⟩ := hm2 I l h (fun j hj => hv j (by omega)) (fun j hj => absurd hj (Nat.not_lt_zero _))
      refine ⟨I', ?_, g2⟩
      rw [ek, q_X9_readWords_10]
      simp (disch := omega) only [q_X9_readWords_11, q_X9_readWords_12, q_X9_readWords_15, q_X9_readWords_16, q_X9_readWords_19, q_X9_readWords_20, q_X9_readWords_21, q_X9_readWords_23, q_X9_readWords_24, q_X9_readWords_27, q_X9_readWords_30, q_X9_readWords_31, q_X9_readWords_32, q_X9_readWords_35, q_X9_readWords_36, q_X9_readWords_37, q_X9_readWords_40, q_X9_readWords_43, q_X9_readWords_44_b, q_X9_readWords_44_0, q_X9_readWords_44_1, q_X9_readWords_45, q_X9_readWords_48, q_X9_readWords_51, q_X9_readWords_52, nI_add, pI_le, pI_lt, pI_eq, pI_neg, pI_nn, pI_le0, pI_gt0, pI_eq0, xbV_s, xbU_s, if_true, if_false, bI_eq0, Nat.reduceAdd, Nat.reduceSub, Nat.reduceEqDiff, Nat.reduceLeDiff, Nat.reduceLT, Bool.true_eq_false, Bool.false_eq_true, Nat.le_refl]
      exact g1
  | succ d ih =>
    intro k p u hk hp hw
    have n1 : ¬ wc ≤ k := by omega
    rcases num2 hL ht (wd := 10) (lo := 0) (hi := 1023) (p := p) (by omega) (by omega) (by omega) hp (by omega) with ⟨e, he, hc, hm⟩ | ⟨v, p', hv1, hv2, hp', hc, hm⟩
    · refine ⟨.inl e, fun I l h hv => ?_, fun I l h hv => ?_⟩
      · obtain ⟨I1, f1, f2, f3⟩ := hc I n h
        have h4 := h.2.1
        obtain ⟨I', g1, g2, g3⟩ := rw_E (n := n) (e := e) (wc := wc) (k := k + 1) (l := l) (I := xup I1 169 k (nI 0)) hn (by omega) hwc1 hwc (by omega) (by rw [xup_o (by omega), f2.2 4 (by omega) (by omega)]; exact h4) (by rw [xup_o (by omega)]; exact f3)
        refine ⟨I', ?_, (f2.w.up (Or.inr rfl)).tr g2, g3, he⟩
        rw [q_X3_readWords_13]
        simp (disch := omega) only [q_X3_readWords_14, q_X3_readWords_15, q_X3_readWords_18, q_X3_readWords_19, q_X3_readWords_22, q_X3_readWords_23, q_X3_readWords_24, q_X3_readWords_27, q_X3_readWords_30, q_X3_readWords_33, nI_add, pI_le, pI_lt, pI_eq, pI_neg, pI_nn, pI_le0, pI_gt0, pI_eq0, xbV_s, xbU_s, if_true, if_false, bI_eq0, Nat.reduceAdd, Nat.reduceSub, Nat.reduceEqDiff, Nat.reduceLeDiff, Nat.reduceLT, Bool.true_eq_false, Bool.false_eq_true, k3, ks, r163_2, n1, s3_val (r := (none, I)) f1, s_set w168]
        exact g1
      · obtain ⟨I1, f1, f2, f3⟩ := hm I h
        refine ⟨xup I1 199 k (-9999), ?_, f2.w.up (Or.inr rfl), by rw [xup_o (by omega)]; exact f3⟩
        rw [q_X9_readWords_10]
        simp (disch := omega) only [q_X9_readWords_0, q_X9_readWords_1, q_X9_readWords_2, q_X9_readWords_3, q_X9_readWords_4, q_X9_readWords_7, q_X9_readWords_8, q_X9_readWords_9, q_X9_readWords_11, q_X9_readWords_12, q_X9_readWords_15, q_X9_readWords_16, q_X9_readWords_19, q_X9_readWords_20, q_X9_readWords_21, q_X9_readWords_23, q_X9_readWords_24, q_X9_readWords_27, q_X9_readWords_30, q_X9_readWords_31, q_X9_readWords_32, q_X9_readWords_35, q_X9_readWords_36, q_X9_readWords_37, q_X9_readWords_40, q_X9_readWords_43, q_X9_readWords_44_b, q_X9_readWords_44_0, q_X9_readWords_44_1, q_X9_readWords_45, q_X9_readWords_48, q_X9_readWords_51, q_X9_readWords_52, q_X9_readWords_54, q_X9_readWords_55, q_X9_readWords_58, q_X9_readWords_59, q_X9_readWords_62, q_X9_readWords_65, q_X9_readWords_66, q_X9_readWords_67, q_X9_readWords_68, q_X9_readWords_69, q_X9_readWords_72, q_X9_readWords_73, q_X9_readWords_74, q_X9_readWords_75, q_X9_readWords_76, q_X9_readWords_79, q_X9_readWords_81, q_X9_readWords_83, q_X9_readWords_86, q_X9_readWords_89, q_X9_readWords_90_b, q_X9_readWords_90_0, q_X9_readWords_90_1, q_X9_readWords_91, q_X9_readWords_92, q_X9_readWords_95, q_X9_readWords_96, q_X9_readWords_97, q_X9_readWords_100, q_X9_readWords_102, q_X9_readWords_103, q_X9_readWords_104, q_X9_readWords_107, q_X9_readWords_110, q_X9_readWords_111, q_X9_readWords_114, q_X9_readWords_117, q_X9_readWords_118, q_X9_readWords_121, q_X9_readWords_122_b, q_X9_readWords_122_0, q_X9_readWords_122_1, nI_add, pI_le, pI_lt, pI_eq, pI_neg, pI_nn, pI_le0, pI_gt0, pI_eq0, xbV_s, xbU_s, if_true, if_false, bI_eq0, Nat.reduceAdd, Nat.reduceSub, Nat.reduceEqDiff, Nat.reduceLeDiff, Nat.reduceLT, Bool.true_eq_false, Bool.false_eq_true, n1, k9, k99, l99, r9_14, f1, xup_s]
        rfl
    · obtain ⟨r, hc2, hm2⟩ := ih (k + 1) p' (nup u k v) (by omega) hp' (fun j hj => by
        unfold nup
        split
        · exact hv2
        · exact hw j (by omega))
      refine ⟨r, fun I l h hv => ?_, fun I l h hv => ?_⟩
      · obtain ⟨I1, f1, f2, f3⟩ := hc I n h
        obtain ⟨I', g1, g2⟩ := hc2 (xup I1 169 k (nI v)) l (f3.go (tGw.rf.up (Or.inr rfl)) (by rw [xup_o (by omega)]; exact f3.2.2.1) (by rw [xup_o (by omega)]; exact f3.2.2.2) (by rw [xup_o (by omega)])) (fun j hj => by
          unfold nup
          by_cases q : j = k
          · rw [if_pos q, q, xup_s]
          · rw [if_neg q, xup_d q, f2.1 169 (by omega)]; exact hv j (by omega))
        refine ⟨I', ?_, (f2.w.up (Or.inr rfl)).tr g2.1, g2.2⟩
        rw [q_X3_readWords_13]
        simp (disch := omega) only [q_X3_readWords_14, q_X3_readWords_15, q_X3_readWords_18, q_X3_readWords_19, q_X3_readWords_22, q_X3_readWords_23, q_X3_readWords_24, q_X3_readWords_27, q_X3_readWords_30, q_X3_readWords_33, nI_add, pI_le, pI_lt, pI_eq, pI_neg, pI_nn, pI_le0, pI_gt0, pI_eq0, xbV_s, xbU_s, if_true, if_false, bI_eq0, Nat.reduceAdd, Nat.reduceSub, Nat.reduceEqDiff, Nat.reduceLeDiff, Nat.reduceLT, Bool.true_eq_false, Bool.false_eq_true, k3, ks, r163_2, n1, s3_val (r := (none, I)) f1, s_set w168]
        exact g1
      · obtain ⟨I1, f1, f2, f3⟩ := hm I h
        obtain ⟨I', g1, g2⟩ := hm2 (xup I1 199 k (nI v)) l (f3.go (mGw.rf.up (Or.inr rfl)) (by rw [xup_o (by omega)]; exact f3.2) (by rw [xup_o (by omega)])) (fun j hj => by
          unfold nup
          by_cases q : j = k
          · rw [if_pos q, q, xup_s]
          · rw [if_neg q, xup_d q, f2.1 199 (by omega)]; exact hv j (by omega))
        refine ⟨I', ?_, (f2.w.up (Or.inr rfl)).tr g2.1, g2.2⟩
        rw [q_X9_readWords_10]
        simp (disch := omega) only [q_X9_readWords_11, q_X9_readWords_12, q_X9_readWords_15, q_X9_readWords_16, q_X9_readWords_19, q_X9_readWords_20, q_X9_readWords_21, q_X9_readWords_23, q_X9_readWords_24, q_X9_readWords_27, q_X9_readWords_30, q_X9_readWords_31, q_X9_readWords_32, q_X9_readWords_35, q_X9_readWords_36, q_X9_readWords_37, q_X9_readWords_40, q_X9_readWords_43, q_X9_readWords_44_b, q_X9_readWords_44_0, q_X9_readWords_44_1, q_X9_readWords_45, q_X9_readWords_48, nI_add, pI_le, pI_lt, pI_eq, pI_neg, pI_nn, pI_le0, pI_gt0, pI_eq0, xbV_s, xbU_s, if_true, if_false, bI_eq0, Nat.reduceAdd, Nat.reduceSub, Nat.reduceEqDiff, Nat.reduceLeDiff, Nat.reduceLT, Bool.true_eq_false, Bool.false_eq_true, n1, k9, k99, l99, r9_14, f1, xup_s, pI_ne9]
        exact g1
theorem rd_words (hL : L ≤ 160) (ht : ∀ j, j < L → t j ≤ 255) {n p : Nat} (hn : n ≤ 12) (hn1 : 1 ≤ n) (hp : p ≤ L) : RD t L f_X3_readWords f_X9_readWords n p := by
  have k3 := x163
  have k9 := x189
  have n0 : ¬ n ≤ 0 := by omega
  rcases num2 hL ht (wd := 4) (lo := 1) (hi := n) (p := p) (by omega) (by omega) (by omega) hp (by omega) with ⟨e, he, hc, hm⟩ | ⟨wc, p1, hv1, hv2, hp1, hc, hm⟩
  · refine ⟨.inl e, fun I h => ?_, fun I h => ?_⟩
    · obtain ⟨I1, f1, f2, f3⟩ := hc I n h
      have h4 := h.2.1
      obtain ⟨I', g1, g2, g3⟩ := rw_E (n := n) (e := e) (wc := 1) (k := 0) (l := none) (I := I1) hn (by omega) (by omega) (by omega) (by omega) (by rw [f2.2 4 (by omega) (by omega)]; exact h4) f3
      refine ⟨I', ?_, f2.w.tr g2, g3, he⟩
      rw [e_X3_readWords]
      simp (disch := omega) only [q_X3_readWords_0, q_X3_readWords_1, q_X3_readWords_2, q_X3_readWords_3, q_X3_readWords_4, q_X3_readWords_7, q_X3_readWords_10, q_X3_readWords_11, q_X3_readWords_12, nI_add, pI_le, pI_lt, pI_eq, pI_neg, pI_nn, pI_le0, pI_gt0, pI_eq0, xbV_s, xbU_s, if_true, if_false, bI_eq0, Nat.reduceAdd, Nat.reduceSub, Nat.reduceEqDiff, Nat.reduceLeDiff, Nat.reduceLT, Bool.true_eq_false, Bool.false_eq_true, k3, h4, f1]
      exact g1
    · obtain ⟨I1, f1, f2, f3⟩ := hm I h
      have e9 : (-9999 : Int32) ≤ nI 0 := by decide
      refine ⟨I1, ?_, f2.w, f3⟩
      rw [e_X9_readWords]
      simp (disch := omega) only [q_X9_readWords_0, q_X9_readWords_1, q_X9_readWords_2, q_X9_readWords_3, q_X9_readWords_4, q_X9_readWords_7, q_X9_readWords_8, q_X9_readWords_9, q_X9_readWords_11, q_X9_readWords_12, q_X9_readWords_15, q_X9_readWords_16, q_X9_readWords_19, q_X9_readWords_20, q_X9_readWords_21, q_X9_readWords_23, q_X9_readWords_24, q_X9_readWords_27, q_X9_readWords_30, q_X9_readWords_31, q_X9_readWords_32, q_X9_readWords_35, q_X9_readWords_36, q_X9_readWords_37, q_X9_readWords_40, q_X9_readWords_43, q_X9_readWords_44_b, q_X9_readWords_44_0, q_X9_readWords_44_1, q_X9_readWords_45, q_X9_readWords_48, q_X9_readWords_51, q_X9_readWords_52, q_X9_readWords_54, q_X9_readWords_55, q_X9_readWords_58, q_X9_readWords_59, q_X9_readWords_62, q_X9_readWords_65, q_X9_readWords_66, q_X9_readWords_67, q_X9_readWords_68, q_X9_readWords_69, q_X9_readWords_72, q_X9_readWords_73, q_X9_readWords_74, q_X9_readWords_75, q_X9_readWords_76, q_X9_readWords_79, q_X9_readWords_81, q_X9_readWords_83, q_X9_readWords_86, q_X9_readWords_89, q_X9_readWords_90_b, q_X9_readWords_90_0, q_X9_readWords_90_1, q_X9_readWords_91, q_X9_readWords_92, q_X9_readWords_95, q_X9_readWords_96, q_X9_readWords_97, q_X9_readWords_100, q_X9_readWords_102, q_X9_readWords_103, q_X9_readWords_104, q_X9_readWords_107, q_X9_readWords_110, q_X9_readWords_111, q_X9_readWords_114, q_X9_readWords_117, q_X9_readWords_118, q_X9_readWords_121, q_X9_readWords_122_b, q_X9_readWords_122_0, q_X9_readWords_122_1, nI_add, pI_le, pI_lt, pI_eq, pI_neg, pI_nn, pI_le0, pI_gt0, pI_eq0, xbV_s, xbU_s, if_true, if_false, bI_eq0, Nat.reduceAdd, Nat.reduceSub, Nat.reduceEqDiff, Nat.reduceLeDiff, Nat.reduceLT, Bool.true_eq_false, Bool.false_eq_true, k9, f1]
      rw [q_X9_readWords_10]
      simp (disch := omega) only [q_X9_readWords_0, q_X9_readWords_1, q_X9_readWords_2, q_X9_readWords_3, q_X9_readWords_4, q_X9_readWords_7, q_X9_readWords_8, q_X9_readWords_9, q_X9_readWords_11, q_X9_readWords_12, q_X9_readWords_15, q_X9_readWords_16, q_X9_readWords_19, q_X9_readWords_20, q_X9_readWords_21, q_X9_readWords_23, q_X9_readWords_24, q_X9_readWords_27, q_X9_readWords_30, q_X9_readWords_31, q_X9_readWords_32, q_X9_readWords_35, q_X9_readWords_36, q_X9_readWords_37, q_X9_readWords_40, q_X9_readWords_43, q_X9_readWords_44_b, q_X9_readWords_44_0, q_X9_readWords_44_1, q_X9_readWords_45, q_X9_readWords_48, q_X9_readWords_51, q_X9_readWords_52, q_X9_readWords_54, q_X9_readWords_55, q_X9_readWords_58, q_X9_readWords_59, q_X9_readWords_62, q_X9_readWords_65, q_X9_readWords_66, q_X9_readWords_67, q_X9_readWords_68, q_X9_readWords_69, q_X9_readWords_72, q_X9_readWords_73, q_X9_readWords_74, q_X9_readWords_75, q_X9_readWords_76, q_X9_readWords_79, q_X9_readWords_81, q_X9_readWords_83, q_X9_readWords_86, q_X9_readWords_89, q_X9_readWords_90_b, q_X9_readWords_90_0, q_X9_readWords_90_1, q_X9_readWords_91, q_X9_readWords_92, q_X9_readWords_95, q_X9_readWords_96, q_X9_readWords_97, q_X9_readWords_100, q_X9_readWords_102, q_X9_readWords_103, q_X9_readWords_104, q_X9_readWords_107, q_X9_readWords_110, q_X9_readWords_111, q_X9_readWords_114, q_X9_readWords_117, q_X9_readWords_118, q_X9_readWords_121, q_X9_readWords_122_b, q_X9_readWords_122_0, q_X9_readWords_122_1, nI_add, pI_le, pI_lt, pI_eq, pI_neg, pI_nn, pI_le0, pI_gt0, pI_eq0, xbV_s, xbU_s, if_true, if_false, bI_eq0, Nat.reduceAdd, Nat.reduceSub, Nat.reduceEqDiff, Nat.reduceLeDiff, Nat.reduceLT, Bool.true_eq_false, Bool.false_eq_true, e9]
      rw [q_X9_readWords_53]
      simp (disch := omega) only [q_X9_readWords_0, q_X9_readWords_1, q_X9_readWords_2, q_X9_readWords_3, q_X9_readWords_4, q_X9_readWords_7, q_X9_readWords_8, q_X9_readWords_9, q_X9_readWords_11, q_X9_readWords_12, q_X9_readWords_15, q_X9_readWords_16, q_X9_readWords_19, q_X9_readWords_20, q_X9_readWords_21, q_X9_readWords_23, q_X9_readWords_24, q_X9_readWords_27, q_X9_readWords_30, q_X9_readWords_31, q_X9_readWords_32, q_X9_readWords_35, q_X9_readWords_36, q_X9_readWords_37, q_X9_readWords_40, q_X9_readWords_43, q_X9_readWords_44_b, q_X9_readWords_44_0, q_X9_readWords_44_1, q_X9_readWords_45, q_X9_readWords_48, q_X9_readWords_51, q_X9_readWords_52, q_X9_readWords_54, q_X9_readWords_55, q_X9_readWords_58, q_X9_readWords_59, q_X9_readWords_62, q_X9_readWords_65, q_X9_readWords_66, q_X9_readWords_67, q_X9_readWords_68, q_X9_readWords_69, q_X9_readWords_72, q_X9_readWords_73, q_X9_readWords_74, q_X9_readWords_75, q_X9_readWords_76, q_X9_readWords_79, q_X9_readWords_81, q_X9_readWords_83, q_X9_readWords_86, q_X9_readWords_89, q_X9_readWords_90_b, q_X9_readWords_90_0, q_X9_readWords_90_1, q_X9_readWords_91, q_X9_readWords_92, q_X9_readWords_95, q_X9_readWords_96, q_X9_readWords_97, q_X9_readWords_100, q_X9_readWords_102, q_X9_readWords_103, q_X9_readWords_104, q_X9_readWords_107, q_X9_readWords_110, q_X9_readWords_111, q_X9_readWords_114, q_X9_readWords_117, q_X9_readWords_118, q_X9_readWords_121, q_X9_readWords_122_b, q_X9_readWords_122_0, q_X9_readWords_122_1, nI_add, pI_le, pI_lt, pI_eq, pI_neg, pI_nn, pI_le0, pI_gt0, pI_eq0, xbV_s, xbU_s, if_true, if_false, bI_eq0, Nat.reduceAdd, Nat.reduceSub, Nat.reduceEqDiff, Nat.reduceLeDiff, Nat.reduceLT, Bool.true_eq_false, Bool.false_eq_true, n0]
      rfl
  · obtain ⟨r, hc3, hm3⟩ := rw_l1 hL ht (n := n) (wc := wc) hn hv1 (by omega) wc 0 p1 (fun _ => 0) (by omega) hp1 (fun j hj => absurd hj (Nat.not_lt_zero _))
    refine ⟨r, fun I h => ?_, fun I h => ?_⟩
    · obtain ⟨I1, f1, f2, f3⟩ := hc I n h
      have h4 := h.2.1
      obtain ⟨I', g1, g2⟩ := hc3 I1 none f3 (fun j hj => absurd hj (Nat.not_lt_zero _))
      refine ⟨I', ?_, f2.w.tr g2.1, g2.2⟩
      rw [e_X3_readWords]
      simp (disch := omega) only [q_X3_readWords_0, q_X3_readWords_1, q_X3_readWords_2, q_X3_readWords_3, q_X3_readWords_4, q_X3_readWords_7, q_X3_readWords_10, q_X3_readWords_11, q_X3_readWords_12, nI_add, pI_le, pI_lt, pI_eq, pI_neg, pI_nn, pI_le0, pI_gt0, pI_eq0, xbV_s, xbU_s, if_true, if_false, bI_eq0, Nat.reduceAdd, Nat.reduceSub, Nat.reduceEqDiff, Nat.reduceLeDiff, Nat.reduceLT, Bool.true_eq_false, Bool.false_eq_true, k3, h4, f1]
      exact g1
    · obtain ⟨I1, f1, f2, f3⟩ := hm I h
      obtain ⟨I', g1, g2⟩ := hm3 I1 none f3 (fun j hj => absurd hj (Nat.not_lt_zero _))
      refine ⟨I', ?_, f2.w.tr g2.1, g2.2⟩
      rw [e_X9_readWords]
      simp (disch := omega) only [q_X9_readWords_0, q_X9_readWords_1, q_X9_readWords_2, q_X9_readWords_3, q_X9_readWords_4, q_X9_readWords_7, q_X9_readWords_8, q_X9_readWords_9, nI_add, pI_le, pI_lt, pI_eq, pI_neg, pI_nn, pI_le0, pI_gt0, pI_eq0, xbV_s, xbU_s, if_true, if_false, bI_eq0, Nat.reduceAdd, Nat.reduceSub, Nat.reduceEqDiff, Nat.reduceLeDiff, Nat.reduceLT, Bool.true_eq_false, Bool.false_eq_true, k9, f1]
      exact g1
end PS
end P41
