/-! ===== the page in the text ===== -/
section P47
section PY
variable {t : Nat → Nat} {L : Nat}
theorem sel2 (hL : L ≤ 160) (ht : ∀ j, j < L → t j ≤ 255) {c : Nat} (hc : c ≤ 4) : ∃ fc fm, RE fc ∧ (∀ n p, 1 ≤ n → n ≤ 12 → p ≤ L → RD t L fc fm n p) ∧ (∀ I I', fc [.ref 163] I = some (.inl none, I') → xgo k_X3_readPage 32 [some (.ref 163), some (.int (nI c))] [] I = xgo k_X3_readPage 96 [some (.ref 163), some (.int (nI c))] [] I') ∧ (∀ I I' (b : Int32) n, fm [.ref 189, .int (nI n)] I = some (.inl (some (.int b)), I') → xgo k_X9_readPage 49 [some (.ref 189), some (.int (nI c)), some (.int (nI n)), none] [] I = xgo k_X9_readPage 105 [some (.ref 189), some (.int (nI c)), some (.int (nI n)), none] [.int b] I') := by
  have k3 := x163
  have k9 := x189
  rcases (show c = 0 ∨ c = 1 ∨ c = 2 ∨ c = 3 ∨ c = 4 by omega) with rfl | rfl | rfl | rfl | rfl
  · refine ⟨f_X3_readPlain, f_X9_readPlain, re_plain, fun n p h1 h2 h3 => rd_plain hL ht h2 h3, fun I I' h => ?_, fun I I' b n h => ?_⟩
    · have hx : xsel (nI 0) 1 [64, 71, 78, 85] 92 = 92 := rfl
      simp (disch := omega) only [q_X3_readPage_32, q_X3_readPage_33, q_X3_readPage_64, q_X3_readPage_65, q_X3_readPage_68, q_X3_readPage_71, q_X3_readPage_72, q_X3_readPage_75, q_X3_readPage_78, q_X3_readPage_79, q_X3_readPage_82, q_X3_readPage_85, q_X3_readPage_86, q_X3_readPage_89, q_X3_readPage_92, q_X3_readPage_93, nI_add, pI_le, pI_lt, pI_eq, pI_neg, pI_nn, pI_le0, pI_gt0, pI_eq0, xbV_s, xbU_s, if_true, if_false, bI_eq0, Nat.reduceAdd, Nat.reduceSub, Nat.reduceEqDiff, Nat.reduceLeDiff, Nat.reduceLT, Bool.true_eq_false, Bool.false_eq_true, hx, k3, h]
    · simp (disch := omega) only [q_X9_readPage_49, q_X9_readPage_50, q_X9_readPage_53, q_X9_readPage_54, q_X9_readPage_55, q_X9_readPage_58, q_X9_readPage_61, q_X9_readPage_62, q_X9_readPage_63, q_X9_readPage_66, q_X9_readPage_67, q_X9_readPage_68, q_X9_readPage_71, q_X9_readPage_74, q_X9_readPage_75, q_X9_readPage_76, q_X9_readPage_79, q_X9_readPage_80, q_X9_readPage_81, q_X9_readPage_84, q_X9_readPage_87, q_X9_readPage_88, q_X9_readPage_89, q_X9_readPage_92, q_X9_readPage_93, q_X9_readPage_94, q_X9_readPage_97, q_X9_readPage_100, q_X9_readPage_101, q_X9_readPage_102, nI_add, pI_le, pI_lt, pI_eq, pI_neg, pI_nn, pI_le0, pI_gt0, pI_eq0, xbV_s, xbU_s, if_true, if_false, bI_eq0, Nat.reduceAdd, Nat.reduceSub, Nat.reduceEqDiff, Nat.reduceLeDiff, Nat.reduceLT, Bool.true_eq_false, Bool.false_eq_true, k9, h]
  · refine ⟨f_X3_readWords, f_X9_readWords, re_words, fun n p h1 h2 h3 => rd_words hL ht h2 h1 h3, fun I I' h => ?_, fun I I' b n h => ?_⟩
    · have hx : xsel (nI 1) 1 [64, 71, 78, 85] 92 = 64 := rfl
      simp (disch := omega) only [q_X3_readPage_32, q_X3_readPage_33, q_X3_readPage_64, q_X3_readPage_65, q_X3_readPage_68, q_X3_readPage_71, q_X3_readPage_72, q_X3_readPage_75, q_X3_readPage_78, q_X3_readPage_79, q_X3_readPage_82, q_X3_readPage_85, q_X3_readPage_86, q_X3_readPage_89, q_X3_readPage_92, q_X3_readPage_93, nI_add, pI_le, pI_lt, pI_eq, pI_neg, pI_nn, pI_le0, pI_gt0, pI_eq0, xbV_s, xbU_s, if_true, if_false, bI_eq0, Nat.reduceAdd, Nat.reduceSub, Nat.reduceEqDiff, Nat.reduceLeDiff, Nat.reduceLT, Bool.true_eq_false, Bool.false_eq_true, hx, k3, h]
    · simp (disch := omega) only [q_X9_readPage_49, q_X9_readPage_50, q_X9_readPage_53, q_X9_readPage_54, q_X9_readPage_55, q_X9_readPage_58, q_X9_readPage_61, q_X9_readPage_62, q_X9_readPage_63, q_X9_readPage_66, q_X9_readPage_67, q_X9_readPage_68, q_X9_readPage_71, q_X9_readPage_74, q_X9_readPage_75, q_X9_readPage_76, q_X9_readPage_79, q_X9_readPage_80, q_X9_readPage_81, q_X9_readPage_84, q_X9_readPage_87, q_X9_readPage_88, q_X9_readPage_89, q_X9_readPage_92, q_X9_readPage_93, q_X9_readPage_94, q_X9_readPage_97, q_X9_readPage_100, q_X9_readPage_101, q_X9_readPage_102, nI_add, pI_le, pI_lt, pI_eq, pI_neg, pI_nn, pI_le0, pI_gt0, pI_eq0, xbV_s, xbU_s, if_true, if_false, bI_eq0, Nat.reduceAdd, Nat.reduceSub, Nat.reduceEqDiff, Nat.reduceLeDiff, Nat.reduceLT, Bool.true_eq_false, Bool.false_eq_true, k9, h]
  · refine ⟨f_X3_readRuns, f_X9_readRuns, re_runs, fun n p h1 h2 h3 => rd_runs hL ht h2 h3, fun I I' h => ?_, fun I I' b n h => ?_⟩
    · have hx : xsel (nI 2) 1 [64, 71, 78, 85] 92 = 71 := rfl
      simp (disch := omega) only [q_X3_readPage_32, q_X3_readPage_33, q_X3_readPage_64, q_X3_readPage_65, q_X3_readPage_68, q_X3_readPage_71, q_X3_readPage_72, q_X3_readPage_75, q_X3_readPage_78, q_X3_readPage_79, q_X3_readPage_82, q_X3_readPage_85, q_X3_readPage_86, q_X3_readPage_89, q_X3_readPage_92, q_X3_readPage_93, nI_add, pI_le, pI_lt, pI_eq, pI_neg, pI_nn, pI_le0, pI_gt0, pI_eq0, xbV_s, xbU_s, if_true, if_false, bI_eq0, Nat.reduceAdd, Nat.reduceSub, Nat.reduceEqDiff, Nat.reduceLeDiff, Nat.reduceLT, Bool.true_eq_false, Bool.false_eq_true, hx, k3, h]
    · simp (disch := omega) only [q_X9_readPage_49, q_X9_readPage_50, q_X9_readPage_53, q_X9_readPage_54, q_X9_readPage_55, q_X9_readPage_58, q_X9_readPage_61, q_X9_readPage_62, q_X9_readPage_63, q_X9_readPage_66, q_X9_readPage_67, q_X9_readPage_68, q_X9_readPage_71, q_X9_readPage_74, q_X9_readPage_75, q_X9_readPage_76, q_X9_readPage_79, q_X9_readPage_80, q_X9_readPage_81, q_X9_readPage_84, q_X9_readPage_87, q_X9_readPage_88, q_X9_readPage_89, q_X9_readPage_92, q_X9_readPage_93, q_X9_readPage_94, q_X9_readPage_97, q_X9_readPage_100, q_X9_readPage_101, q_X9_readPage_102, nI_add, pI_le, pI_lt, pI_eq, pI_neg, pI_nn, pI_le0, pI_gt0, pI_eq0, xbV_s, xbU_s, if_true, if_false, bI_eq0, Nat.reduceAdd, Nat.reduceSub, Nat.reduceEqDiff, Nat.reduceLeDiff, Nat.reduceLT, Bool.true_eq_false, Bool.false_eq_true, k9, h]
  · refine ⟨f_X3_readSmall, f_X9_readSmall, re_small, fun n p h1 h2 h3 => rd_small hL ht h2 h1 h3, fun I I' h => ?_, fun I I' b n h => ?_⟩
    · have hx : xsel (nI 3) 1 [64, 71, 78, 85] 92 = 78 := rfl
      simp (disch := omega) only [q_X3_readPage_32, q_X3_readPage_33, q_X3_readPage_64, q_X3_readPage_65, q_X3_readPage_68, q_X3_readPage_71, q_X3_readPage_72, q_X3_readPage_75, q_X3_readPage_78, q_X3_readPage_79, q_X3_readPage_82, q_X3_readPage_85, q_X3_readPage_86, q_X3_readPage_89, q_X3_readPage_92, q_X3_readPage_93, nI_add, pI_le, pI_lt, pI_eq, pI_neg, pI_nn, pI_le0, pI_gt0, pI_eq0, xbV_s, xbU_s, if_true, if_false, bI_eq0, Nat.reduceAdd, Nat.reduceSub, Nat.reduceEqDiff, Nat.reduceLeDiff, Nat.reduceLT, Bool.true_eq_false, Bool.false_eq_true, hx, k3, h]
    · simp (disch := omega) only [q_X9_readPage_49, q_X9_readPage_50, q_X9_readPage_53, q_X9_readPage_54, q_X9_readPage_55, q_X9_readPage_58, q_X9_readPage_61, q_X9_readPage_62, q_X9_readPage_63, q_X9_readPage_66, q_X9_readPage_67, q_X9_readPage_68, q_X9_readPage_71, q_X9_readPage_74, q_X9_readPage_75, q_X9_readPage_76, q_X9_readPage_79, q_X9_readPage_80, q_X9_readPage_81, q_X9_readPage_84, q_X9_readPage_87, q_X9_readPage_88, q_X9_readPage_89, q_X9_readPage_92, q_X9_readPage_93, q_X9_readPage_94, q_X9_readPage_97, q_X9_readPage_100, q_X9_readPage_101, q_X9_readPage_102, nI_add, pI_le, pI_lt, pI_eq, pI_neg, pI_nn, pI_le0, pI_gt0, pI_eq0, xbV_s, xbU_s, if_true, if_false, bI_eq0, Nat.reduceAdd, Nat.reduceSub, Nat.reduceEqDiff, Nat.reduceLeDiff, Nat.reduceLT, Bool.true_eq_false, Bool.false_eq_true, k9, h]
  · refine ⟨f_X3_readSteps, f_X9_readSteps, re_steps, fun n p h1 h2 h3 => rd_steps hL ht h2 h1 h3, fun I I' h => ?_, fun I I' b n h => ?_⟩
    · have hx : xsel (nI 4) 1 [64, 71, 78, 85] 92 = 85 := rfl
      simp (disch := omega) only [q_X3_readPage_32, q_X3_readPage_33, q_X3_readPage_64, q_X3_readPage_65, q_X3_readPage_68, q_X3_readPage_71, q_X3_readPage_72, q_X3_readPage_75, q_X3_readPage_78, q_X3_readPage_79, q_X3_readPage_82, q_X3_readPage_85, q_X3_readPage_86, q_X3_readPage_89, q_X3_readPage_92, q_X3_readPage_93, nI_add, pI_le, pI_lt, pI_eq, pI_neg, pI_nn, pI_le0, pI_gt0, pI_eq0, xbV_s, xbU_s, if_true, if_false, bI_eq0, Nat.reduceAdd, Nat.reduceSub, Nat.reduceEqDiff, Nat.reduceLeDiff, Nat.reduceLT, Bool.true_eq_false, Bool.false_eq_true, hx, k3, h]
    · simp (disch := omega) only [q_X9_readPage_49, q_X9_readPage_50, q_X9_readPage_53, q_X9_readPage_54, q_X9_readPage_55, q_X9_readPage_58, q_X9_readPage_61, q_X9_readPage_62, q_X9_readPage_63, q_X9_readPage_66, q_X9_readPage_67, q_X9_readPage_68, q_X9_readPage_71, q_X9_readPage_74, q_X9_readPage_75, q_X9_readPage_76, q_X9_readPage_79, q_X9_readPage_80, q_X9_readPage_81, q_X9_readPage_84, q_X9_readPage_87, q_X9_readPage_88, q_X9_readPage_89, q_X9_readPage_92, q_X9_readPage_93, q_X9_readPage_94, q_X9_readPage_97, q_X9_readPage_100, q_X9_readPage_101, q_X9_readPage_102, nI_add, pI_le, pI_lt, pI_eq, pI_neg, pI_nn, pI_le0, pI_gt0, pI_eq0, xbV_s, xbU_s, if_true, if_false, bI_eq0, Nat.reduceAdd, Nat.reduceSub, Nat.reduceEqDiff, Nat.reduceLeDiff, Nat.reduceLT, Bool.true_eq_false, Bool.false_eq_true, k9, h]
def pFc (I I' : xMem) : Prop := (∀ c, c ≠ 163 → c ≠ 167 → c ≠ 169 → I' c = I c) ∧ I' 163 3 = I 163 3
def pFm (I I' : xMem) : Prop := (∀ c, c ≠ 189 → c ≠ 198 → c ≠ 199 → I' c = I c) ∧ ∀ j, j ≠ 3 → j ≠ 15 → I' 189 j = I 189 j
def rEr (r : rO) : Int32 := match r with
  | .inl e => nI e
  | .inr _ => -9999
/-- how both readers end -/
def pEnd (t : Nat → Nat) (L : Nat) (r : rO) : Prop := (match r with
  | .inl e => e ≤ L
  | .inr x => (1 ≤ x.1 ∧ x.1 ≤ 12) ∧ ∀ j, j < x.1 → x.2 j ≤ 1023) ∧ (∀ I, tC I t L → ∃ I', f_X3_readPage [.ref 163] I = some (.inl (some (.int (rEr r))), I') ∧ pFc I I' ∧ ∀ x, r = .inr x → I' 163 4 = nI x.1 ∧ ∀ j, j < x.1 → I' 167 j = nI (x.2 j)) ∧ (∀ I, tM I t L → ∃ I', f_X9_readPage [.ref 189] I = some (.inl (some (.int (bI (rOk r)))), I') ∧ pFm I I' ∧ (∀ e, r = .inl e → I' 189 3 = nI e) ∧ ∀ x, r = .inr x → I' 189 15 = nI x.1 ∧ ∀ j, j < x.1 → I' 198 j = nI (x.2 j))
theorem s3_pgE {c e : Nat} {I : xMem} (h6 : I 163 6 = nI e) (he : e ≤ 200) : xgo k_X3_readPage 96 [some (.ref 163), some (.int (nI c))] [] I = some (.inl (some (.int (nI e))), I) := by
  have k3 := x163
  simp (disch := omega) only [q_X3_readPage_96, q_X3_readPage_97, q_X3_readPage_100, q_X3_readPage_103, q_X3_readPage_106, q_X3_readPage_107, q_X3_readPage_110, q_X3_readPage_111, q_X3_readPage_114, q_X3_readPage_117, q_X3_readPage_118, q_X3_readPage_119, q_X3_readPage_122, q_X3_readPage_125, q_X3_readPage_126, q_X3_readPage_129, nI_add, pI_le, pI_lt, pI_eq, pI_neg, pI_nn, pI_le0, pI_gt0, pI_eq0, xbV_s, xbU_s, if_true, if_false, bI_eq0, Nat.reduceAdd, Nat.reduceSub, Nat.reduceEqDiff, Nat.reduceLeDiff, Nat.reduceLT, Bool.true_eq_false, Bool.false_eq_true, k3, h6, pI_ne9]
theorem page2 (hL : L ≤ 160) (ht : ∀ j, j < L → t j ≤ 255) : ∃ r : rO, pEnd t L r := by
  have k3 := x163
  have k9 := x189
  have hc1 : ∀ I, tC I t L → ∃ I', f_X3_readNumber [.ref 163, .int (nI 3), .int (nI 0), .int (nI 4)] (xup (xup I 163 5 (nI 0)) 163 6 (-9999)) = some (.inl (some (.int (nI (nVal 0 (pN t L (okc 0 4) 3 0 0))))), I') ∧ tGn (xup (xup I 163 5 (nI 0)) 163 6 (-9999)) I' ∧ cRd I' (fun x : Nat × Nat => x.2) (pN t L (okc 0 4) 3 0 0) := fun I h => s3_num hL ht (by omega) (by omega) (by omega) (by omega) (h.cg (by rw [xup_d (by omega), xup_d (by omega)]) (by rw [xup_o (by omega), xup_o (by omega)])) (by rw [xup_d (by omega), xup_s]) xup_s
  have hm1 : ∀ I, tM I t L → ∃ I', f_X9_numberIn [.ref 189, .int (nI 3), .int (nI 0), .int (nI 4)] (xup I 189 3 (nI 0)) = some (.inl (some (.int (mVal (pN t L (okc 0 4) 3 0 0)))), I') ∧ mGn (xup I 189 3 (nI 0)) I' ∧ I' 189 3 = nI (mPos (pN t L (okc 0 4) 3 0 0)) := fun I h => s9_numIn hL ht (by omega) (by omega) (by omega) (by omega) (h.cg (by rw [xup_d (by omega)]) (by rw [xup_o (by omega)])) xup_s
  have hle1 := pN_le (t := t) (L := L) (ok := okc 0 4) (k := 3) (v := 0) (p := 0) (by omega)
  have hrg1 := fun x => pN_range (t := t) (L := L) (lo := 0) (hi := 4) (k := 3) (v := 0) (p := 0) (by omega) x
  -- behind an error
  have hE : ∀ (c e : Nat) (I I1 : xMem), c ≤ 4 → e ≤ L → tGn I I1 → I1 163 6 = nI e → ∃ I', xgo k_X3_readPage 32 [some (.ref 163), some (.int (nI c))] [] (xup I1 163 4 (nI 1)) = some (.inl (some (.int (nI e))), I') ∧ pFc I I' := by
    intro c e I I1 hc he hG h6
    obtain ⟨fc, fm, hre, -, hs, -⟩ := sel2 hL ht hc
    obtain ⟨I', g1, g2, g3⟩ := hre (xup I1 163 4 (nI 1)) 1 e (by omega) (by omega) (by omega) xup_s (by rw [xup_d (by omega)]; exact h6)
    refine ⟨I', by rw [hs _ _ g1]; exact s3_pgE g3 (by omega), fun c h1 h2 h3 => by rw [g2.1 c h1 h2 h3, xup_o h1, hG.1 c h1], by rw [g2.2 3 (by omega) (by omega), xup_d (by omega), hG.2 3 (by omega) (by omega)]⟩
  cases hr1 : pN t L (okc 0 4) 3 0 0 with
  | inl e =>
    have he := hle1.1 e hr1
    rw [hr1] at hc1 hm1
    refine ⟨.inl e, he, fun I h => ?_, fun I h => ?_⟩
    · obtain ⟨I1, f1, f2, f3⟩ := hc1 I h
      have h6 : I1 163 6 = nI e := f3.1
      have f1 : f_X3_readNumber [.ref 163, .int (nI 3), .int (nI 0), .int (nI 4)] (xup (xup I 163 5 (nI 0)) 163 6 (-9999)) = some (.inl (some (.int (nI 0))), I1) := f1
      obtain ⟨I', g1, g2⟩ := hE 0 e _ I1 (by omega) he f2 h6
      refine ⟨I', ?_, ⟨fun c h1 h2 h3 => by rw [g2.1 c h1 h2 h3, xup_o h1, xup_o h1], by rw [g2.2, xup_d (by omega), xup_d (by omega)]⟩, fun x hx => by cases hx⟩
      rw [e_X3_readPage]
      simp (disch := omega) only [q_X3_readPage_0, q_X3_readPage_1, q_X3_readPage_2, q_X3_readPage_5, q_X3_readPage_6, q_X3_readPage_9, q_X3_readPage_12, q_X3_readPage_13, q_X3_readPage_14, q_X3_readPage_15, q_X3_readPage_16, q_X3_readPage_19, q_X3_readPage_20, q_X3_readPage_21, q_X3_readPage_22, q_X3_readPage_23, q_X3_readPage_24, q_X3_readPage_26, q_X3_readPage_29, nI_add, pI_le, pI_lt, pI_eq, pI_neg, pI_nn, pI_le0, pI_gt0, pI_eq0, xbV_s, xbU_s, if_true, if_false, bI_eq0, Nat.reduceAdd, Nat.reduceSub, Nat.reduceEqDiff, Nat.reduceLeDiff, Nat.reduceLT, Bool.true_eq_false, Bool.false_eq_true, k3, f1, s3_numE (wd := 4) (lo := 1) (hi := 12) (by omega) h6 (by omega : e ≤ 200)]
      exact g1
    · obtain ⟨I1, f1, f2, f3⟩ := hm1 I h
      have f1 : f_X9_numberIn [.ref 189, .int (nI 3), .int (nI 0), .int (nI 4)] (xup I 189 3 (nI 0)) = some (.inl (some (.int (-9999))), I1) := f1
      refine ⟨I1, ?_, ⟨fun c h1 h2 h3 => by rw [f2.1 c h1, xup_o h1], fun j h3 _ => by rw [f2.2 j h3, xup_d h3]⟩, fun e' he' => by cases he'; exact f3, fun x hx => by cases hx⟩
      rw [e_X9_readPage]
      simp (disch := omega) only [q_X9_readPage_0, q_X9_readPage_1, q_X9_readPage_2, q_X9_readPage_5, q_X9_readPage_6, q_X9_readPage_7, q_X9_readPage_8, q_X9_readPage_9, q_X9_readPage_12, q_X9_readPage_13, q_X9_readPage_14, q_X9_readPage_17, q_X9_readPage_20, q_X9_readPage_23, q_X9_readPage_26, q_X9_readPage_27, q_X9_readPage_28, q_X9_readPage_29, q_X9_readPage_31, q_X9_readPage_34, q_X9_readPage_35, q_X9_readPage_36, q_X9_readPage_39, q_X9_readPage_42, q_X9_readPage_43_b, q_X9_readPage_43_0, q_X9_readPage_43_1, q_X9_readPage_44, q_X9_readPage_45, q_X9_readPage_46, q_X9_readPage_49, q_X9_readPage_50, q_X9_readPage_53, q_X9_readPage_54, q_X9_readPage_55, q_X9_readPage_58, q_X9_readPage_61, q_X9_readPage_62, q_X9_readPage_63, q_X9_readPage_66, q_X9_readPage_67, q_X9_readPage_68, q_X9_readPage_71, q_X9_readPage_74, q_X9_readPage_75, q_X9_readPage_76, q_X9_readPage_79, q_X9_readPage_80, q_X9_readPage_81, q_X9_readPage_84, q_X9_readPage_87, q_X9_readPage_88, q_X9_readPage_89, q_X9_readPage_92, q_X9_readPage_93, q_X9_readPage_94, q_X9_readPage_97, q_X9_readPage_100, q_X9_readPage_101, q_X9_readPage_102, q_X9_readPage_105, q_X9_readPage_106, q_X9_readPage_107, q_X9_readPage_110, q_X9_readPage_111, q_X9_readPage_114, q_X9_readPage_115, q_X9_readPage_118, q_X9_readPage_121, q_X9_readPage_122, q_X9_readPage_125, q_X9_readPage_126_b, q_X9_readPage_126_0, q_X9_readPage_126_1, nI_add, pI_le, pI_lt, pI_eq, pI_neg, pI_nn, pI_le0, pI_gt0, pI_eq0, xbV_s, xbU_s, if_true, if_false, bI_eq0, Nat.reduceAdd, Nat.reduceSub, Nat.reduceEqDiff, Nat.reduceLeDiff, Nat.reduceLT, Bool.true_eq_false, Bool.false_eq_true, k9, f1]
      rfl
  | inr x1 =>
    obtain ⟨c, p1⟩ := x1
    have hp1 : p1 ≤ L := hle1.2 (c, p1) hr1
    have hc4 : c ≤ 4 := (hrg1 (c, p1) hr1).1.2
    rw [hr1] at hc1 hm1
    have hle2 := pN_le (t := t) (L := L) (ok := okc 1 12) (k := 4) (v := 0) (p := p1) hp1
    have hrg2 := fun x => pN_range (t := t) (L := L) (lo := 1) (hi := 12) (k := 4) (v := 0) (p := p1) (by omega) x
    have hc2 : ∀ I1, tC I1 t L → I1 163 5 = nI p1 → I1 163 6 = -9999 → _ := fun I1 h h5 h6 => s3_num (I := I1) (wd := 4) (lo := 1) (hi := 12) hL ht (by omega) (by omega) (by omega) (by omega) h h5 h6
    have hm2 : ∀ I1, tM I1 t L → I1 189 3 = nI p1 → _ := fun I1 h h3 => s9_numIn (I := I1) (wd := 4) (lo := 1) (hi := 12) hL ht (by omega) (by omega) (by omega) (by omega) h h3
    have tc : ∀ I I1, tC I t L → tGn (xup (xup I 163 5 (nI 0)) 163 6 (-9999)) I1 → tC I1 t L := fun I I1 h hG => h.cg (by rw [hG.2 3 (by omega) (by omega), xup_d (by omega), xup_d (by omega)]) (by rw [hG.1 165 (by omega), xup_o (by omega), xup_o (by omega)])
    have tm : ∀ I I1, tM I t L → mGn (xup I 189 3 (nI 0)) I1 → tM I1 t L := fun I I1 h hG => h.cg (by rw [hG.2 2 (by omega), xup_d (by omega)]) (by rw [hG.1 190 (by omega), xup_o (by omega)])
    cases hr2 : pN t L (okc 1 12) 4 0 p1 with
    | inl e =>
      have he := hle2.1 e hr2
      refine ⟨.inl e, he, fun I h => ?_, fun I h => ?_⟩
      · obtain ⟨I1, f1, f2, f3⟩ := hc1 I h
        obtain ⟨I2, j1, j2, j3⟩ := hc2 I1 (tc I I1 h f2) f3.2 f3.1
        rw [hr2] at j1 j3
        have h6 : I2 163 6 = nI e := j3.1
        have f1 : f_X3_readNumber [.ref 163, .int (nI 3), .int (nI 0), .int (nI 4)] (xup (xup I 163 5 (nI 0)) 163 6 (-9999)) = some (.inl (some (.int (nI c))), I1) := f1
        have j1 : f_X3_readNumber [.ref 163, .int (nI 4), .int (nI 1), .int (nI 12)] I1 = some (.inl (some (.int (nI 1))), I2) := j1
        obtain ⟨I', g1, g2⟩ := hE c e _ I2 hc4 he (f2.tr j2) h6
        refine ⟨I', ?_, ⟨fun c h1 h2 h3 => by rw [g2.1 c h1 h2 h3, xup_o h1, xup_o h1], by rw [g2.2, xup_d (by omega), xup_d (by omega)]⟩, fun x hx => by cases hx⟩
        rw [e_X3_readPage]
        simp (disch := omega) only [q_X3_readPage_0, q_X3_readPage_1, q_X3_readPage_2, q_X3_readPage_5, q_X3_readPage_6, q_X3_readPage_9, q_X3_readPage_12, q_X3_readPage_13, q_X3_readPage_14, q_X3_readPage_15, q_X3_readPage_16, q_X3_readPage_19, q_X3_readPage_20, q_X3_readPage_21, q_X3_readPage_22, q_X3_readPage_23, q_X3_readPage_24, q_X3_readPage_26, q_X3_readPage_29, nI_add, pI_le, pI_lt, pI_eq, pI_neg, pI_nn, pI_le0, pI_gt0, pI_eq0, xbV_s, xbU_s, if_true, if_false, bI_eq0, Nat.reduceAdd, Nat.reduceSub, Nat.reduceEqDiff, Nat.reduceLeDiff, Nat.reduceLT, Bool.true_eq_false, Bool.false_eq_true, k3, f1, j1]
        exact g1
      · obtain ⟨I1, f1, f2, f3⟩ := hm1 I h
        obtain ⟨I2, j1, j2, j3⟩ := hm2 I1 (tm I I1 h f2) f3
        rw [hr2] at j1 j3
        have f1 : f_X9_numberIn [.ref 189, .int (nI 3), .int (nI 0), .int (nI 4)] (xup I 189 3 (nI 0)) = some (.inl (some (.int (nI c))), I1) := f1
        have j1 : f_X9_numberIn [.ref 189, .int (nI 4), .int (nI 1), .int (nI 12)] I1 = some (.inl (some (.int (-9999))), I2) := j1
        refine ⟨I2, ?_, ⟨fun c h1 h2 h3 => by rw [j2.1 c h1, f2.1 c h1, xup_o h1], fun j h3 _ => by rw [j2.2 j h3, f2.2 j h3, xup_d h3]⟩, fun e' he' => by cases he'; exact j3, fun x hx => by cases hx⟩
        rw [e_X9_readPage]
        simp (disch := omega) only [q_X9_readPage_0, q_X9_readPage_1, q_X9_readPage_2, q_X9_readPage_5, q_X9_readPage_6, q_X9_readPage_7, q_X9_readPage_8, q_X9_readPage_9, q_X9_readPage_12, q_X9_readPage_13, q_X9_readPage_14, q_X9_readPage_17, q_X9_readPage_20, q_X9_readPage_23, q_X9_readPage_26, q_X9_readPage_27, q_X9_readPage_28, q_X9_readPage_29, q_X9_readPage_31, q_X9_readPage_34, q_X9_readPage_35, q_X9_readPage_36, q_X9_readPage_39, q_X9_readPage_42, q_X9_readPage_43_b, q_X9_readPage_43_0, q_X9_readPage_43_1, q_X9_readPage_44, q_X9_readPage_45, q_X9_readPage_46, q_X9_readPage_49, q_X9_readPage_50, q_X9_readPage_53, q_X9_readPage_54, q_X9_readPage_55, q_X9_readPage_58, q_X9_readPage_61, q_X9_readPage_62, q_X9_readPage_63, q_X9_readPage_66, q_X9_readPage_67, q_X9_readPage_68, q_X9_readPage_71, q_X9_readPage_74, q_X9_readPage_75, q_X9_readPage_76, q_X9_readPage_79, q_X9_readPage_80, q_X9_readPage_81, q_X9_readPage_84, q_X9_readPage_87, q_X9_readPage_88, q_X9_readPage_89, q_X9_readPage_92, q_X9_readPage_93, q_X9_readPage_94, q_X9_readPage_97, q_X9_readPage_100, q_X9_readPage_101, q_X9_readPage_102, q_X9_readPage_105, q_X9_readPage_106, q_X9_readPage_107, q_X9_readPage_110, q_X9_readPage_111, q_X9_readPage_114, q_X9_readPage_115, q_X9_readPage_118, q_X9_readPage_121, q_X9_readPage_122, q_X9_readPage_125, q_X9_readPage_126_b, q_X9_readPage_126_0, q_X9_readPage_126_1, nI_add, pI_le, pI_lt, pI_eq, pI_neg, pI_nn, pI_le0, pI_gt0, pI_eq0, xbV_s, xbU_s, if_true, if_false, bI_eq0, Nat.reduceAdd, Nat.reduceSub, Nat.reduceEqDiff, Nat.reduceLeDiff, Nat.reduceLT, Bool.true_eq_false, Bool.false_eq_true, k9, f1, pI_ne9, j1]
        rfl
    | inr x2 =>
      obtain ⟨n, p2⟩ := x2
      have hp2 : p2 ≤ L := hle2.2 (n, p2) hr2
      have hn : 1 ≤ n ∧ n ≤ 12 := (hrg2 (n, p2) hr2).1
      obtain ⟨fc, fm, -, hrd, hs, hsm⟩ := sel2 hL ht hc4
      obtain ⟨r, hC, hM⟩ := hrd n p2 hn.1 hn.2 hp2
      have kc : ∀ I, tC I t L → ∃ I0 I', f_X3_readPage [.ref 163] I = xgo k_X3_readPage 96 [some (.ref 163), some (.int (nI c))] [] I' ∧ tGw I0 I' ∧ cOut I0 I' L n r ∧ (∀ c, c ≠ 163 → I0 c = I c) ∧ I0 163 3 = I 163 3 ∧ I0 163 4 = nI n ∧ I 163 3 = nI L := by
        intro I h
        obtain ⟨I1, f1, f2, f3⟩ := hc1 I h
        obtain ⟨I2, j1, j2, j3⟩ := hc2 I1 (tc I I1 h f2) f3.2 f3.1
        rw [hr2] at j1 j3
        have f1 : f_X3_readNumber [.ref 163, .int (nI 3), .int (nI 0), .int (nI 4)] (xup (xup I 163 5 (nI 0)) 163 6 (-9999)) = some (.inl (some (.int (nI c))), I1) := f1
        have j1 : f_X3_readNumber [.ref 163, .int (nI 4), .int (nI 1), .int (nI 12)] I1 = some (.inl (some (.int (nI n))), I2) := j1
        have hG := f2.tr j2
        have j5 : I2 163 5 = nI p2 := j3.2
        have j6 : I2 163 6 = -9999 := j3.1
        obtain ⟨I', g1, g2⟩ := hC (xup I2 163 4 (nI n)) ⟨(tc I I2 h hG).cg (by rw [xup_d (by omega)]) (by rw [xup_o (by omega)]), xup_s, by rw [xup_d (by omega)]; exact j5, by rw [xup_d (by omega)]; exact j6⟩
        refine ⟨xup I2 163 4 (nI n), I', ?_, g2.1, g2, fun c h1 => by rw [xup_o h1, hG.1 c h1, xup_o h1, xup_o h1], by rw [xup_d (by omega), hG.2 3 (by omega) (by omega), xup_d (by omega), xup_d (by omega)], xup_s, h.1⟩
        rw [e_X3_readPage]
        simp (disch := omega) only [q_X3_readPage_0, q_X3_readPage_1, q_X3_readPage_2, q_X3_readPage_5, q_X3_readPage_6, q_X3_readPage_9, q_X3_readPage_12, q_X3_readPage_13, q_X3_readPage_14, q_X3_readPage_15, q_X3_readPage_16, q_X3_readPage_19, q_X3_readPage_20, q_X3_readPage_21, q_X3_readPage_22, q_X3_readPage_23, q_X3_readPage_24, q_X3_readPage_26, q_X3_readPage_29, nI_add, pI_le, pI_lt, pI_eq, pI_neg, pI_nn, pI_le0, pI_gt0, pI_eq0, xbV_s, xbU_s, if_true, if_false, bI_eq0, Nat.reduceAdd, Nat.reduceSub, Nat.reduceEqDiff, Nat.reduceLeDiff, Nat.reduceLT, Bool.true_eq_false, Bool.false_eq_true, k3, f1, j1]
        exact hs _ _ g1
      have km : ∀ I, tM I t L → ∃ I0 I', f_X9_readPage [.ref 189] I = xgo k_X9_readPage 105 [some (.ref 189), some (.int (nI c)), some (.int (nI n)), none] [.int (bI (rOk r))] I' ∧ mOut I0 I' n r ∧ (∀ c, c ≠ 189 → I0 c = I c) ∧ (∀ j, j ≠ 3 → j ≠ 15 → I0 189 j = I 189 j) ∧ I0 189 15 = nI n ∧ I 189 2 = nI L := by
        intro I h
        obtain ⟨I1, f1, f2, f3⟩ := hm1 I h
        obtain ⟨I2, j1, j2, j3⟩ := hm2 I1 (tm I I1 h f2) f3
        rw [hr2] at j1 j3
        have f1 : f_X9_numberIn [.ref 189, .int (nI 3), .int (nI 0), .int (nI 4)] (xup I 189 3 (nI 0)) = some (.inl (some (.int (nI c))), I1) := f1
        have j1 : f_X9_numberIn [.ref 189, .int (nI 4), .int (nI 1), .int (nI 12)] I1 = some (.inl (some (.int (nI n))), I2) := j1
        have hG := f2.tr j2
        have j5 : I2 189 3 = nI p2 := j3
        obtain ⟨I', g1, g2⟩ := hM (xup I2 189 15 (nI n)) ⟨(tm I I2 h hG).cg (by rw [xup_d (by omega)]) (by rw [xup_o (by omega)]), by rw [xup_d (by omega)]; exact j5⟩
        refine ⟨xup I2 189 15 (nI n), I', ?_, g2, fun c h1 => by rw [xup_o h1, hG.1 c h1, xup_o h1], fun j h3 h15 => by rw [xup_d h15, hG.2 j h3, xup_d h3], xup_s, h.1⟩
        rw [e_X9_readPage]
        simp (disch := omega) only [q_X9_readPage_0, q_X9_readPage_1, q_X9_readPage_2, q_X9_readPage_5, q_X9_readPage_6, q_X9_readPage_7, q_X9_readPage_8, q_X9_readPage_9, q_X9_readPage_12, q_X9_readPage_13, q_X9_readPage_14, q_X9_readPage_17, q_X9_readPage_20, q_X9_readPage_23, q_X9_readPage_26, q_X9_readPage_27, q_X9_readPage_28, q_X9_readPage_29, q_X9_readPage_31, q_X9_readPage_34, q_X9_readPage_35, q_X9_readPage_36, q_X9_readPage_39, q_X9_readPage_42, q_X9_readPage_43_b, q_X9_readPage_43_0, q_X9_readPage_43_1, q_X9_readPage_44, q_X9_readPage_45, q_X9_readPage_46, nI_add, pI_le, pI_lt, pI_eq, pI_neg, pI_nn, pI_le0, pI_gt0, pI_eq0, xbV_s, xbU_s, if_true, if_false, bI_eq0, Nat.reduceAdd, Nat.reduceSub, Nat.reduceEqDiff, Nat.reduceLeDiff, Nat.reduceLT, Bool.true_eq_false, Bool.false_eq_true, k9, f1, pI_ne9, j1]
        exact hsm _ _ _ _ g1
      clear hc1 hm1 hc2 hm2 hE hC hM hrd hs hsm
      cases r with
      | inl e =>
        refine ⟨.inl e, ?_, fun I h => ?_, fun I h => ?_⟩
        · obtain ⟨I0, I', g1, g2, g3, -⟩ := kc (fun a j => if a = 163 then nI L else nI (t j)) ⟨by rfl, fun j _ => rfl⟩
          exact g3.2.2
        · obtain ⟨I0, I', g1, g2, g3, g4, g5, g6, g7⟩ := kc I h
          have h6 : I' 163 6 = nI e := g3.2.1
          have he : e ≤ L := g3.2.2
          refine ⟨I', by rw [g1]; exact s3_pgE h6 (by omega), ⟨fun c h1 h2 h3 => by rw [g2.1 c h1 h2 h3, g4 c h1], by rw [g2.2 3 (by omega) (by omega), g5]⟩, fun x hx => by cases hx⟩
        · obtain ⟨I0, I', g1, g3, g4, g5, g6, g7⟩ := km I h
          refine ⟨I', ?_, ⟨fun c h1 h2 h3 => by rw [g3.1.1 c h1 h2 h3, g4 c h1], fun j h3 h15 => by rw [g3.1.2 j h3, g5 j h3 h15]⟩, fun e' he' => by cases he'; exact g3.2, fun x hx => by cases hx⟩
          rw [g1]
          simp (disch := omega) only [q_X9_readPage_105, q_X9_readPage_106, q_X9_readPage_107, q_X9_readPage_110, q_X9_readPage_111, q_X9_readPage_114, q_X9_readPage_115, q_X9_readPage_118, q_X9_readPage_121, q_X9_readPage_122, q_X9_readPage_125, q_X9_readPage_126_b, q_X9_readPage_126_0, q_X9_readPage_126_1, nI_add, pI_le, pI_lt, pI_eq, pI_neg, pI_nn, pI_le0, pI_gt0, pI_eq0, xbV_s, xbU_s, if_true, if_false, bI_eq0, Nat.reduceAdd, Nat.reduceSub, Nat.reduceEqDiff, Nat.reduceLeDiff, Nat.reduceLT, Bool.true_eq_false, Bool.false_eq_true, rOk]
          rfl
      | inr x =>
        obtain ⟨p, w⟩ := x
        have hpw : p ≤ L ∧ ∀ j, j < n → w j ≤ 1023 := by
          obtain ⟨I0, I', g1, g2, g3, -⟩ := kc (fun a j => if a = 163 then nI L else nI (t j)) ⟨by rfl, fun j _ => rfl⟩
          exact ⟨g3.2.2.2.1, fun j hj => (g3.2.2.2.2 j hj).2⟩
        by_cases q : p = L
        · refine ⟨.inr (n, w), ⟨hn, hpw.2⟩, fun I h => ?_, fun I h => ?_⟩
          · obtain ⟨I0, I', g1, g2, g3, g4, g5, g6, g7⟩ := kc I h
            have h6 : I' 163 6 = -9999 := g3.2.1
            have h5 : I' 163 5 = nI p := g3.2.2.1
            have h3 : I' 163 3 = nI L := by rw [g2.2 3 (by omega) (by omega), g5, g7]
            refine ⟨I', ?_, ⟨fun c h1 h2 h3 => by rw [g2.1 c h1 h2 h3, g4 c h1], by rw [g2.2 3 (by omega) (by omega), g5]⟩, fun x hx => by cases hx; exact ⟨by rw [g2.2 4 (by omega) (by omega)]; exact g6, fun j hj => (g3.2.2.2.2 j hj).1⟩⟩
            rw [g1]
            rw [q] at h5
            simp (disch := omega) only [q_X3_readPage_96, q_X3_readPage_97, q_X3_readPage_100, q_X3_readPage_103, q_X3_readPage_106, q_X3_readPage_107, q_X3_readPage_110, q_X3_readPage_111, q_X3_readPage_114, q_X3_readPage_117, q_X3_readPage_118, q_X3_readPage_119, q_X3_readPage_122, q_X3_readPage_125, q_X3_readPage_126, q_X3_readPage_129, nI_add, pI_le, pI_lt, pI_eq, pI_neg, pI_nn, pI_le0, pI_gt0, pI_eq0, xbV_s, xbU_s, if_true, if_false, bI_eq0, Nat.reduceAdd, Nat.reduceSub, Nat.reduceEqDiff, Nat.reduceLeDiff, Nat.reduceLT, Bool.true_eq_false, Bool.false_eq_true, k3, h6, h5, h3, Nat.le_refl]
            rfl
          · obtain ⟨I0, I', g1, g3, g4, g5, g6, g7⟩ := km I h
            have h5 : I' 189 3 = nI p := g3.2.1
            have h2 : I' 189 2 = nI L := by rw [g3.1.2 2 (by omega), g5 2 (by omega) (by omega), g7]
            refine ⟨I', ?_, ⟨fun c h1 h2 h3 => by rw [g3.1.1 c h1 h2 h3, g4 c h1], fun j h3 h15 => by rw [g3.1.2 j h3, g5 j h3 h15]⟩, fun e' he' => (by cases he'), fun x hx => by cases hx; exact ⟨by rw [g3.1.2 15 (by omega)]; exact g6, g3.2.2⟩⟩
            rw [g1]
            rw [q] at h5
            simp (disch := omega) only [q_X9_readPage_105, q_X9_readPage_106, q_X9_readPage_107, q_X9_readPage_110, q_X9_readPage_111, q_X9_readPage_114, q_X9_readPage_115, q_X9_readPage_118, q_X9_readPage_121, q_X9_readPage_122, q_X9_readPage_125, q_X9_readPage_126_b, q_X9_readPage_126_0, q_X9_readPage_126_1, nI_add, pI_le, pI_lt, pI_eq, pI_neg, pI_nn, pI_le0, pI_gt0, pI_eq0, xbV_s, xbU_s, if_true, if_false, bI_eq0, Nat.reduceAdd, Nat.reduceSub, Nat.reduceEqDiff, Nat.reduceLeDiff, Nat.reduceLT, Bool.true_eq_false, Bool.false_eq_true, rOk, bI_t, k9, h5, h2]
        · have q1 : ¬ L ≤ p := by omega
          refine ⟨.inl p, hpw.1, fun I h => ?_, fun I h => ?_⟩
          · obtain ⟨I0, I', g1, g2, g3, g4, g5, g6, g7⟩ := kc I h
            have h6 : I' 163 6 = -9999 := g3.2.1
            have h5 : I' 163 5 = nI p := g3.2.2.1
            have h3 : I' 163 3 = nI L := by rw [g2.2 3 (by omega) (by omega), g5, g7]
            refine ⟨xup I' 163 6 (nI p), ?_, ⟨fun c h1 h2 h3 => by rw [xup_o h1, g2.1 c h1 h2 h3, g4 c h1], by rw [xup_d (by omega), g2.2 3 (by omega) (by omega), g5]⟩, fun x hx => by cases hx⟩
            rw [g1]
            simp (disch := omega) only [q_X3_readPage_96, q_X3_readPage_97, q_X3_readPage_100, q_X3_readPage_103, q_X3_readPage_106, q_X3_readPage_107, q_X3_readPage_110, q_X3_readPage_111, q_X3_readPage_114, q_X3_readPage_117, q_X3_readPage_118, q_X3_readPage_119, q_X3_readPage_122, q_X3_readPage_125, q_X3_readPage_126, q_X3_readPage_129, nI_add, pI_le, pI_lt, pI_eq, pI_neg, pI_nn, pI_le0, pI_gt0, pI_eq0, xbV_s, xbU_s, if_true, if_false, bI_eq0, Nat.reduceAdd, Nat.reduceSub, Nat.reduceEqDiff, Nat.reduceLeDiff, Nat.reduceLT, Bool.true_eq_false, Bool.false_eq_true, k3, h6, h5, h3, q1, xup_s]
            rfl
          · obtain ⟨I0, I', g1, g3, g4, g5, g6, g7⟩ := km I h
            have h5 : I' 189 3 = nI p := g3.2.1
            have h2 : I' 189 2 = nI L := by rw [g3.1.2 2 (by omega), g5 2 (by omega) (by omega), g7]
            refine ⟨I', ?_, ⟨fun c h1 h2 h3 => by rw [g3.1.1 c h1 h2 h3, g4 c h1], fun j h3 h15 => by rw [g3.1.2 j h3, g5 j h3 h15]⟩, fun e' he' => by cases he'; exact h5, fun x hx => by cases hx⟩
            rw [g1]
            simp (disch := omega) only [q_X9_readPage_105, q_X9_readPage_106, q_X9_readPage_107, q_X9_readPage_110, q_X9_readPage_111, q_X9_readPage_114, q_X9_readPage_115, q_X9_readPage_118, q_X9_readPage_121, q_X9_readPage_122, q_X9_readPage_125, q_X9_readPage_126_b, q_X9_readPage_126_0, q_X9_readPage_126_1, nI_add, pI_le, pI_lt, pI_eq, pI_neg, pI_nn, pI_le0, pI_gt0, pI_eq0, xbV_s, xbU_s, if_true, if_false, bI_eq0, Nat.reduceAdd, Nat.reduceSub, Nat.reduceEqDiff, Nat.reduceLeDiff, Nat.reduceLT, Bool.true_eq_false, Bool.false_eq_true, rOk, bI_t, k9, h5, h2, q]
            rfl
end PY
end P47
