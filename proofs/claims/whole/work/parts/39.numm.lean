/-! ===== numbers in the text: the reference ===== -/
section P39
def mGn (I I' : xMem) : Prop := (∀ c, c ≠ 189 → I' c = I c) ∧ ∀ j, j ≠ 3 → I' 189 j = I 189 j
theorem mGn.rf {I : xMem} : mGn I I := ⟨fun _ _ => rfl, fun _ _ => rfl⟩
theorem mGn.tr {I I' I'' : xMem} (h : mGn I I') (h' : mGn I' I'') : mGn I I'' := ⟨fun c hc => (h'.1 c hc).trans (h.1 c hc), fun j h5 => (h'.2 j h5).trans (h.2 j h5)⟩
theorem mGn.u3 {I I' : xMem} {x : Int32} (h : mGn I I') : mGn I (xup I' 189 3 x) := ⟨fun c hc => by rw [xup_o hc]; exact h.1 c hc, fun j h5 => by rw [xup_d h5]; exact h.2 j h5⟩
def mVal (r : Nat ⊕ (Nat × Nat)) : Int32 := match r with
  | .inl _ => -9999
  | .inr x => nI x.1
def mPos (r : Nat ⊕ (Nat × Nat)) : Nat := match r with
  | .inl e => e
  | .inr x => x.2
section PM
variable {t : Nat → Nat} {L : Nat}
def mdg (t : Nat → Nat) (L p : Nat) : Int32 := if p < L then nI (t p) - nI 48 else -9999
theorem mdg_ok {p : Nat} (ht : ∀ j, j < L → t j ≤ 255) (h : dgt t L p < 2) : mdg t L p = nI (dgt t L p) ∧ xLt (mdg t L p) 2 = true := by
  have e : mdg t L p = nI (dgt t L p) := by
    unfold dgt at h ⊢
    unfold mdg
    by_cases q : p < L
    · rw [if_pos q] at h ⊢
      rw [if_pos q]
      by_cases q1 : t p = 48
      · rw [if_pos q1, q1]; rfl
      · rw [if_neg q1] at h ⊢
        by_cases q2 : t p = 49
        · rw [if_pos q2, q2]; rfl
        · rw [if_neg q2] at h; omega
    · rw [if_neg q] at h; omega
  exact ⟨e, by rw [e, xLt_nI (by omega)]; exact decide_eq_true h⟩
theorem mdg_no {p : Nat} (ht : ∀ j, j < L → t j ≤ 255) (h : ¬ dgt t L p < 2) : xLt (mdg t L p) 2 = false := by
  unfold dgt at h
  unfold mdg
  by_cases q : p < L
  · rw [if_pos q] at h ⊢
    have b := ht p q
    by_cases q1 : t p = 48
    · rw [if_pos q1] at h; omega
    · rw [if_neg q1] at h
      by_cases q2 : t p = 49
      · rw [if_pos q2] at h; omega
      · unfold xLt
        rw [pk_sub_toInt (by omega) (by omega)]
        exact decide_eq_false (by omega)
  · rw [if_neg q]; decide
theorem s9_num_l {wd lo hi lo2 hi2 : Nat} (hL : L ≤ 160) (ht : ∀ j, j < L → t j ≤ 255) (hlo : lo ≤ 5000) (hhi : hi ≤ 5000) (hlo2 : lo2 ≤ 5000) (hhi2 : hi2 ≤ 5000) : ∀ k v p (I : xMem) (l8 l9 l10 : Option Value), (v + 1) * 2 ^ k ≤ 4096 → k ≤ 12 → p + k ≤ 200 → tM I t L → I 189 3 = nI p → ∃ I', xgo k_X9_number 8 [some (.ref 189), some (.int (nI wd)), some (.int (nI lo)), some (.int (nI hi)), some (.int (nI lo2)), some (.int (nI hi2)), some (.int (nI v)), some (.int (nI k - nI 1)), l8, l9, l10] [] I = some (.inl (some (.int (mVal (pN t L (okm lo hi lo2 hi2) k v p)))), I') ∧ mGn I I' ∧ I' 189 3 = nI (mPos (pN t L (okm lo hi lo2 hi2) k v p)) := by
  have k9 := x189
  have k90 := x190
  have l90 := l190
  intro k
  induction k with
  | zero =>
    intro v p I l8 l9 l10 hv hk hp hT h3
    have e : nI 0 - nI 1 < 0 := by decide
    refine ⟨I, ?_, mGn.rf, h3⟩
    rw [q_X9_number_8]
    simp (disch := omega) only [q_X9_number_0, q_X9_number_1, q_X9_number_3, q_X9_number_4, q_X9_number_5, q_X9_number_6, q_X9_number_10, q_X9_number_13, q_X9_number_14, q_X9_number_17, q_X9_number_18, q_X9_number_21, q_X9_number_24, q_X9_number_25, q_X9_number_28, q_X9_number_29, q_X9_number_32, q_X9_number_33, q_X9_number_35, q_X9_number_36, q_X9_number_39, q_X9_number_42, q_X9_number_44, q_X9_number_45, q_X9_number_47, q_X9_number_48, q_X9_number_50, q_X9_number_51, q_X9_number_53, q_X9_number_54, q_X9_number_56, q_X9_number_58, q_X9_number_59, q_X9_number_61, q_X9_number_62, q_X9_number_63, q_X9_number_64, q_X9_number_65, q_X9_number_67, q_X9_number_69, q_X9_number_70, q_X9_number_71, q_X9_number_72, q_X9_number_75, q_X9_number_78, q_X9_number_79, q_X9_number_81, q_X9_number_84, q_X9_number_85, q_X9_number_87, q_X9_number_90, q_X9_number_93, q_X9_number_95, q_X9_number_97, q_X9_number_100, q_X9_number_102, q_X9_number_104, q_X9_number_107, q_X9_number_110, q_X9_number_113, q_X9_number_114, q_X9_number_115, q_X9_number_117, q_X9_number_118, q_X9_number_120, q_X9_number_121, q_X9_number_123, q_X9_number_124, q_X9_number_125, q_X9_number_128, q_X9_number_129, q_X9_number_130, q_X9_number_133, q_X9_number_136, q_X9_number_139, q_X9_number_141, nI_add, pI_le, pI_lt, pI_eq, pI_neg, pI_nn, pI_le0, pI_gt0, pI_eq0, xbV_s, xbU_s, if_true, if_false, bI_eq0, Nat.reduceAdd, Nat.reduceSub, Nat.reduceEqDiff, Nat.reduceLeDiff, Nat.reduceLT, Bool.true_eq_false, Bool.false_eq_true, e]
    rfl
  | succ k ih =>
    intro v p I l8 l9 l10 hv hk hp hT h3
    have e : nI (k + 1) - nI 1 = nI k := by rw [pI_sub (by omega)]; rfl
    have e2 : nI k + -1 = nI k - nI 1 := by rw [Int32.sub_eq_add_neg]; rfl
    have hp2 : 0 < 2 ^ k := Nat.pow_pos (by decide)
    have hp3 : 2 ^ k ≤ 2 ^ 12 := Nat.pow_le_pow_right (by decide) (by omega)
    have e1 : 2 ^ (k + 1) = 2 * 2 ^ k := by rw [Nat.pow_succ, Nat.mul_comm]
    have m2 : (v + 1) * 2 ^ (k + 1) = (2 * v + 1 + 1) * 2 ^ k := by rw [e1, ← Nat.mul_assoc, show (v + 1) * 2 = 2 * v + 1 + 1 by omega]
    have h2 := hT.1
    -- to the digit
    have hdg : xgo k_X9_number 8 [some (.ref 189), some (.int (nI wd)), some (.int (nI lo)), some (.int (nI hi)), some (.int (nI lo2)), some (.int (nI hi2)), some (.int (nI v)), some (.int (nI (k + 1) - nI 1)), l8, l9, l10] [] I = xgo k_X9_number 42 [some (.ref 189), some (.int (nI wd)), some (.int (nI lo)), some (.int (nI hi)), some (.int (nI lo2)), some (.int (nI hi2)), some (.int (nI v)), some (.int (nI k)), l8, l9, l10] [.int (mdg t L p)] I := by
      rw [q_X9_number_8, e]
      unfold mdg
      by_cases q : p < L
      · have g := hT.2 p q
        have q' : ¬ L ≤ p := by omega
        rw [if_pos q]
        simp (disch := omega) only [q_X9_number_10, q_X9_number_13, q_X9_number_14, q_X9_number_17, q_X9_number_18, q_X9_number_21, q_X9_number_24, q_X9_number_25, q_X9_number_28, q_X9_number_29, q_X9_number_32, q_X9_number_33, q_X9_number_35, q_X9_number_36, q_X9_number_39, nI_add, pI_le, pI_lt, pI_eq, pI_neg, pI_nn, pI_le0, pI_gt0, pI_eq0, xbV_s, xbU_s, if_true, if_false, bI_eq0, Nat.reduceAdd, Nat.reduceSub, Nat.reduceEqDiff, Nat.reduceLeDiff, Nat.reduceLT, Bool.true_eq_false, Bool.false_eq_true, k9, h3, h2, q', r9_1, k90, l90, g]
      · have q' : L ≤ p := by omega
        rw [if_neg q]
        simp (disch := omega) only [q_X9_number_10, q_X9_number_13, q_X9_number_14, q_X9_number_17, q_X9_number_18, q_X9_number_21, q_X9_number_24, q_X9_number_25, q_X9_number_28, q_X9_number_29, q_X9_number_32, q_X9_number_33, q_X9_number_35, q_X9_number_36, q_X9_number_39, nI_add, pI_le, pI_lt, pI_eq, pI_neg, pI_nn, pI_le0, pI_gt0, pI_eq0, xbV_s, xbU_s, if_true, if_false, bI_eq0, Nat.reduceAdd, Nat.reduceSub, Nat.reduceEqDiff, Nat.reduceLeDiff, Nat.reduceLT, Bool.true_eq_false, Bool.false_eq_true, k9, h3, h2, q']
    rw [hdg, pN_s]
    by_cases hq : dgt t L p < 2
    · obtain ⟨ed, ex⟩ := mdg_ok ht hq
      rw [ed] at ex ⊢
      have m4 : (2 * v + dgt t L p) * 2 ^ k + 2 ^ k ≤ (2 * v + 1 + 1) * 2 ^ k := by rw [← Nat.succ_mul]; exact Nat.mul_le_mul_right _ (by omega)
      have e9 : nI ((2 * v + dgt t L p) * 2 ^ k + 1 * 2 ^ k) - nI 1 = nI ((2 * v + dgt t L p) * 2 ^ k + 1 * 2 ^ k - 1) := pI_sub (by omega)
      have go : ∀ (l9 l10 : Option Value), ∃ I', xgo k_X9_number 8 [some (.ref 189), some (.int (nI wd)), some (.int (nI lo)), some (.int (nI hi)), some (.int (nI lo2)), some (.int (nI hi2)), some (.int (nI (2 * v + dgt t L p))), some (.int (nI k - nI 1)), some (.int (nI (dgt t L p))), l9, l10] [] (xup I 189 3 (nI (p + 1))) = some (.inl (some (.int (mVal (pN t L (okm lo hi lo2 hi2) k (2 * v + dgt t L p) (p + 1))))), I') ∧ mGn I I' ∧ I' 189 3 = nI (mPos (pN t L (okm lo hi lo2 hi2) k (2 * v + dgt t L p) (p + 1))) := by
        intro l9 l10
        obtain ⟨I', f1, f2, f3⟩ := ih (2 * v + dgt t L p) (p + 1) (xup I 189 3 (nI (p + 1))) (some (.int (nI (dgt t L p)))) l9 l10 (by have := Nat.succ_mul (2 * v + dgt t L p) (2 ^ k); rw [show (2 * v + dgt t L p + 1) = (2 * v + dgt t L p).succ from rfl]; omega) (by omega) (by omega) (hT.cg (by rw [xup_d (by omega)]) (by rw [xup_o (by omega)])) xup_s
        exact ⟨I', f1, mGn.rf.u3.tr f2, f3⟩
      obtain ⟨I', f1, f2⟩ := go (some (.int (nI ((2 * v + dgt t L p) * 2 ^ k)))) (some (.int (nI ((2 * v + dgt t L p) * 2 ^ k + 1 * 2 ^ k - 1))))
      by_cases r1 : max lo ((2 * v + dgt t L p) * 2 ^ k) ≤ min hi ((2 * v + dgt t L p) * 2 ^ k + 1 * 2 ^ k - 1)
      · rw [if_pos ⟨hq, by unfold okm; rw [decide_eq_true r1, Bool.true_or]⟩]
        refine ⟨I', ?_, f2⟩
        simp (disch := omega) only [q_X9_number_42, q_X9_number_44, q_X9_number_45, q_X9_number_47, q_X9_number_48, q_X9_number_50, q_X9_number_51, q_X9_number_53, q_X9_number_54, q_X9_number_56, q_X9_number_58, q_X9_number_59, q_X9_number_61, q_X9_number_62, q_X9_number_63, q_X9_number_64, q_X9_number_65, q_X9_number_67, q_X9_number_69, q_X9_number_70, q_X9_number_71, q_X9_number_72, q_X9_number_75, q_X9_number_78, q_X9_number_79, q_X9_number_81, q_X9_number_84, q_X9_number_85, q_X9_number_87, q_X9_number_90, q_X9_number_93, q_X9_number_95, q_X9_number_97, q_X9_number_100, q_X9_number_102, q_X9_number_104, q_X9_number_107, q_X9_number_110, q_X9_number_113, q_X9_number_114, q_X9_number_115, q_X9_number_117, q_X9_number_118, q_X9_number_120, q_X9_number_121, q_X9_number_123, q_X9_number_124, q_X9_number_125, q_X9_number_128, q_X9_number_129, q_X9_number_130, q_X9_number_133, q_X9_number_136, nI_add, pI_le, pI_lt, pI_eq, pI_neg, pI_nn, pI_le0, pI_gt0, pI_eq0, xbV_s, xbU_s, if_true, if_false, bI_eq0, Nat.reduceAdd, Nat.reduceSub, Nat.reduceEqDiff, Nat.reduceLeDiff, Nat.reduceLT, Bool.true_eq_false, Bool.false_eq_true, pk_mul, pk_shlG, e9, s9_in1, ex, s9_less, s9_more, r1, k9, h3, e2]
        exact f1
      · by_cases r2 : max lo2 ((2 * v + dgt t L p) * 2 ^ k) ≤ min hi2 ((2 * v + dgt t L p) * 2 ^ k + 1 * 2 ^ k - 1)
        · rw [if_pos ⟨hq, by unfold okm; rw [decide_eq_true r2, Bool.or_true]⟩]
          refine ⟨I', ?_, f2⟩
          simp (disch := omega) only [q_X9_number_42, q_X9_number_44, q_X9_number_45, q_X9_number_47, q_X9_number_48, q_X9_number_50, q_X9_number_51, q_X9_number_53, q_X9_number_54, q_X9_number_56, q_X9_number_58, q_X9_number_59, q_X9_number_61, q_X9_number_62, q_X9_number_63, q_X9_number_64, q_X9_number_65, q_X9_number_67, q_X9_number_69, q_X9_number_70, q_X9_number_71, q_X9_number_72, q_X9_number_75, q_X9_number_78, q_X9_number_79, q_X9_number_81, q_X9_number_84, q_X9_number_85, q_X9_number_87, q_X9_number_90, q_X9_number_93, q_X9_number_95, q_X9_number_97, q_X9_number_100, q_X9_number_102, q_X9_number_104, q_X9_number_107, q_X9_number_110, q_X9_number_113, q_X9_number_114, q_X9_number_115, q_X9_number_117, q_X9_number_118, q_X9_number_120, q_X9_number_121, q_X9_number_123, q_X9_number_124, q_X9_number_125, q_X9_number_128, q_X9_number_129, q_X9_number_130, q_X9_number_133, q_X9_number_136, nI_add, pI_le, pI_lt, pI_eq, pI_neg, pI_nn, pI_le0, pI_gt0, pI_eq0, xbV_s, xbU_s, if_true, if_false, bI_eq0, Nat.reduceAdd, Nat.reduceSub, Nat.reduceEqDiff, Nat.reduceLeDiff, Nat.reduceLT, Bool.true_eq_false, Bool.false_eq_true, pk_mul, pk_shlG, e9, s9_in1, ex, s9_less, s9_more, r1, r2, k9, h3, e2]
          exact f1
        · rw [if_neg (fun q => by have q2 := q.2; unfold okm at q2; rw [decide_eq_false r1, decide_eq_false r2] at q2; cases q2)]
          refine ⟨I, ?_, mGn.rf, h3⟩
          simp (disch := omega) only [q_X9_number_42, q_X9_number_44, q_X9_number_45, q_X9_number_47, q_X9_number_48, q_X9_number_50, q_X9_number_51, q_X9_number_53, q_X9_number_54, q_X9_number_56, q_X9_number_58, q_X9_number_59, q_X9_number_61, q_X9_number_62, q_X9_number_63, q_X9_number_64, q_X9_number_65, q_X9_number_67, q_X9_number_69, q_X9_number_70, q_X9_number_71, q_X9_number_72, q_X9_number_75, q_X9_number_78, q_X9_number_79, q_X9_number_81, q_X9_number_84, q_X9_number_85, q_X9_number_87, q_X9_number_90, q_X9_number_93, q_X9_number_95, q_X9_number_97, q_X9_number_100, q_X9_number_102, q_X9_number_104, q_X9_number_107, q_X9_number_110, q_X9_number_113, q_X9_number_114, q_X9_number_115, q_X9_number_117, q_X9_number_118, q_X9_number_120, q_X9_number_121, q_X9_number_123, q_X9_number_124, q_X9_number_125, q_X9_number_128, q_X9_number_129, q_X9_number_130, q_X9_number_133, q_X9_number_136, nI_add, pI_le, pI_lt, pI_eq, pI_neg, pI_nn, pI_le0, pI_gt0, pI_eq0, xbV_s, xbU_s, if_true, if_false, bI_eq0, Nat.reduceAdd, Nat.reduceSub, Nat.reduceEqDiff, Nat.reduceLeDiff, Nat.reduceLT, Bool.true_eq_false, Bool.false_eq_true, pk_mul, pk_shlG, e9, s9_in1, ex, s9_less, s9_more, r1, r2]
          rfl
    · have ex := mdg_no ht hq
      rw [if_neg (fun q => hq q.1)]
      refine ⟨I, ?_, mGn.rf, h3⟩
      simp (disch := omega) only [q_X9_number_42, q_X9_number_44, q_X9_number_45, q_X9_number_47, q_X9_number_48, q_X9_number_50, q_X9_number_51, q_X9_number_53, q_X9_number_54, q_X9_number_56, q_X9_number_58, q_X9_number_59, q_X9_number_61, q_X9_number_62, q_X9_number_63, q_X9_number_64, q_X9_number_65, q_X9_number_67, q_X9_number_69, q_X9_number_70, q_X9_number_71, q_X9_number_72, q_X9_number_75, q_X9_number_78, q_X9_number_79, q_X9_number_81, q_X9_number_84, q_X9_number_85, q_X9_number_87, q_X9_number_90, q_X9_number_93, q_X9_number_95, q_X9_number_97, q_X9_number_100, q_X9_number_102, q_X9_number_104, q_X9_number_107, q_X9_number_110, q_X9_number_113, q_X9_number_114, q_X9_number_115, q_X9_number_117, q_X9_number_118, q_X9_number_120, q_X9_number_121, q_X9_number_123, q_X9_number_124, q_X9_number_125, q_X9_number_128, q_X9_number_129, q_X9_number_130, q_X9_number_133, q_X9_number_136, nI_add, pI_le, pI_lt, pI_eq, pI_neg, pI_nn, pI_le0, pI_gt0, pI_eq0, xbV_s, xbU_s, if_true, if_false, bI_eq0, Nat.reduceAdd, Nat.reduceSub, Nat.reduceEqDiff, Nat.reduceLeDiff, Nat.reduceLT, Bool.true_eq_false, Bool.false_eq_true, s9_in1, ex]
      rfl
theorem s9_num {wd lo hi lo2 hi2 p : Nat} {I : xMem} (hL : L ≤ 160) (ht : ∀ j, j < L → t j ≤ 255) (hlo : lo ≤ 5000) (hhi : hi ≤ 5000) (hlo2 : lo2 ≤ 5000) (hhi2 : hi2 ≤ 5000) (hw : wd ≤ 12) (hp : p ≤ 188) (hT : tM I t L) (h3 : I 189 3 = nI p) : ∃ I', f_X9_number [.ref 189, .int (nI wd), .int (nI lo), .int (nI hi), .int (nI lo2), .int (nI hi2)] I = some (.inl (some (.int (mVal (pN t L (okm lo hi lo2 hi2) wd 0 p)))), I') ∧ mGn I I' ∧ I' 189 3 = nI (mPos (pN t L (okm lo hi lo2 hi2) wd 0 p)) := by
  have hp3 : 2 ^ wd ≤ 2 ^ 12 := Nat.pow_le_pow_right (by decide) (by omega)
  obtain ⟨I', f1, f2, f3⟩ := s9_num_l (wd := wd) hL ht hlo hhi hlo2 hhi2 wd 0 p I none none none (by omega) hw (by omega) hT h3
  refine ⟨I', ?_, f2, f3⟩
  rw [e_X9_number]
  simp (disch := omega) only [q_X9_number_0, q_X9_number_1, q_X9_number_3, q_X9_number_4, q_X9_number_5, q_X9_number_6, nI_add, pI_le, pI_lt, pI_eq, pI_neg, pI_nn, pI_le0, pI_gt0, pI_eq0, xbV_s, xbU_s, if_true, if_false, bI_eq0, Nat.reduceAdd, Nat.reduceSub, Nat.reduceEqDiff, Nat.reduceLeDiff, Nat.reduceLT, Bool.true_eq_false, Bool.false_eq_true]
  exact f1
theorem okm_c {lo hi a b : Nat} (h1 : lo ≤ hi) (h2 : a ≤ b) : okm lo hi 1 0 a b = okc lo hi a b := by
  unfold okm okc
  have e : decide (max 1 a ≤ min 0 b) = false := decide_eq_false (by omega)
  rw [e, Bool.or_false]
  by_cases q : a ≤ hi ∧ lo ≤ b
  · rw [decide_eq_true q, decide_eq_true (by omega)]
  · rw [decide_eq_false q, decide_eq_false (by omega)]
theorem s9_numIn {wd lo hi p : Nat} {I : xMem} (hL : L ≤ 160) (ht : ∀ j, j < L → t j ≤ 255) (hlh : lo ≤ hi) (hhi : hi ≤ 5000) (hw : wd ≤ 12) (hp : p ≤ 188) (hT : tM I t L) (h3 : I 189 3 = nI p) : ∃ I', f_X9_numberIn [.ref 189, .int (nI wd), .int (nI lo), .int (nI hi)] I = some (.inl (some (.int (mVal (pN t L (okc lo hi) wd 0 p)))), I') ∧ mGn I I' ∧ I' 189 3 = nI (mPos (pN t L (okc lo hi) wd 0 p)) := by
  have k9 := x189
  obtain ⟨I', f1, f2, f3⟩ := s9_num (lo2 := 1) (hi2 := 0) (lo := lo) (hi := hi) (I := I) hL ht (by omega) hhi (by omega) (by omega) hw hp hT h3
  have e : pN t L (okm lo hi 1 0) wd 0 p = pN t L (okc lo hi) wd 0 p := pN_congr (fun a b hab _ _ => okm_c hlh hab)
  rw [e] at f1 f3
  refine ⟨I', ?_, f2, f3⟩
  rw [e_X9_numberIn]
  simp (disch := omega) only [q_X9_numberIn_0, q_X9_numberIn_1, q_X9_numberIn_2, q_X9_numberIn_3, q_X9_numberIn_4, q_X9_numberIn_5, q_X9_numberIn_6, q_X9_numberIn_9, nI_add, pI_le, pI_lt, pI_eq, pI_neg, pI_nn, pI_le0, pI_gt0, pI_eq0, xbV_s, xbU_s, if_true, if_false, bI_eq0, Nat.reduceAdd, Nat.reduceSub, Nat.reduceEqDiff, Nat.reduceLeDiff, Nat.reduceLT, Bool.true_eq_false, Bool.false_eq_true, k9, f1]
theorem pN_range {lo hi : Nat} : ∀ {k v p : Nat}, (1 ≤ k ∨ (lo ≤ v ∧ v ≤ hi)) → ∀ x, pN t L (okc lo hi) k v p = .inr x → (lo ≤ x.1 ∧ x.1 ≤ hi) ∧ x.2 = p + k
  | 0, v, p, h, x, e => by
    cases e
    exact ⟨by omega, rfl⟩
  | k + 1, v, p, h, x, e => by
    rw [pN_s] at e
    by_cases q : dgt t L p < 2 ∧ okc lo hi ((2 * v + dgt t L p) * 2 ^ k) ((2 * v + dgt t L p) * 2 ^ k + 1 * 2 ^ k - 1) = true
    · rw [if_pos q] at e
      have q2 := q.2
      unfold okc at q2
      have q2 := of_decide_eq_true q2
      have a := pN_range (k := k) (v := 2 * v + dgt t L p) (p := p + 1) (by
        by_cases k0 : k = 0
        · subst k0
          rw [Nat.pow_zero] at q2
          exact Or.inr (by omega)
        · exact Or.inl (by omega)) x e
      exact ⟨a.1, by omega⟩
    · rw [if_neg q] at e
      cases e
theorem pN_err {ok : Nat → Nat → Bool} : ∀ {k v p e : Nat}, pN t L ok k v p = .inl e → p ≤ e ∧ e < p + k
  | 0, v, p, e, h => by cases h
  | k + 1, v, p, e, h => by
    rw [pN_s] at h
    by_cases q : dgt t L p < 2 ∧ ok ((2 * v + dgt t L p) * 2 ^ k) ((2 * v + dgt t L p) * 2 ^ k + 1 * 2 ^ k - 1) = true
    · rw [if_pos q] at h
      have := pN_err h
      omega
    · rw [if_neg q] at h
      cases h
      omega
theorem dgt_lt {p : Nat} (h : dgt t L p < 2) : p < L := by
  unfold dgt at h
  by_cases q : p < L
  · exact q
  · rw [if_neg q] at h; omega
theorem pN_le {ok : Nat → Nat → Bool} : ∀ {k v p : Nat}, p ≤ L → (∀ e, pN t L ok k v p = .inl e → e ≤ L) ∧ ∀ x, pN t L ok k v p = .inr x → x.2 ≤ L
  | 0, v, p, h => ⟨fun e q => (by cases q), fun x q => (by cases q; exact h)⟩
  | k + 1, v, p, h => by
    rw [pN_s]
    by_cases q : dgt t L p < 2 ∧ ok ((2 * v + dgt t L p) * 2 ^ k) ((2 * v + dgt t L p) * 2 ^ k + 1 * 2 ^ k - 1) = true
    · rw [if_pos q]
      exact pN_le (dgt_lt q.1)
    · rw [if_neg q]
      exact ⟨fun e q => (by cases q; exact h), fun x q => (by cases q)⟩
end PM
end P39
