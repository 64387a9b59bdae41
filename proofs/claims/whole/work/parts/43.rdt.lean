/-! ===== pages in the text: steps ===== -/
section P43
section PU
variable {t : Nat → Nat} {L : Nat}
def rSh (D : Nat) (r : Nat ⊕ (Nat × Nat)) : Nat ⊕ (Nat × Nat) := match r with
  | .inl e => .inl e
  | .inr x => .inr (x.1 + D, x.2)
theorem pN_shift {ok : Nat → Nat → Bool} {D : Nat} : ∀ {k v c p : Nat}, c * 2 ^ k = D → pN t L ok k (v + c) p = rSh D (pN t L (fun a b => ok (a + D) (b + D)) k v p)
  | 0, v, c, p, h => by
    rw [Nat.pow_zero, Nat.mul_one] at h
    subst h
    rfl
  | k + 1, v, c, p, h => by
    have hp : 0 < 2 ^ k := Nat.pow_pos (by decide)
    have h2 : (2 * c) * 2 ^ k = D := by rw [← h, Nat.pow_succ, Nat.mul_comm (2 ^ k) 2, ← Nat.mul_assoc, Nat.mul_comm c 2]
    have e1 : 2 * (v + c) + dgt t L p = (2 * v + dgt t L p) + 2 * c := by omega
    have e2 : (2 * v + dgt t L p + 2 * c) * 2 ^ k = (2 * v + dgt t L p) * 2 ^ k + D := by rw [Nat.add_mul, h2]
    have e3 : (2 * v + dgt t L p) * 2 ^ k + D + 1 * 2 ^ k - 1 = (2 * v + dgt t L p) * 2 ^ k + 1 * 2 ^ k - 1 + D := by omega
    rw [pN_s, pN_s, e1, e2, e3, pN_shift (v := 2 * v + dgt t L p) (c := 2 * c) h2]
    by_cases q : dgt t L p < 2 ∧ ok ((2 * v + dgt t L p) * 2 ^ k + D) ((2 * v + dgt t L p) * 2 ^ k + 1 * 2 ^ k - 1 + D) = true
    · rw [if_pos q, if_pos q]
    · rw [if_neg q, if_neg q]
      rfl
def okS (k v : Nat) : Nat → Nat → Bool := okm 0 (min (2 ^ k - 1) (1023 - v)) (2 * 2 ^ k - min (2 ^ k) v) (2 * 2 ^ k - 1)
def okB (v : Nat) : Nat → Nat → Bool := okc 0 (if v ≤ 0 then 0 else 1)
theorem okS_0 {k v a b : Nat} (hv : v ≤ 1023) (hab : a ≤ b) (hb : b < 2 ^ k) : okS k v a b = okc 0 (1023 - v) a b := by
  unfold okS okm okc
  have e : decide (max (2 * 2 ^ k - min (2 ^ k) v) a ≤ min (2 * 2 ^ k - 1) b) = false := decide_eq_false (by omega)
  rw [e, Bool.or_false]
  by_cases q : a ≤ 1023 - v ∧ 0 ≤ b
  · rw [decide_eq_true q, decide_eq_true (by omega)]
  · rw [decide_eq_false q, decide_eq_false (by omega)]
theorem okS_1 {k v a b : Nat} (hv0 : 0 < v) (hab : a ≤ b) (hb : b < 2 ^ k) : okS k v (a + 2 ^ k) (b + 2 ^ k) = okc (2 ^ k - v) (2 ^ k - 1) a b := by
  unfold okS okm okc
  have e : decide (max 0 (a + 2 ^ k) ≤ min (min (2 ^ k - 1) (1023 - v)) (b + 2 ^ k)) = false := decide_eq_false (by omega)
  rw [e, Bool.false_or]
  by_cases q : a ≤ 2 ^ k - 1 ∧ 2 ^ k - v ≤ b
  · rw [decide_eq_true q, decide_eq_true (by omega)]
  · rw [decide_eq_false q, decide_eq_false (by omega)]
theorem pN_step {k v p : Nat} (hv : v ≤ 1023) : (pN t L (okB v) 1 0 p = .inl p ∧ pN t L (okS k v) (k + 1) 0 p = .inl p) ∨ (pN t L (okB v) 1 0 p = .inr (0, p + 1) ∧ pN t L (okS k v) (k + 1) 0 p = pN t L (okc 0 (1023 - v)) k 0 (p + 1)) ∨ (0 < v ∧ pN t L (okB v) 1 0 p = .inr (1, p + 1) ∧ pN t L (okS k v) (k + 1) 0 p = rSh (2 ^ k) (pN t L (okc (2 ^ k - v) (2 ^ k - 1)) k 0 (p + 1))) := by
  have hp : 0 < 2 ^ k := Nat.pow_pos (by decide)
  rw [pN_s t L (okS k v), pN_s t L (okB v)]
  by_cases hd : dgt t L p < 2
  · rcases (show dgt t L p = 0 ∨ dgt t L p = 1 by omega) with e | e
    · have c1 : okS k v ((2 * 0 + 0) * 2 ^ k) ((2 * 0 + 0) * 2 ^ k + 1 * 2 ^ k - 1) = true := by
        rw [okS_0 hv (by omega) (by omega)]
        unfold okc
        exact decide_eq_true (by omega)
      have c2 : okB v ((2 * 0 + 0) * 2 ^ 0) ((2 * 0 + 0) * 2 ^ 0 + 1 * 2 ^ 0 - 1) = true := by
        unfold okB okc
        exact decide_eq_true (by omega)
      rw [e] at hd ⊢
      rw [if_pos ⟨hd, c2⟩, if_pos ⟨hd, c1⟩]
      refine Or.inr (Or.inl ⟨rfl, ?_⟩)
      exact pN_congr (fun a b hab h1 h2 => okS_0 hv hab (by omega))
    · rw [e] at hd ⊢
      by_cases v0 : 0 < v
      · have c1 : okS k v ((2 * 0 + 1) * 2 ^ k) ((2 * 0 + 1) * 2 ^ k + 1 * 2 ^ k - 1) = true := by
          have := okS_1 (k := k) (v := v) (a := 0) (b := 2 ^ k - 1) v0 (by omega) (by omega)
          rw [show (2 * 0 + 1) * 2 ^ k + 1 * 2 ^ k - 1 = 2 ^ k - 1 + 2 ^ k by omega, show (2 * 0 + 1) * 2 ^ k = 0 + 2 ^ k by omega, this]
          unfold okc
          exact decide_eq_true (by omega)
        have c2 : okB v ((2 * 0 + 1) * 2 ^ 0) ((2 * 0 + 1) * 2 ^ 0 + 1 * 2 ^ 0 - 1) = true := by
          unfold okB okc
          rw [if_neg (by omega)]
          exact decide_eq_true (by omega)
        rw [if_pos ⟨hd, c2⟩, if_pos ⟨hd, c1⟩]
        refine Or.inr (Or.inr ⟨v0, rfl, ?_⟩)
        rw [show 2 * 0 + 1 = 0 + 1 from rfl, pN_shift (D := 2 ^ k) (v := 0) (c := 1) (by omega)]
        rw [pN_congr (ok' := okc (2 ^ k - v) (2 ^ k - 1)) (fun a b hab h1 h2 => okS_1 v0 hab (by omega))]
      · have c1 : ¬ okS k v ((2 * 0 + 1) * 2 ^ k) ((2 * 0 + 1) * 2 ^ k + 1 * 2 ^ k - 1) = true := by
          intro h
          unfold okS okm at h
          rw [Bool.or_eq_true, decide_eq_true_iff, decide_eq_true_iff] at h
          omega
        have c2 : ¬ okB v ((2 * 0 + 1) * 2 ^ 0) ((2 * 0 + 1) * 2 ^ 0 + 1 * 2 ^ 0 - 1) = true := by
          intro h
          unfold okB okc at h
          rw [if_pos (by omega), decide_eq_true_iff] at h
          omega
        rw [if_neg (fun q => c2 q.2), if_neg (fun q => c1 q.2)]
        exact Or.inl ⟨rfl, rfl⟩
  · rw [if_neg (fun q => hd q.1), if_neg (fun q => hd q.1)]
    exact Or.inl ⟨rfl, rfl⟩
theorem pI_bk {v s h : Nat} (h1 : h ≤ v + s) : nI v + (nI s - nI h) = nI (v + s - h) := by
  rw [← pI_sub h1, ← nI_add, Int32.sub_eq_add_neg, Int32.sub_eq_add_neg, Int32.add_assoc]
theorem pk_sh1 {w : Nat} (h1 : 1 ≤ w) (h2 : w ≤ 12) : nI 1 <<< ((nI w - nI 1) &&& 31) = nI (2 ^ (w - 1)) := pS_sh h1 (by omega)
theorem s3_stepE {w v e : Nat} {I : xMem} (hw1 : 1 ≤ w) (hw : w ≤ 11) (hv : v ≤ 1023) (h6 : I 163 6 = nI e) (he : e ≤ 200) : f_X3_readStep [.ref 163, .int (nI w), .int (nI v)] I = some (.inl (some (.int (nI 0))), I) := by
  have k3 := x163
  have e1 : nI w - nI 1 = nI (w - 1) := pI_sub hw1
  have e2 : nI 1023 - nI v = nI (1023 - v) := pI_sub hv
  have e3 := pk_sh1 hw1 (by omega : w ≤ 12)
  rw [e1] at e3
  rw [e_X3_readStep]
  by_cases v0 : v ≤ 0
  · simp (disch := omega) only [q_X3_readStep_0, q_X3_readStep_1, q_X3_readStep_2, q_X3_readStep_3, q_X3_readStep_4, q_X3_readStep_5, q_X3_readStep_6, q_X3_readStep_7, q_X3_readStep_8, q_X3_readStep_9, q_X3_readStep_10, q_X3_readStep_13, q_X3_readStep_14, q_X3_readStep_17, q_X3_readStep_18, q_X3_readStep_21, q_X3_readStep_22, q_X3_readStep_25, q_X3_readStep_26, q_X3_readStep_29, q_X3_readStep_30, q_X3_readStep_32, q_X3_readStep_34, q_X3_readStep_37, q_X3_readStep_38, q_X3_readStep_39, q_X3_readStep_40, q_X3_readStep_41, q_X3_readStep_42, q_X3_readStep_43, q_X3_readStep_44, q_X3_readStep_45, q_X3_readStep_48, q_X3_readStep_49, q_X3_readStep_50, q_X3_readStep_51, q_X3_readStep_54, q_X3_readStep_55, q_X3_readStep_56, q_X3_readStep_57, q_X3_readStep_58, q_X3_readStep_59, q_X3_readStep_60, q_X3_readStep_61, q_X3_readStep_62, q_X3_readStep_65, q_X3_readStep_66, q_X3_readStep_67, q_X3_readStep_70, nI_add, pI_le, pI_lt, pI_eq, pI_neg, pI_nn, pI_le0, pI_gt0, pI_eq0, xbV_s, xbU_s, if_true, if_false, bI_eq0, Nat.reduceAdd, Nat.reduceSub, Nat.reduceEqDiff, Nat.reduceLeDiff, Nat.reduceLT, Bool.true_eq_false, Bool.false_eq_true, k3, e1, e2, e3, v0, s3_numE (wd := 1) (lo := 0) (hi := 0) (by omega) h6 he, s3_numE (wd := w - 1) (lo := 0) (hi := 1023 - v) (by omega) h6 he]
    rw [show v = 0 by omega]
    simp (disch := omega) only [q_X3_readStep_0, q_X3_readStep_1, q_X3_readStep_2, q_X3_readStep_3, q_X3_readStep_4, q_X3_readStep_5, q_X3_readStep_6, q_X3_readStep_7, q_X3_readStep_8, q_X3_readStep_9, q_X3_readStep_10, q_X3_readStep_13, q_X3_readStep_14, q_X3_readStep_17, q_X3_readStep_18, q_X3_readStep_21, q_X3_readStep_22, q_X3_readStep_25, q_X3_readStep_26, q_X3_readStep_29, q_X3_readStep_30, q_X3_readStep_32, q_X3_readStep_34, q_X3_readStep_37, q_X3_readStep_38, q_X3_readStep_39, q_X3_readStep_40, q_X3_readStep_41, q_X3_readStep_42, q_X3_readStep_43, q_X3_readStep_44, q_X3_readStep_45, q_X3_readStep_48, q_X3_readStep_49, q_X3_readStep_50, q_X3_readStep_51, q_X3_readStep_54, q_X3_readStep_55, q_X3_readStep_56, q_X3_readStep_57, q_X3_readStep_58, q_X3_readStep_59, q_X3_readStep_60, q_X3_readStep_61, q_X3_readStep_62, q_X3_readStep_65, q_X3_readStep_66, q_X3_readStep_67, q_X3_readStep_70, nI_add, pI_le, pI_lt, pI_eq, pI_neg, pI_nn, pI_le0, pI_gt0, pI_eq0, xbV_s, xbU_s, if_true, if_false, bI_eq0, Nat.reduceAdd, Nat.reduceSub, Nat.reduceEqDiff, Nat.reduceLeDiff, Nat.reduceLT, Bool.true_eq_false, Bool.false_eq_true, k3, e1, e2, e3, v0, s3_numE (wd := 1) (lo := 0) (hi := 0) (by omega) h6 he, s3_numE (wd := w - 1) (lo := 0) (hi := 1023 - v) (by omega) h6 he]
  · have v0' : ¬ v = 0 := by omega
    simp (disch := omega) only [q_X3_readStep_0, q_X3_readStep_1, q_X3_readStep_2, q_X3_readStep_3, q_X3_readStep_4, q_X3_readStep_5, q_X3_readStep_6, q_X3_readStep_7, q_X3_readStep_8, q_X3_readStep_9, q_X3_readStep_10, q_X3_readStep_13, q_X3_readStep_14, q_X3_readStep_17, q_X3_readStep_18, q_X3_readStep_21, q_X3_readStep_22, q_X3_readStep_25, q_X3_readStep_26, q_X3_readStep_29, q_X3_readStep_30, q_X3_readStep_32, q_X3_readStep_34, q_X3_readStep_37, q_X3_readStep_38, q_X3_readStep_39, q_X3_readStep_40, q_X3_readStep_41, q_X3_readStep_42, q_X3_readStep_43, q_X3_readStep_44, q_X3_readStep_45, q_X3_readStep_48, q_X3_readStep_49, q_X3_readStep_50, q_X3_readStep_51, q_X3_readStep_54, q_X3_readStep_55, q_X3_readStep_56, q_X3_readStep_57, q_X3_readStep_58, q_X3_readStep_59, q_X3_readStep_60, q_X3_readStep_61, q_X3_readStep_62, q_X3_readStep_65, q_X3_readStep_66, q_X3_readStep_67, q_X3_readStep_70, nI_add, pI_le, pI_lt, pI_eq, pI_neg, pI_nn, pI_le0, pI_gt0, pI_eq0, xbV_s, xbU_s, if_true, if_false, bI_eq0, Nat.reduceAdd, Nat.reduceSub, Nat.reduceEqDiff, Nat.reduceLeDiff, Nat.reduceLT, Bool.true_eq_false, Bool.false_eq_true, k3, e1, e2, e3, v0', s3_numE (wd := 1) (lo := 0) (hi := 1) (by omega) h6 he, s3_numE (wd := w - 1) (lo := 0) (hi := 1023 - v) (by omega) h6 he]
end PU
end P43
