/-! ===== the class: measures ===== -/
section P27
theorem pI_ne9 {a : Nat} (ha : a < 2147483648) : (nI a = -9999) = False := by
  apply eq_false
  intro h
  have := congrArg Int32.toInt h
  rw [nI_toInt ha] at this
  have e : (-9999 : Int32).toInt = -9999 := by decide
  omega
theorem pI_mn {s v : Nat} : (if v < s then nI v else nI s) = nI (min s v) := by
  by_cases h : v < s
  · rw [if_pos h, Nat.min_eq_right (Nat.le_of_lt h)]
  · rw [if_neg h, Nat.min_eq_left (Nat.le_of_not_lt h)]
theorem pI_mx {s v : Nat} : (if s < v then nI v else nI s) = nI (max s v) := by
  by_cases h : s < v
  · rw [if_pos h, Nat.max_eq_right (Nat.le_of_lt h)]
  · rw [if_neg h, Nat.max_eq_left (Nat.le_of_not_lt h)]
/-- the rows outside b .. b+n-1 are as they were -/
def zG (b n : Nat) (I I' : xMem) : Prop := ∀ c, c < b ∨ b + n ≤ c → I' c = I c
theorem zG.rf {b n : Nat} {I : xMem} : zG b n I I := fun _ _ => rfl
theorem zG.up {b n a k : Nat} {x : Int32} {I I' : xMem} (h : zG b n I I') (h1 : b ≤ a) (h2 : a < b + n) : zG b n I (xup I' a k x) := fun c hc => by rw [xup_o (by omega)]; exact h c hc
theorem zG.tr {b n : Nat} {I I' I'' : xMem} (h : zG b n I I') (h' : zG b n I' I'') : zG b n I I'' := fun c hc => (h' c hc).trans (h c hc)
theorem zG.wd {b n b' n' : Nat} {I I' : xMem} (h : zG b n I I') (h1 : b' ≤ b) (h2 : b + n ≤ b' + n') : zG b' n' I I' := fun c hc => h c (by omega)
def xMes (b : Nat) : Prop := xK b = 2 ∧ xR b 0 = b + 1 ∧ xK (b + 1) = 10 ∧ xL (b + 1) = 12
/-- the measure b has been told w 0 .. w (k-1) -/
def cM (I : xMem) (b : Nat) (w : Nat → Nat) (k : Nat) : Prop := I b 1 = nI (pDiff w k) ∧ I b 2 = nI k ∧ I b 9 = nI (pStep w k) ∧ (0 < k → I b 3 = nI (w (k - 1)) ∧ I b 4 = nI (pMn w k) ∧ I b 5 = nI (pMx w k) ∧ I b 6 = nI (pRuns w k) ∧ I b 7 = nI (pWd (pDiff w k - 1)) ∧ I b 8 = nI (pWd (pMx w k - pMn w k))) ∧ (∀ j, j < k → pFree w (w j) j = true → I (b + 1) (pDiff w j) = nI (w j))
theorem cM.cg {I I' : xMem} {b k : Nat} {w : Nat → Nat} (h : cM I b w k) (h1 : I' b = I b) (h2 : I' (b + 1) = I (b + 1)) : cM I' b w k := by
  unfold cM
  rw [h1, h2]
  exact h
theorem s8_width_l {v : Nat} {I : xMem} (hv : v ≤ 2047) : ∀ d k, k + d = pWd v → xgo k_X8_widthOf 2 [some (.int (nI v)), some (.int (nI k))] [] I = some (.inl (some (.int (nI (pWd v)))), I) := by
  have hb : pWd v ≤ 11 := pWd_small (by omega)
  intro d
  induction d with
  | zero =>
    intro k hk
    have e : k = pWd v := by omega
    rw [← e]
    rw [q_X8_widthOf_2]
    by_cases h11 : 11 ≤ k
    · simp (disch := omega) only [q_X8_widthOf_0, q_X8_widthOf_1, q_X8_widthOf_3, q_X8_widthOf_5, q_X8_widthOf_8, q_X8_widthOf_9, q_X8_widthOf_10, q_X8_widthOf_11, q_X8_widthOf_14, q_X8_widthOf_17, q_X8_widthOf_20, q_X8_widthOf_21, nI_add, pI_le, pI_lt, pI_eq, pI_neg, pI_nn, pI_le0, pI_gt0, pI_eq0, xbV_s, xbU_s, if_true, if_false, bI_eq0, Nat.reduceAdd, Nat.reduceSub, Nat.reduceEqDiff, Nat.reduceLeDiff, Nat.reduceLT, Bool.true_eq_false, Bool.false_eq_true, h11]
    · have h0 : v / 2 ^ k = 0 := Nat.div_eq_of_lt (pWd_le.mp (by omega))
      simp (disch := omega) only [q_X8_widthOf_0, q_X8_widthOf_1, q_X8_widthOf_3, q_X8_widthOf_5, q_X8_widthOf_8, q_X8_widthOf_9, q_X8_widthOf_10, q_X8_widthOf_11, q_X8_widthOf_14, q_X8_widthOf_17, q_X8_widthOf_20, q_X8_widthOf_21, nI_add, pI_le, pI_lt, pI_eq, pI_neg, pI_nn, pI_le0, pI_gt0, pI_eq0, xbV_s, xbU_s, if_true, if_false, bI_eq0, Nat.reduceAdd, Nat.reduceSub, Nat.reduceEqDiff, Nat.reduceLeDiff, Nat.reduceLT, Bool.true_eq_false, Bool.false_eq_true, pk_shrG, h0, h11]
  | succ d ih =>
    intro k hk
    have h0 : ¬ v / 2 ^ k = 0 := by
      intro q
      have h1 : ¬ v < 2 ^ k := fun z => by have := pWd_le.mpr z; omega
      rcases (Nat.div_eq_zero_iff).mp q with q1 | q1
      · exact absurd q1 (Nat.ne_of_gt (Nat.pow_pos (by decide)))
      · exact h1 q1
    have h1 : v / 2 ^ k < 2147483648 := Nat.lt_of_le_of_lt (Nat.div_le_self _ _) (by omega)
    have h11 : ¬ 11 ≤ k := by omega
    rw [q_X8_widthOf_2]
    simp (disch := omega) only [q_X8_widthOf_0, q_X8_widthOf_1, q_X8_widthOf_3, q_X8_widthOf_5, q_X8_widthOf_8, q_X8_widthOf_9, q_X8_widthOf_10, q_X8_widthOf_11, q_X8_widthOf_14, q_X8_widthOf_17, q_X8_widthOf_20, q_X8_widthOf_21, nI_add, pI_le, pI_lt, pI_eq, pI_neg, pI_nn, pI_le0, pI_gt0, pI_eq0, xbV_s, xbU_s, if_true, if_false, bI_eq0, Nat.reduceAdd, Nat.reduceSub, Nat.reduceEqDiff, Nat.reduceLeDiff, Nat.reduceLT, Bool.true_eq_false, Bool.false_eq_true, pk_shrG, h0, h11]
    exact ih (k + 1) (by omega)
theorem s8_width {v : Nat} {I : xMem} (hv : v ≤ 2047) : f_X8_widthOf [.int (nI v)] I = some (.inl (some (.int (nI (pWd v)))), I) := by
  rw [e_X8_widthOf]
  simp only [q_X8_widthOf_0, q_X8_widthOf_1, q_X8_widthOf_3, q_X8_widthOf_5, q_X8_widthOf_8, q_X8_widthOf_9, q_X8_widthOf_10, q_X8_widthOf_11, q_X8_widthOf_14, q_X8_widthOf_17, q_X8_widthOf_20, q_X8_widthOf_21]
  exact s8_width_l hv (pWd v) 0 (by omega)
/-- the word number i is a value told -/
theorem pDiff_ex (w : Nat → Nat) : ∀ {k i : Nat}, i < pDiff w k → ∃ j, j < k ∧ pFree w (w j) j = true ∧ pDiff w j = i
  | 0, i, h => absurd h (Nat.not_lt_zero _)
  | k + 1, i, h => by
    by_cases q : pFree w (w k) k = true
    · rw [pDiff_new w q] at h
      by_cases e : i = pDiff w k
      · exact ⟨k, by omega, q, e.symm⟩
      · obtain ⟨j, h1, h2, h3⟩ := pDiff_ex w (k := k) (i := i) (by omega)
        exact ⟨j, by omega, h2, h3⟩
    · rw [pDiff_old w q] at h
      obtain ⟨j, h1, h2, h3⟩ := pDiff_ex w h
      exact ⟨j, by omega, h2, h3⟩
/-- where a value that is there stands first -/
theorem pPos_lt {w : Nat → Nat} {x : Nat} : ∀ {n}, pFree w x n = false → pPos w x n < n ∧ w (pPos w x n) = x ∧ pFree w x (pPos w x n) = true
  | 0, h => by cases h
  | n + 1, h => by
    unfold pPos
    by_cases q : pFree w x n = true
    · rw [if_pos q]
      have e : w n = x := by
        unfold pFree at h
        rw [q, Bool.true_and] at h
        simpa using h
      rw [if_pos e]
      exact ⟨by omega, e, q⟩
    · rw [if_neg q]
      obtain ⟨h1, h2, h3⟩ := pPos_lt (w := w) (x := x) (n := n) (by simpa using q)
      exact ⟨by omega, h2, h3⟩
def xWn (w : Nat → Nat) (x k : Nat) : Int32 := if pFree w x k = true then -9999 else nI (pWord w x k)
theorem pWord_lt {w : Nat → Nat} {x k : Nat} (h : pFree w x k = false) : pWord w x k < pDiff w k := by
  obtain ⟨h1, h2, h3⟩ := pPos_lt h
  have e := pDiff_new w (n := pPos w x k) (by rw [h2]; exact h3)
  have := pDiff_mono w (n := pPos w x k + 1) (m := k) (by omega)
  unfold pWord
  omega
theorem s2_num_l {b k x : Nat} {w : Nat → Nat} {I : xMem} (hb : xMes b) (h : cM I b w k) (hk : k ≤ 12) (hw : ∀ j, j < k → w j ≤ 1023) (hx : x ≤ 1023) : ∀ d i, i + d = pDiff w k → (pFree w x k = false → i ≤ pWord w x k) → xgo k_X2_numberOfWord 2 [some (.ref b), some (.int (nI x)), some (.int (nI i))] [] I = some (.inl (some (.int (xWn w x k))), I) := by
  obtain ⟨b1, b2, b3, b4⟩ := hb
  have hd := pDiff_le w k
  intro d
  induction d with
  | zero =>
    intro i hi hp
    have e : i = pDiff w k := by omega
    subst e
    have e2 : xWn w x k = -9999 := by
      unfold xWn
      cases q : pFree w x k with
      | true => rw [if_pos rfl]
      | false => have := pWord_lt q; have := hp q; omega
    rw [q_X2_numberOfWord_2, e2]
    simp (disch := omega) only [q_X2_numberOfWord_0, q_X2_numberOfWord_1, q_X2_numberOfWord_3, q_X2_numberOfWord_4, q_X2_numberOfWord_7, q_X2_numberOfWord_10, q_X2_numberOfWord_11, q_X2_numberOfWord_12, q_X2_numberOfWord_15, q_X2_numberOfWord_16, q_X2_numberOfWord_19, q_X2_numberOfWord_20, q_X2_numberOfWord_23, q_X2_numberOfWord_24, q_X2_numberOfWord_25, q_X2_numberOfWord_26, q_X2_numberOfWord_29, q_X2_numberOfWord_30, q_X2_numberOfWord_31, q_X2_numberOfWord_34, q_X2_numberOfWord_37, q_X2_numberOfWord_40, nI_add, pI_le, pI_lt, pI_eq, pI_neg, pI_nn, pI_le0, pI_gt0, pI_eq0, xbV_s, xbU_s, if_true, if_false, bI_eq0, Nat.reduceAdd, Nat.reduceSub, Nat.reduceEqDiff, Nat.reduceLeDiff, Nat.reduceLT, Bool.true_eq_false, Bool.false_eq_true, b1, h.1, Nat.le_refl]
  | succ d ih =>
    intro i hi hp
    obtain ⟨j, j1, j2, j3⟩ := pDiff_ex w (k := k) (i := i) (by omega)
    have g := h.2.2.2.2 j j1 j2
    have hwj := hw j j1
    rw [j3] at g
    have n1 : ¬ pDiff w k ≤ i := by omega
    have n2 : ¬ 12 ≤ i := by omega
    by_cases e : w j = x
    · have e2 : xWn w x k = nI i := by
        unfold xWn
        have hf : ¬ pFree w x k = true := fun z => pFree_iff.mp z j j1 e
        have j2' : pFree w x j = true := by rw [← e]; exact j2
        rw [if_neg hf]
        unfold pWord
        rw [pPos_hit j2' e j1, j3]
      rw [q_X2_numberOfWord_2, e2]
      simp (disch := omega) only [q_X2_numberOfWord_0, q_X2_numberOfWord_1, q_X2_numberOfWord_3, q_X2_numberOfWord_4, q_X2_numberOfWord_7, q_X2_numberOfWord_10, q_X2_numberOfWord_11, q_X2_numberOfWord_12, q_X2_numberOfWord_15, q_X2_numberOfWord_16, q_X2_numberOfWord_19, q_X2_numberOfWord_20, q_X2_numberOfWord_23, q_X2_numberOfWord_24, q_X2_numberOfWord_25, q_X2_numberOfWord_26, q_X2_numberOfWord_29, q_X2_numberOfWord_30, q_X2_numberOfWord_31, q_X2_numberOfWord_34, q_X2_numberOfWord_37, q_X2_numberOfWord_40, nI_add, pI_le, pI_lt, pI_eq, pI_neg, pI_nn, pI_le0, pI_gt0, pI_eq0, xbV_s, xbU_s, if_true, if_false, bI_eq0, Nat.reduceAdd, Nat.reduceSub, Nat.reduceEqDiff, Nat.reduceLeDiff, Nat.reduceLT, Bool.true_eq_false, Bool.false_eq_true, b1, b2, b3, b4, h.1, g, n1, n2, e]
    · rw [q_X2_numberOfWord_2]
      simp (disch := omega) only [q_X2_numberOfWord_0, q_X2_numberOfWord_1, q_X2_numberOfWord_3, q_X2_numberOfWord_4, q_X2_numberOfWord_7, q_X2_numberOfWord_10, q_X2_numberOfWord_11, q_X2_numberOfWord_12, q_X2_numberOfWord_15, q_X2_numberOfWord_16, q_X2_numberOfWord_19, q_X2_numberOfWord_20, q_X2_numberOfWord_23, q_X2_numberOfWord_24, q_X2_numberOfWord_25, q_X2_numberOfWord_26, q_X2_numberOfWord_29, q_X2_numberOfWord_30, q_X2_numberOfWord_31, q_X2_numberOfWord_34, q_X2_numberOfWord_37, q_X2_numberOfWord_40, nI_add, pI_le, pI_lt, pI_eq, pI_neg, pI_nn, pI_le0, pI_gt0, pI_eq0, xbV_s, xbU_s, if_true, if_false, bI_eq0, Nat.reduceAdd, Nat.reduceSub, Nat.reduceEqDiff, Nat.reduceLeDiff, Nat.reduceLT, Bool.true_eq_false, Bool.false_eq_true, b1, b2, b3, b4, h.1, g, n1, n2, e]
      refine ih (i + 1) (by omega) (fun q => ?_)
      have h0 := hp q
      have h1 : i ≠ pWord w x k := by
        intro z
        obtain ⟨a1, a2, a3⟩ := pPos_lt q
        have e3 : pPos w x k = j := by
          rcases Nat.lt_trichotomy (pPos w x k) j with u | u | u
          · have a4 := pDiff_new w (n := pPos w x k) (by rw [a2]; exact a3)
            have a5 := pDiff_mono w (n := pPos w x k + 1) (m := j) (by omega)
            unfold pWord at z
            omega
          · exact u
          · have a4 := pDiff_new w j2
            have a5 := pDiff_mono w (n := j + 1) (m := pPos w x k) (by omega)
            unfold pWord at z
            omega
        rw [e3] at a2
        exact e a2
      omega
theorem s2_num {b k x : Nat} {w : Nat → Nat} {I : xMem} (hb : xMes b) (h : cM I b w k) (hk : k ≤ 12) (hw : ∀ j, j < k → w j ≤ 1023) (hx : x ≤ 1023) : f_X2_numberOfWord [.ref b, .int (nI x)] I = some (.inl (some (.int (xWn w x k))), I) := by
  rw [e_X2_numberOfWord]
  simp only [q_X2_numberOfWord_0, q_X2_numberOfWord_1, q_X2_numberOfWord_3, q_X2_numberOfWord_4, q_X2_numberOfWord_7, q_X2_numberOfWord_10, q_X2_numberOfWord_11, q_X2_numberOfWord_12, q_X2_numberOfWord_15, q_X2_numberOfWord_16, q_X2_numberOfWord_19, q_X2_numberOfWord_20, q_X2_numberOfWord_23, q_X2_numberOfWord_24, q_X2_numberOfWord_25, q_X2_numberOfWord_26, q_X2_numberOfWord_29, q_X2_numberOfWord_30, q_X2_numberOfWord_31, q_X2_numberOfWord_34, q_X2_numberOfWord_37, q_X2_numberOfWord_40]
  exact s2_num_l hb h hk hw hx (pDiff w k) 0 (by omega) (fun _ => Nat.zero_le _)
theorem s2_wordAt {b i : Nat} {I : xMem} (hb : xMes b) (hi : i < 12) : f_X2_wordAt [.ref b, .int (nI i)] I = some (.inl (some (.int (I (b + 1) i))), I) := by
  obtain ⟨b1, b2, b3, b4⟩ := hb
  have n2 : ¬ 12 ≤ i := by omega
  rw [e_X2_wordAt]
  simp (disch := omega) only [q_X2_wordAt_0, q_X2_wordAt_1, q_X2_wordAt_4, q_X2_wordAt_5, q_X2_wordAt_6, q_X2_wordAt_9, q_X2_wordAt_10, q_X2_wordAt_13, q_X2_wordAt_14, q_X2_wordAt_17, q_X2_wordAt_18, q_X2_wordAt_19, q_X2_wordAt_22, q_X2_wordAt_23, nI_add, pI_le, pI_lt, pI_eq, pI_neg, pI_nn, pI_le0, pI_gt0, pI_eq0, xbV_s, xbU_s, if_true, if_false, bI_eq0, Nat.reduceAdd, Nat.reduceSub, Nat.reduceEqDiff, Nat.reduceLeDiff, Nat.reduceLT, Bool.true_eq_false, Bool.false_eq_true, b1, b2, b3, b4, n2]
theorem s2_start {b : Nat} {w : Nat → Nat} {I : xMem} (hb : xMes b) : ∃ I', f_X2_start [.ref b] I = some (.inl none, I') ∧ zG b 2 I I' ∧ cM I' b w 0 := by
  obtain ⟨b1, b2, b3, b4⟩ := hb
  refine ⟨xup (xup (xup I b 2 (nI 0)) b 1 (nI 0)) b 9 (nI 1), ?_, ((zG.rf.up (Nat.le_refl _) (by omega)).up (Nat.le_refl _) (by omega)).up (Nat.le_refl _) (by omega), ?_, ?_, ?_, fun h => absurd h (by omega), fun j hj => absurd hj (Nat.not_lt_zero _)⟩
  · rw [e_X2_start]
    simp (disch := omega) only [q_X2_start_0, q_X2_start_1, q_X2_start_2, q_X2_start_5, q_X2_start_6, q_X2_start_7, q_X2_start_10, q_X2_start_11, q_X2_start_12, q_X2_start_15, b1]
  · rw [xup_d (by omega), xup_s]; rfl
  · rw [xup_d (by omega), xup_d (by omega), xup_s]
  · rw [xup_s]; rfl
theorem s2_inc_a {b k : Nat} {w : Nat → Nat} {I : xMem} (hb : xMes b) (h : cM I b w k) (hk : k < 12) (hw : ∀ j, j ≤ k → w j ≤ 1023) : ∃ I', xgo k_X2_include 0 [some (.ref b), some (.int (nI (w k))), none] [] I = xgo k_X2_include 43 [some (.ref b), some (.int (nI (w k))), none] [] I' ∧ zG b 2 I I' ∧ (∀ c, c ≠ 1 → I' b c = I b c) ∧ I' b 1 = nI (pDiff w (k + 1)) ∧ (∀ j, j < k + 1 → pFree w (w j) j = true → I' (b + 1) (pDiff w j) = nI (w j)) := by
  have hN := s2_num hb h (by omega) (fun j hj => hw j (by omega)) (hw k (Nat.le_refl _))
  obtain ⟨b1, b2, b3, b4⟩ := hb
  have hd := pDiff_le w k
  have n2 : ¬ 12 ≤ pDiff w k := by omega
  cases q : pFree w (w k) k with
  | true =>
    have e : xWn w (w k) k = -9999 := by unfold xWn; rw [if_pos q]
    rw [e] at hN
    refine ⟨xup (xup I (b + 1) (pDiff w k) (nI (w k))) b 1 (nI (pDiff w k + 1)), ?_, (zG.rf.up (by omega) (by omega)).up (by omega) (by omega), fun c hc => ?_, ?_, fun j hj hf => ?_⟩
    · simp (disch := omega) only [q_X2_include_0, q_X2_include_1, q_X2_include_2, q_X2_include_5, q_X2_include_8, q_X2_include_11, q_X2_include_12, q_X2_include_15, q_X2_include_16, q_X2_include_19, q_X2_include_20, q_X2_include_23, q_X2_include_24, q_X2_include_27, q_X2_include_28, q_X2_include_31, q_X2_include_32, q_X2_include_33, q_X2_include_34, q_X2_include_35, q_X2_include_38, q_X2_include_39, q_X2_include_40, nI_add, pI_le, pI_lt, pI_eq, pI_neg, pI_nn, pI_le0, pI_gt0, pI_eq0, xbV_s, xbU_s, if_true, if_false, bI_eq0, Nat.reduceAdd, Nat.reduceSub, Nat.reduceEqDiff, Nat.reduceLeDiff, Nat.reduceLT, Bool.true_eq_false, Bool.false_eq_true, b1, b2, b3, b4, hN, h.1, n2, xup_o]
    · rw [xup_d hc, xup_o (by omega)]
    · rw [xup_s, pDiff_new w q]
    · rw [xup_o (by omega)]
      by_cases e2 : j = k
      · subst e2; rw [xup_s]
      · have a := pDiff_new w hf
        have a2 := pDiff_mono w (n := j + 1) (m := k) (by omega)
        rw [xup_d (by omega)]
        exact h.2.2.2.2 j (by omega) hf
  | false =>
    have e : xWn w (w k) k = nI (pWord w (w k) k) := by unfold xWn; rw [if_neg (by rw [q]; decide)]
    have hp := pWord_lt q
    rw [e] at hN
    refine ⟨I, ?_, zG.rf, fun _ _ => rfl, ?_, fun j hj hf => ?_⟩
    · simp (disch := omega) only [q_X2_include_0, q_X2_include_1, q_X2_include_2, q_X2_include_5, q_X2_include_8, q_X2_include_11, q_X2_include_12, q_X2_include_15, q_X2_include_16, q_X2_include_19, q_X2_include_20, q_X2_include_23, q_X2_include_24, q_X2_include_27, q_X2_include_28, q_X2_include_31, q_X2_include_32, q_X2_include_33, q_X2_include_34, q_X2_include_35, q_X2_include_38, q_X2_include_39, q_X2_include_40, nI_add, pI_le, pI_lt, pI_eq, pI_neg, pI_nn, pI_le0, pI_gt0, pI_eq0, xbV_s, xbU_s, if_true, if_false, bI_eq0, Nat.reduceAdd, Nat.reduceSub, Nat.reduceEqDiff, Nat.reduceLeDiff, Nat.reduceLT, Bool.true_eq_false, Bool.false_eq_true, b1, hN, pI_ne9]
    · rw [pDiff_old w (by rw [q]; decide)]; exact h.1
    · by_cases e2 : j = k
      · subst e2; rw [q] at hf; cases hf
      · exact h.2.2.2.2 j (by omega) hf
theorem pR_eq (w : Nat → Nat) {k : Nat} (hk : 0 < k) : pRuns w (k + 1) = pRuns w k + (if w k = w (k - 1) then 0 else 1) := by
  obtain ⟨j, rfl⟩ : ∃ j, k = j + 1 := ⟨k - 1, by omega⟩
  exact pRuns_ss w j
theorem pT_eq (w : Nat → Nat) {k : Nat} (hk : 0 < k) : pStep w (k + 1) = max (pStep w k) (pSt (w (k - 1)) (w k)) := by
  obtain ⟨j, rfl⟩ : ∃ j, k = j + 1 := ⟨k - 1, by omega⟩
  exact pStep_ss w j
theorem pI_dn {x y : Nat} (h : y < x) (hx : x < 1000000) : (-1 : Int32) - (nI y - nI x) = nI (x - y - 1) := by
  apply Int32.toInt_inj.mp
  have a := pk_sub_toInt (a := y) (b := x) (by omega) (by omega)
  rw [Int32.toInt_sub, a, nI_toInt (by omega), show (-1 : Int32).toInt = -1 by decide]
  rw [Int.bmod_def]
  omega
theorem pI_ge0 {x y : Nat} (hx : x < 1000000) (hy : y < 1000000) : (0 ≤ nI y - nI x) = (x ≤ y) := by
  rw [Int32.le_iff_toInt_le, pk_sub_toInt (by omega) (by omega), Int32.toInt_zero]
  exact propext ⟨fun h => by omega, fun h => by omega⟩
theorem s2_inc_b {b k : Nat} {w : Nat → Nat} {I : xMem} (hb : xMes b) (hk : k < 12) (hk0 : 0 < k) (hw : ∀ j, j ≤ k → w j ≤ 1023) (h2 : I b 2 = nI k) (h3 : I b 3 = nI (w (k - 1))) (h4 : I b 4 = nI (pMn w k)) (h5 : I b 5 = nI (pMx w k)) (h6 : I b 6 = nI (pRuns w k)) (h9 : I b 9 = nI (pStep w k)) : ∃ l, xgo k_X2_include 43 [some (.ref b), some (.int (nI (w k))), none] [] I = xgo k_X2_include 148 [some (.ref b), some (.int (nI (w k))), l] [] (xup (xup (xup (xup I b 4 (nI (pMn w (k + 1)))) b 5 (nI (pMx w (k + 1)))) b 6 (nI (pRuns w (k + 1)))) b 9 (nI (pStep w (k + 1)))) := by
  obtain ⟨b1, b2, b3, b4⟩ := hb
  have n0 : ¬ k = 0 := by omega
  have v1 := hw k (Nat.le_refl _)
  have v2 := hw (k - 1) (by omega)
  have m1 := pMn_le w k
  have m2 : pMx w k ≤ 1023 := pMx_le (fun j hj => hw j (by omega))
  have m3 := pRuns_le w k
  have m4 : pStep w k ≤ 11 := pStep_le (fun j hj => hw j (by omega))
  have eM : pMn w (k + 1) = min (pMn w k) (w k) := rfl
  have eX : pMx w (k + 1) = max (pMx w k) (w k) := rfl
  have eR := pR_eq w hk0
  have eT := pT_eq w hk0
  have m5 := pSt_le v2 v1
  refine ⟨some (.int (nI (w k) - nI (w (k - 1)))), ?_⟩
  rw [eM, eX, eR, eT]
  by_cases r : w k = w (k - 1)
  · rw [if_pos r]
    have g : ¬ w k < w (k - 1) := by omega
    have gd : w (k - 1) ≤ w k := by omega
    have ew : pSt (w (k - 1)) (w k) = 1 + pWd (w k - w (k - 1)) := by unfold pSt; rw [if_neg g]
    have es : nI (w k) - nI (w (k - 1)) = nI (w k - w (k - 1)) := pI_sub gd
    have hgw : w k - w (k - 1) ≤ 2047 := by omega
    rw [ew]
    have r' : w (k - 1) ≤ w (k - 1) := Nat.le_refl _
    have es' : nI (w (k - 1)) - nI (w (k - 1)) = nI (w (k - 1) - w (k - 1)) := pI_sub r'
    rw [r]
    rw [r] at ew m5
    rw [ew] at m5
    simp (disch := omega) only [q_X2_include_43, q_X2_include_44, q_X2_include_47, q_X2_include_50, q_X2_include_51, q_X2_include_52, q_X2_include_55, q_X2_include_56, q_X2_include_57, q_X2_include_60, q_X2_include_61, q_X2_include_62, q_X2_include_65, q_X2_include_68, q_X2_include_69, q_X2_include_70, q_X2_include_73, q_X2_include_74, q_X2_include_77, q_X2_include_80, q_X2_include_81, q_X2_include_82, q_X2_include_85, q_X2_include_86, q_X2_include_89, q_X2_include_92, q_X2_include_93, q_X2_include_94, q_X2_include_97, q_X2_include_98, q_X2_include_99, q_X2_include_102, q_X2_include_105, q_X2_include_106, q_X2_include_109, q_X2_include_110, q_X2_include_111, q_X2_include_114, q_X2_include_115, q_X2_include_116, q_X2_include_119, q_X2_include_120, q_X2_include_121, q_X2_include_122, q_X2_include_123, q_X2_include_126, q_X2_include_127, q_X2_include_128, q_X2_include_131, q_X2_include_132, q_X2_include_133, q_X2_include_134, q_X2_include_137, q_X2_include_138, q_X2_include_141, q_X2_include_142, q_X2_include_145, nI_add, pI_le, pI_lt, pI_eq, pI_neg, pI_nn, pI_le0, pI_gt0, pI_eq0, xbV_s, xbU_s, if_true, if_false, bI_eq0, Nat.reduceAdd, Nat.reduceSub, Nat.reduceEqDiff, Nat.reduceLeDiff, Nat.reduceLT, Bool.true_eq_false, Bool.false_eq_true, b1, h2, h3, h4, h5, h6, h9, n0, xup_d, pI_mn, pI_mx, pI_ge0, r', es', s8_width]
  · rw [if_neg r]
    by_cases g : w k < w (k - 1)
    · have gd : ¬ w (k - 1) ≤ w k := by omega
      have ew : pSt (w (k - 1)) (w k) = 1 + pWd (w (k - 1) - w k - 1) := by unfold pSt; rw [if_pos g]
      rw [ew]
      simp (disch := omega) only [q_X2_include_43, q_X2_include_44, q_X2_include_47, q_X2_include_50, q_X2_include_51, q_X2_include_52, q_X2_include_55, q_X2_include_56, q_X2_include_57, q_X2_include_60, q_X2_include_61, q_X2_include_62, q_X2_include_65, q_X2_include_68, q_X2_include_69, q_X2_include_70, q_X2_include_73, q_X2_include_74, q_X2_include_77, q_X2_include_80, q_X2_include_81, q_X2_include_82, q_X2_include_85, q_X2_include_86, q_X2_include_89, q_X2_include_92, q_X2_include_93, q_X2_include_94, q_X2_include_97, q_X2_include_98, q_X2_include_99, q_X2_include_102, q_X2_include_105, q_X2_include_106, q_X2_include_109, q_X2_include_110, q_X2_include_111, q_X2_include_114, q_X2_include_115, q_X2_include_116, q_X2_include_119, q_X2_include_120, q_X2_include_121, q_X2_include_122, q_X2_include_123, q_X2_include_126, q_X2_include_127, q_X2_include_128, q_X2_include_131, q_X2_include_132, q_X2_include_133, q_X2_include_134, q_X2_include_137, q_X2_include_138, q_X2_include_141, q_X2_include_142, q_X2_include_145, nI_add, pI_le, pI_lt, pI_eq, pI_neg, pI_nn, pI_le0, pI_gt0, pI_eq0, xbV_s, xbU_s, if_true, if_false, bI_eq0, Nat.reduceAdd, Nat.reduceSub, Nat.reduceEqDiff, Nat.reduceLeDiff, Nat.reduceLT, Bool.true_eq_false, Bool.false_eq_true, b1, h2, h3, h4, h5, h6, h9, n0, xup_d, pI_mn, pI_mx, pI_ge0, gd, pI_dn, s8_width, r]
    · have gd : w (k - 1) ≤ w k := by omega
      have ew : pSt (w (k - 1)) (w k) = 1 + pWd (w k - w (k - 1)) := by unfold pSt; rw [if_neg g]
      have es : nI (w k) - nI (w (k - 1)) = nI (w k - w (k - 1)) := pI_sub gd
      rw [ew]
      simp (disch := omega) only [q_X2_include_43, q_X2_include_44, q_X2_include_47, q_X2_include_50, q_X2_include_51, q_X2_include_52, q_X2_include_55, q_X2_include_56, q_X2_include_57, q_X2_include_60, q_X2_include_61, q_X2_include_62, q_X2_include_65, q_X2_include_68, q_X2_include_69, q_X2_include_70, q_X2_include_73, q_X2_include_74, q_X2_include_77, q_X2_include_80, q_X2_include_81, q_X2_include_82, q_X2_include_85, q_X2_include_86, q_X2_include_89, q_X2_include_92, q_X2_include_93, q_X2_include_94, q_X2_include_97, q_X2_include_98, q_X2_include_99, q_X2_include_102, q_X2_include_105, q_X2_include_106, q_X2_include_109, q_X2_include_110, q_X2_include_111, q_X2_include_114, q_X2_include_115, q_X2_include_116, q_X2_include_119, q_X2_include_120, q_X2_include_121, q_X2_include_122, q_X2_include_123, q_X2_include_126, q_X2_include_127, q_X2_include_128, q_X2_include_131, q_X2_include_132, q_X2_include_133, q_X2_include_134, q_X2_include_137, q_X2_include_138, q_X2_include_141, q_X2_include_142, q_X2_include_145, nI_add, pI_le, pI_lt, pI_eq, pI_neg, pI_nn, pI_le0, pI_gt0, pI_eq0, xbV_s, xbU_s, if_true, if_false, bI_eq0, Nat.reduceAdd, Nat.reduceSub, Nat.reduceEqDiff, Nat.reduceLeDiff, Nat.reduceLT, Bool.true_eq_false, Bool.false_eq_true, b1, h2, h3, h4, h5, h6, h9, n0, xup_d, pI_mn, pI_mx, pI_ge0, gd, es, s8_width, r]
theorem s2_inc_c {b k : Nat} {w : Nat → Nat} {l : Option Value} {I : xMem} (hb : xMes b) (hk : k < 12) (hw : ∀ j, j ≤ k → w j ≤ 1023) (h1 : I b 1 = nI (pDiff w (k + 1))) (h2 : I b 2 = nI k) (h4 : I b 4 = nI (pMn w (k + 1))) (h5 : I b 5 = nI (pMx w (k + 1))) (h6 : I b 6 = nI (pRuns w (k + 1))) (h9 : I b 9 = nI (pStep w (k + 1))) (hd : ∀ j, j < k + 1 → pFree w (w j) j = true → I (b + 1) (pDiff w j) = nI (w j)) : ∃ I', xgo k_X2_include 148 [some (.ref b), some (.int (nI (w k))), l] [] I = some (.inl none, I') ∧ zG b 2 I I' ∧ cM I' b w (k + 1) := by
  obtain ⟨b1, b2, b3, b4⟩ := hb
  have d1 := pDiff_pos w (n := k + 1) (by omega)
  have d2 := pDiff_le w (k + 1)
  have m1 := pMn_pMx w (n := k + 1) (by omega)
  have m2 : pMx w (k + 1) ≤ 1023 := pMx_le (fun j hj => hw j (by omega))
  have e1 : nI (pDiff w (k + 1)) - nI 1 = nI (pDiff w (k + 1) - 1) := pI_sub (by omega)
  have e2 : nI (pMx w (k + 1)) - nI (pMn w (k + 1)) = nI (pMx w (k + 1) - pMn w (k + 1)) := pI_sub m1
  refine ⟨xup (xup (xup (xup I b 7 (nI (pWd (pDiff w (k + 1) - 1)))) b 8 (nI (pWd (pMx w (k + 1) - pMn w (k + 1))))) b 3 (nI (w k))) b 2 (nI (k + 1)), ?_, (((zG.rf.up (Nat.le_refl _) (by omega)).up (Nat.le_refl _) (by omega)).up (Nat.le_refl _) (by omega)).up (Nat.le_refl _) (by omega), ?_⟩
  · simp (disch := omega) only [q_X2_include_148, q_X2_include_149, q_X2_include_150, q_X2_include_153, q_X2_include_154, q_X2_include_155, q_X2_include_158, q_X2_include_161, q_X2_include_162, q_X2_include_163, q_X2_include_166, q_X2_include_167, q_X2_include_170, q_X2_include_171, q_X2_include_174, q_X2_include_177, q_X2_include_178, q_X2_include_179, q_X2_include_182, q_X2_include_183, q_X2_include_184, q_X2_include_187, q_X2_include_188, q_X2_include_189, q_X2_include_192, nI_add, pI_le, pI_lt, pI_eq, pI_neg, pI_nn, pI_le0, pI_gt0, pI_eq0, xbV_s, xbU_s, if_true, if_false, bI_eq0, Nat.reduceAdd, Nat.reduceSub, Nat.reduceEqDiff, Nat.reduceLeDiff, Nat.reduceLT, Bool.true_eq_false, Bool.false_eq_true, b1, h1, h2, h4, h5, h6, h9, e1, e2, xup_d, s8_width]
  · refine ⟨?_, ?_, ?_, fun _ => ⟨?_, ?_, ?_, ?_, ?_, ?_⟩, fun j hj hf => ?_⟩
    · rw [xup_d (by omega), xup_d (by omega), xup_d (by omega), xup_d (by omega)]; exact h1
    · rw [xup_s]
    · rw [xup_d (by omega), xup_d (by omega), xup_d (by omega), xup_d (by omega)]; exact h9
    · rw [xup_d (by omega), xup_s]; rfl
    · rw [xup_d (by omega), xup_d (by omega), xup_d (by omega), xup_d (by omega)]; exact h4
    · rw [xup_d (by omega), xup_d (by omega), xup_d (by omega), xup_d (by omega)]; exact h5
    · rw [xup_d (by omega), xup_d (by omega), xup_d (by omega), xup_d (by omega)]; exact h6
    · rw [xup_d (by omega), xup_d (by omega), xup_d (by omega), xup_s]
    · rw [xup_d (by omega), xup_d (by omega), xup_s]
    · rw [xup_o (by omega), xup_o (by omega), xup_o (by omega), xup_o (by omega)]; exact hd j hj hf
theorem s2_include {b k : Nat} {w : Nat → Nat} {I : xMem} (hb : xMes b) (h : cM I b w k) (hk : k < 12) (hw : ∀ j, j ≤ k → w j ≤ 1023) : ∃ I', f_X2_include [.ref b, .int (nI (w k))] I = some (.inl none, I') ∧ zG b 2 I I' ∧ cM I' b w (k + 1) := by
  obtain ⟨I1, h1, g1, h2, h3, h4⟩ := s2_inc_a hb h hk hw
  have b1 := hb.1
  by_cases hk0 : 0 < k
  · obtain ⟨f3, f4, f5, f6, f7, f8⟩ := h.2.2.2.1 hk0
    obtain ⟨l, h5⟩ := s2_inc_b (I := I1) hb hk hk0 hw (by rw [h2 2 (by omega)]; exact h.2.1) (by rw [h2 3 (by omega)]; exact f3) (by rw [h2 4 (by omega)]; exact f4) (by rw [h2 5 (by omega)]; exact f5) (by rw [h2 6 (by omega)]; exact f6) (by rw [h2 9 (by omega)]; exact h.2.2.1)
    obtain ⟨I', h6, g2, h7⟩ := s2_inc_c (l := l) (I := xup (xup (xup (xup I1 b 4 (nI (pMn w (k + 1)))) b 5 (nI (pMx w (k + 1)))) b 6 (nI (pRuns w (k + 1)))) b 9 (nI (pStep w (k + 1)))) hb hk hw (by rw [xup_d (by omega), xup_d (by omega), xup_d (by omega), xup_d (by omega)]; exact h3) (by rw [xup_d (by omega), xup_d (by omega), xup_d (by omega), xup_d (by omega), h2 2 (by omega)]; exact h.2.1) (by rw [xup_d (by omega), xup_d (by omega), xup_d (by omega), xup_s]) (by rw [xup_d (by omega), xup_d (by omega), xup_s]) (by rw [xup_d (by omega), xup_s]) (by rw [xup_s]) (fun j hj hf => by rw [xup_o (by omega), xup_o (by omega), xup_o (by omega), xup_o (by omega)]; exact h4 j hj hf)
    refine ⟨I', ?_, g1.tr (((((zG.rf.up (Nat.le_refl _) (by omega)).up (Nat.le_refl _) (by omega)).up (Nat.le_refl _) (by omega)).up (Nat.le_refl _) (by omega)).tr g2), h7⟩
    rw [e_X2_include, h1, h5, h6]
  · have e : k = 0 := by omega
    subst e
    have v1 := hw 0 (Nat.le_refl _)
    have eM : pMn w (0 + 1) = w 0 := by show min 1023 (w 0) = w 0; omega
    have eX : pMx w (0 + 1) = w 0 := by show max 0 (w 0) = w 0; omega
    obtain ⟨I', h6, g2, h7⟩ := s2_inc_c (l := none) (I := xup (xup (xup I1 b 4 (nI (w 0))) b 5 (nI (w 0))) b 6 (nI 1)) hb hk hw (by rw [xup_d (by omega), xup_d (by omega), xup_d (by omega)]; exact h3) (by rw [xup_d (by omega), xup_d (by omega), xup_d (by omega), h2 2 (by omega)]; exact h.2.1) (by rw [xup_d (by omega), xup_d (by omega), xup_s, eM]) (by rw [xup_d (by omega), xup_s, eX]) (by rw [xup_s]; rfl) (by rw [xup_d (by omega), xup_d (by omega), xup_d (by omega), h2 9 (by omega)]; exact h.2.2.1) (fun j hj hf => by rw [xup_o (by omega), xup_o (by omega), xup_o (by omega)]; exact h4 j hj hf)
    refine ⟨I', ?_, g1.tr ((((zG.rf.up (Nat.le_refl _) (by omega)).up (Nat.le_refl _) (by omega)).up (Nat.le_refl _) (by omega)).tr g2), h7⟩
    have h22 : I1 b 2 = nI 0 := by rw [h2 2 (by omega)]; exact h.2.1
    rw [e_X2_include, h1]
    simp (disch := omega) only [q_X2_include_43, q_X2_include_44, q_X2_include_47, q_X2_include_50, q_X2_include_51, q_X2_include_52, q_X2_include_55, q_X2_include_56, q_X2_include_57, q_X2_include_60, q_X2_include_61, q_X2_include_62, q_X2_include_65, nI_add, pI_le, pI_lt, pI_eq, pI_neg, pI_nn, pI_le0, pI_gt0, pI_eq0, xbV_s, xbU_s, if_true, if_false, bI_eq0, Nat.reduceAdd, Nat.reduceSub, Nat.reduceEqDiff, Nat.reduceLeDiff, Nat.reduceLT, Bool.true_eq_false, Bool.false_eq_true, b1, h22]
    exact h6
def xpn (c : Nat) : Int32 := if c = 0 then -9999 else nI (c - 1)
theorem s2_sizeBy {b k c : Nat} {w : Nat → Nat} {I : xMem} (hb : xMes b) (h : cM I b w k) (h0 : 0 < k) (hk : k ≤ 12) (hw : ∀ j, j < k → w j ≤ 1023) (hc : c ≤ 4) : f_X2_sizeBy [.ref b, .int (nI c)] I = some (.inl (some (.int (nI (pSize w k c)))), I) := by
  obtain ⟨b1, b2, b3, b4⟩ := hb
  obtain ⟨h1, h2, h9, h3, -⟩ := h
  obtain ⟨f3, f4, f5, f6, f7, f8⟩ := h3 h0
  have e3 : nI k - nI 1 = nI (k - 1) := pI_sub (by omega)
  rw [e_X2_sizeBy]
  rcases (show c = 0 ∨ c = 1 ∨ c = 2 ∨ c = 3 ∨ c = 4 by omega) with rfl | rfl | rfl | rfl | rfl
  · have hx9 : xsel (nI 0) 1 [36, 58, 68, 85] 104 = 104 := rfl
    simp (disch := omega) only [q_X2_sizeBy_0, q_X2_sizeBy_2, q_X2_sizeBy_3, q_X2_sizeBy_4, q_X2_sizeBy_36, q_X2_sizeBy_37, q_X2_sizeBy_38, q_X2_sizeBy_39, q_X2_sizeBy_41, q_X2_sizeBy_42, q_X2_sizeBy_45, q_X2_sizeBy_46, q_X2_sizeBy_47, q_X2_sizeBy_48, q_X2_sizeBy_51, q_X2_sizeBy_52, q_X2_sizeBy_55, q_X2_sizeBy_56, q_X2_sizeBy_57, q_X2_sizeBy_58, q_X2_sizeBy_59, q_X2_sizeBy_61, q_X2_sizeBy_62, q_X2_sizeBy_65, q_X2_sizeBy_66, q_X2_sizeBy_67, q_X2_sizeBy_68, q_X2_sizeBy_69, q_X2_sizeBy_71, q_X2_sizeBy_72, q_X2_sizeBy_73, q_X2_sizeBy_74, q_X2_sizeBy_75, q_X2_sizeBy_78, q_X2_sizeBy_79, q_X2_sizeBy_82, q_X2_sizeBy_83, q_X2_sizeBy_84, q_X2_sizeBy_85, q_X2_sizeBy_86, q_X2_sizeBy_88, q_X2_sizeBy_89, q_X2_sizeBy_90, q_X2_sizeBy_91, q_X2_sizeBy_92, q_X2_sizeBy_95, q_X2_sizeBy_96, q_X2_sizeBy_99, q_X2_sizeBy_100, q_X2_sizeBy_101, q_X2_sizeBy_102, q_X2_sizeBy_103, q_X2_sizeBy_104, q_X2_sizeBy_105, q_X2_sizeBy_107, q_X2_sizeBy_108, q_X2_sizeBy_111, q_X2_sizeBy_112, q_X2_sizeBy_113, hx9, nI_add, pI_le, pI_lt, pI_eq, pI_neg, pI_nn, pI_le0, pI_gt0, pI_eq0, xbV_s, xbU_s, if_true, if_false, bI_eq0, pk_mul, b1, h2]
    rfl
  · have hx9 : xsel (nI 1) 1 [36, 58, 68, 85] 104 = 36 := rfl
    simp (disch := omega) only [q_X2_sizeBy_0, q_X2_sizeBy_2, q_X2_sizeBy_3, q_X2_sizeBy_4, q_X2_sizeBy_36, q_X2_sizeBy_37, q_X2_sizeBy_38, q_X2_sizeBy_39, q_X2_sizeBy_41, q_X2_sizeBy_42, q_X2_sizeBy_45, q_X2_sizeBy_46, q_X2_sizeBy_47, q_X2_sizeBy_48, q_X2_sizeBy_51, q_X2_sizeBy_52, q_X2_sizeBy_55, q_X2_sizeBy_56, q_X2_sizeBy_57, q_X2_sizeBy_58, q_X2_sizeBy_59, q_X2_sizeBy_61, q_X2_sizeBy_62, q_X2_sizeBy_65, q_X2_sizeBy_66, q_X2_sizeBy_67, q_X2_sizeBy_68, q_X2_sizeBy_69, q_X2_sizeBy_71, q_X2_sizeBy_72, q_X2_sizeBy_73, q_X2_sizeBy_74, q_X2_sizeBy_75, q_X2_sizeBy_78, q_X2_sizeBy_79, q_X2_sizeBy_82, q_X2_sizeBy_83, q_X2_sizeBy_84, q_X2_sizeBy_85, q_X2_sizeBy_86, q_X2_sizeBy_88, q_X2_sizeBy_89, q_X2_sizeBy_90, q_X2_sizeBy_91, q_X2_sizeBy_92, q_X2_sizeBy_95, q_X2_sizeBy_96, q_X2_sizeBy_99, q_X2_sizeBy_100, q_X2_sizeBy_101, q_X2_sizeBy_102, q_X2_sizeBy_103, q_X2_sizeBy_104, q_X2_sizeBy_105, q_X2_sizeBy_107, q_X2_sizeBy_108, q_X2_sizeBy_111, q_X2_sizeBy_112, q_X2_sizeBy_113, hx9, nI_add, pI_le, pI_lt, pI_eq, pI_neg, pI_nn, pI_le0, pI_gt0, pI_eq0, xbV_s, xbU_s, if_true, if_false, bI_eq0, pk_mul, b1, h1, h2, f7]
    rw [Nat.mul_comm (pWd _) k]
    rfl
  · have hx9 : xsel (nI 2) 1 [36, 58, 68, 85] 104 = 58 := rfl
    simp (disch := omega) only [q_X2_sizeBy_0, q_X2_sizeBy_2, q_X2_sizeBy_3, q_X2_sizeBy_4, q_X2_sizeBy_36, q_X2_sizeBy_37, q_X2_sizeBy_38, q_X2_sizeBy_39, q_X2_sizeBy_41, q_X2_sizeBy_42, q_X2_sizeBy_45, q_X2_sizeBy_46, q_X2_sizeBy_47, q_X2_sizeBy_48, q_X2_sizeBy_51, q_X2_sizeBy_52, q_X2_sizeBy_55, q_X2_sizeBy_56, q_X2_sizeBy_57, q_X2_sizeBy_58, q_X2_sizeBy_59, q_X2_sizeBy_61, q_X2_sizeBy_62, q_X2_sizeBy_65, q_X2_sizeBy_66, q_X2_sizeBy_67, q_X2_sizeBy_68, q_X2_sizeBy_69, q_X2_sizeBy_71, q_X2_sizeBy_72, q_X2_sizeBy_73, q_X2_sizeBy_74, q_X2_sizeBy_75, q_X2_sizeBy_78, q_X2_sizeBy_79, q_X2_sizeBy_82, q_X2_sizeBy_83, q_X2_sizeBy_84, q_X2_sizeBy_85, q_X2_sizeBy_86, q_X2_sizeBy_88, q_X2_sizeBy_89, q_X2_sizeBy_90, q_X2_sizeBy_91, q_X2_sizeBy_92, q_X2_sizeBy_95, q_X2_sizeBy_96, q_X2_sizeBy_99, q_X2_sizeBy_100, q_X2_sizeBy_101, q_X2_sizeBy_102, q_X2_sizeBy_103, q_X2_sizeBy_104, q_X2_sizeBy_105, q_X2_sizeBy_107, q_X2_sizeBy_108, q_X2_sizeBy_111, q_X2_sizeBy_112, q_X2_sizeBy_113, hx9, nI_add, pI_le, pI_lt, pI_eq, pI_neg, pI_nn, pI_le0, pI_gt0, pI_eq0, xbV_s, xbU_s, if_true, if_false, bI_eq0, pk_mul, b1, f6]
    rfl
  · have hx9 : xsel (nI 3) 1 [36, 58, 68, 85] 104 = 68 := rfl
    simp (disch := omega) only [q_X2_sizeBy_0, q_X2_sizeBy_2, q_X2_sizeBy_3, q_X2_sizeBy_4, q_X2_sizeBy_36, q_X2_sizeBy_37, q_X2_sizeBy_38, q_X2_sizeBy_39, q_X2_sizeBy_41, q_X2_sizeBy_42, q_X2_sizeBy_45, q_X2_sizeBy_46, q_X2_sizeBy_47, q_X2_sizeBy_48, q_X2_sizeBy_51, q_X2_sizeBy_52, q_X2_sizeBy_55, q_X2_sizeBy_56, q_X2_sizeBy_57, q_X2_sizeBy_58, q_X2_sizeBy_59, q_X2_sizeBy_61, q_X2_sizeBy_62, q_X2_sizeBy_65, q_X2_sizeBy_66, q_X2_sizeBy_67, q_X2_sizeBy_68, q_X2_sizeBy_69, q_X2_sizeBy_71, q_X2_sizeBy_72, q_X2_sizeBy_73, q_X2_sizeBy_74, q_X2_sizeBy_75, q_X2_sizeBy_78, q_X2_sizeBy_79, q_X2_sizeBy_82, q_X2_sizeBy_83, q_X2_sizeBy_84, q_X2_sizeBy_85, q_X2_sizeBy_86, q_X2_sizeBy_88, q_X2_sizeBy_89, q_X2_sizeBy_90, q_X2_sizeBy_91, q_X2_sizeBy_92, q_X2_sizeBy_95, q_X2_sizeBy_96, q_X2_sizeBy_99, q_X2_sizeBy_100, q_X2_sizeBy_101, q_X2_sizeBy_102, q_X2_sizeBy_103, q_X2_sizeBy_104, q_X2_sizeBy_105, q_X2_sizeBy_107, q_X2_sizeBy_108, q_X2_sizeBy_111, q_X2_sizeBy_112, q_X2_sizeBy_113, hx9, nI_add, pI_le, pI_lt, pI_eq, pI_neg, pI_nn, pI_le0, pI_gt0, pI_eq0, xbV_s, xbU_s, if_true, if_false, bI_eq0, pk_mul, b1, h2, f8]
    rw [Nat.mul_comm (pWd _) k]
    rfl
  · have hx9 : xsel (nI 4) 1 [36, 58, 68, 85] 104 = 85 := rfl
    simp (disch := omega) only [q_X2_sizeBy_0, q_X2_sizeBy_2, q_X2_sizeBy_3, q_X2_sizeBy_4, q_X2_sizeBy_36, q_X2_sizeBy_37, q_X2_sizeBy_38, q_X2_sizeBy_39, q_X2_sizeBy_41, q_X2_sizeBy_42, q_X2_sizeBy_45, q_X2_sizeBy_46, q_X2_sizeBy_47, q_X2_sizeBy_48, q_X2_sizeBy_51, q_X2_sizeBy_52, q_X2_sizeBy_55, q_X2_sizeBy_56, q_X2_sizeBy_57, q_X2_sizeBy_58, q_X2_sizeBy_59, q_X2_sizeBy_61, q_X2_sizeBy_62, q_X2_sizeBy_65, q_X2_sizeBy_66, q_X2_sizeBy_67, q_X2_sizeBy_68, q_X2_sizeBy_69, q_X2_sizeBy_71, q_X2_sizeBy_72, q_X2_sizeBy_73, q_X2_sizeBy_74, q_X2_sizeBy_75, q_X2_sizeBy_78, q_X2_sizeBy_79, q_X2_sizeBy_82, q_X2_sizeBy_83, q_X2_sizeBy_84, q_X2_sizeBy_85, q_X2_sizeBy_86, q_X2_sizeBy_88, q_X2_sizeBy_89, q_X2_sizeBy_90, q_X2_sizeBy_91, q_X2_sizeBy_92, q_X2_sizeBy_95, q_X2_sizeBy_96, q_X2_sizeBy_99, q_X2_sizeBy_100, q_X2_sizeBy_101, q_X2_sizeBy_102, q_X2_sizeBy_103, q_X2_sizeBy_104, q_X2_sizeBy_105, q_X2_sizeBy_107, q_X2_sizeBy_108, q_X2_sizeBy_111, q_X2_sizeBy_112, q_X2_sizeBy_113, hx9, nI_add, pI_le, pI_lt, pI_eq, pI_neg, pI_nn, pI_le0, pI_gt0, pI_eq0, xbV_s, xbU_s, if_true, if_false, bI_eq0, pk_mul, b1, h2, h9, e3]
    rw [Nat.mul_comm (pStep _ _) (k - 1)]
    rfl
theorem s2_cod_l {b k : Nat} {w : Nat → Nat} {I : xMem} {x : Int32} (hb : xMes b) (h : cM I b w k) (h0 : 0 < k) (hk : k ≤ 12) (hw : ∀ j, j < k → w j ≤ 1023) : ∀ d c (l : Option Value), c + d = 4 → xgo k_X2_codingWhen 20 [some (.ref b), some (.int x), some (.int (nI (pBst w k c))), some (.int (nI (pSize w k (pBst w k c)))), some (.int (nI (c + 1))), l] [] I = some (.inl (some (.int (nI (pBest w k)))), I) := by
  have b1 := hb.1
  have hs := pSize_le hk hw
  intro d
  induction d with
  | zero =>
    intro c l hc
    have e : c = 4 := by omega
    subst e
    have n1 : 4 < 4 + 1 := by decide
    rw [q_X2_codingWhen_20]
    simp (disch := omega) only [q_X2_codingWhen_0, q_X2_codingWhen_1, q_X2_codingWhen_4, q_X2_codingWhen_7, q_X2_codingWhen_8, q_X2_codingWhen_9, q_X2_codingWhen_10, q_X2_codingWhen_11, q_X2_codingWhen_12, q_X2_codingWhen_13, q_X2_codingWhen_16, q_X2_codingWhen_17, q_X2_codingWhen_18, q_X2_codingWhen_22, q_X2_codingWhen_23, q_X2_codingWhen_26, q_X2_codingWhen_27, q_X2_codingWhen_29, q_X2_codingWhen_32, q_X2_codingWhen_34, q_X2_codingWhen_36, q_X2_codingWhen_37, q_X2_codingWhen_40, q_X2_codingWhen_42, q_X2_codingWhen_43, q_X2_codingWhen_45, q_X2_codingWhen_46, q_X2_codingWhen_49, q_X2_codingWhen_52, q_X2_codingWhen_53, nI_add, pI_le, pI_lt, pI_eq, pI_neg, pI_nn, pI_le0, pI_gt0, pI_eq0, xbV_s, xbU_s, if_true, if_false, bI_eq0, n1]
    rfl
  | succ d ih =>
    intro c l hc
    have hb9 := pBst_le w k c
    have hs1 := hs (pBst w k c)
    have hs2 := hs (c + 1)
    have n1 : ¬ 4 < c + 1 := by omega
    have := ih (c + 1) (some (.int (nI (pSize w k (c + 1))))) (by omega)
    rw [pBst_s] at this
    rw [q_X2_codingWhen_20]
    by_cases q : pSize w k (pBst w k c) ≤ pSize w k (c + 1)
    · rw [if_neg (by omega)] at this
      simp (disch := omega) only [q_X2_codingWhen_0, q_X2_codingWhen_1, q_X2_codingWhen_4, q_X2_codingWhen_7, q_X2_codingWhen_8, q_X2_codingWhen_9, q_X2_codingWhen_10, q_X2_codingWhen_11, q_X2_codingWhen_12, q_X2_codingWhen_13, q_X2_codingWhen_16, q_X2_codingWhen_17, q_X2_codingWhen_18, q_X2_codingWhen_22, q_X2_codingWhen_23, q_X2_codingWhen_26, q_X2_codingWhen_27, q_X2_codingWhen_29, q_X2_codingWhen_32, q_X2_codingWhen_34, q_X2_codingWhen_36, q_X2_codingWhen_37, q_X2_codingWhen_40, q_X2_codingWhen_42, q_X2_codingWhen_43, q_X2_codingWhen_45, q_X2_codingWhen_46, q_X2_codingWhen_49, q_X2_codingWhen_52, q_X2_codingWhen_53, nI_add, pI_le, pI_lt, pI_eq, pI_neg, pI_nn, pI_le0, pI_gt0, pI_eq0, xbV_s, xbU_s, if_true, if_false, bI_eq0, n1, b1, s2_sizeBy hb h h0 hk hw, q]
      exact this
    · rw [if_pos (by omega)] at this
      simp (disch := omega) only [q_X2_codingWhen_0, q_X2_codingWhen_1, q_X2_codingWhen_4, q_X2_codingWhen_7, q_X2_codingWhen_8, q_X2_codingWhen_9, q_X2_codingWhen_10, q_X2_codingWhen_11, q_X2_codingWhen_12, q_X2_codingWhen_13, q_X2_codingWhen_16, q_X2_codingWhen_17, q_X2_codingWhen_18, q_X2_codingWhen_22, q_X2_codingWhen_23, q_X2_codingWhen_26, q_X2_codingWhen_27, q_X2_codingWhen_29, q_X2_codingWhen_32, q_X2_codingWhen_34, q_X2_codingWhen_36, q_X2_codingWhen_37, q_X2_codingWhen_40, q_X2_codingWhen_42, q_X2_codingWhen_43, q_X2_codingWhen_45, q_X2_codingWhen_46, q_X2_codingWhen_49, q_X2_codingWhen_52, q_X2_codingWhen_53, nI_add, pI_le, pI_lt, pI_eq, pI_neg, pI_nn, pI_le0, pI_gt0, pI_eq0, xbV_s, xbU_s, if_true, if_false, bI_eq0, n1, b1, s2_sizeBy hb h h0 hk hw, q]
      exact this
theorem s2_cod {b k c : Nat} {w : Nat → Nat} {I : xMem} (hb : xMes b) (h : cM I b w k) (h0 : 0 < k) (hk : k ≤ 12) (hw : ∀ j, j < k → w j ≤ 1023) (hc : c ≤ 5) : f_X2_codingWhen [.ref b, .int (xpn c)] I = some (.inl (some (.int (nI (pCod w k c)))), I) := by
  have b1 := hb.1
  unfold xpn pCod
  rw [e_X2_codingWhen]
  by_cases q : c = 0
  · rw [if_pos q, if_pos q]
    simp (disch := omega) only [q_X2_codingWhen_0, q_X2_codingWhen_1, q_X2_codingWhen_4, q_X2_codingWhen_7, q_X2_codingWhen_8, q_X2_codingWhen_9, q_X2_codingWhen_10, q_X2_codingWhen_11, q_X2_codingWhen_12, q_X2_codingWhen_13, q_X2_codingWhen_16, q_X2_codingWhen_17, q_X2_codingWhen_18, q_X2_codingWhen_22, q_X2_codingWhen_23, q_X2_codingWhen_26, q_X2_codingWhen_27, q_X2_codingWhen_29, q_X2_codingWhen_32, q_X2_codingWhen_34, q_X2_codingWhen_36, q_X2_codingWhen_37, q_X2_codingWhen_40, q_X2_codingWhen_42, q_X2_codingWhen_43, q_X2_codingWhen_45, q_X2_codingWhen_46, q_X2_codingWhen_49, q_X2_codingWhen_52, q_X2_codingWhen_53, nI_add, pI_le, pI_lt, pI_eq, pI_neg, pI_nn, pI_le0, pI_gt0, pI_eq0, xbV_s, xbU_s, if_true, if_false, bI_eq0, Nat.reduceAdd, Nat.reduceSub, Nat.reduceEqDiff, Nat.reduceLeDiff, Nat.reduceLT, Bool.true_eq_false, Bool.false_eq_true, b1, s2_sizeBy hb h h0 hk hw]
    exact s2_cod_l hb h h0 hk hw 4 0 _ rfl
  · rw [if_neg q, if_neg q]
    simp (disch := omega) only [q_X2_codingWhen_0, q_X2_codingWhen_1, q_X2_codingWhen_4, q_X2_codingWhen_7, q_X2_codingWhen_8, q_X2_codingWhen_9, q_X2_codingWhen_10, q_X2_codingWhen_11, q_X2_codingWhen_12, q_X2_codingWhen_13, q_X2_codingWhen_16, q_X2_codingWhen_17, q_X2_codingWhen_18, q_X2_codingWhen_22, q_X2_codingWhen_23, q_X2_codingWhen_26, q_X2_codingWhen_27, q_X2_codingWhen_29, q_X2_codingWhen_32, q_X2_codingWhen_34, q_X2_codingWhen_36, q_X2_codingWhen_37, q_X2_codingWhen_40, q_X2_codingWhen_42, q_X2_codingWhen_43, q_X2_codingWhen_45, q_X2_codingWhen_46, q_X2_codingWhen_49, q_X2_codingWhen_52, q_X2_codingWhen_53, nI_add, pI_le, pI_lt, pI_eq, pI_neg, pI_nn, pI_le0, pI_gt0, pI_eq0, xbV_s, xbU_s, if_true, if_false, bI_eq0, Nat.reduceAdd, Nat.reduceSub, Nat.reduceEqDiff, Nat.reduceLeDiff, Nat.reduceLT, Bool.true_eq_false, Bool.false_eq_true, pI_ne9]
theorem s2_size {b k c : Nat} {w : Nat → Nat} {I : xMem} (hb : xMes b) (h : cM I b w k) (h0 : 0 < k) (hk : k ≤ 12) (hw : ∀ j, j < k → w j ≤ 1023) (hc : c ≤ 5) : f_X2_sizeWhen [.ref b, .int (xpn c)] I = some (.inl (some (.int (nI (pPin w k c)))), I) := by
  have b1 := hb.1
  have hd := pCod_le w k hc
  rw [e_X2_sizeWhen]
  simp (disch := omega) only [q_X2_sizeWhen_0, q_X2_sizeWhen_1, q_X2_sizeWhen_2, q_X2_sizeWhen_3, q_X2_sizeWhen_6, q_X2_sizeWhen_9, nI_add, pI_le, pI_lt, pI_eq, pI_neg, pI_nn, pI_le0, pI_gt0, pI_eq0, xbV_s, xbU_s, if_true, if_false, bI_eq0, Nat.reduceAdd, Nat.reduceSub, Nat.reduceEqDiff, Nat.reduceLeDiff, Nat.reduceLT, Bool.true_eq_false, Bool.false_eq_true, b1, s2_cod hb h h0 hk hw hc, s2_sizeBy hb h h0 hk hw hd]
  rfl
theorem s2_copy_l {a b k : Nat} {w : Nat → Nat} {I : xMem} (ha : xMes a) (hb : xMes b) (hab : a + 1 < b ∨ b + 1 < a) (h : cM I b w k) (hk : k ≤ 12) : ∀ d i (I1 : xMem), i + d = pDiff w k → zG a 2 I I1 → I1 a 1 = nI (pDiff w k) → (∀ j, j < i → I1 (a + 1) j = I (b + 1) j) → ∃ I', xgo k_X2_copyFrom 10 [some (.ref a), some (.ref b), some (.int (nI i))] [] I1 = xgo k_X2_copyFrom 44 [some (.ref a), some (.ref b), some (.int (nI (pDiff w k)))] [] I' ∧ zG a 2 I I' ∧ I' a 1 = nI (pDiff w k) ∧ (∀ j, j < pDiff w k → I' (a + 1) j = I (b + 1) j) := by
  have hB := hb
  obtain ⟨a1, a2, a3, a4⟩ := ha
  obtain ⟨b1, b2, b3, b4⟩ := hb
  have hd := pDiff_le w k
  intro d
  induction d with
  | zero =>
    intro i I1 hi hG h1 hj
    have e : i = pDiff w k := by omega
    subst e
    refine ⟨I1, ?_, hG, h1, hj⟩
    rw [q_X2_copyFrom_10]
    simp (disch := omega) only [q_X2_copyFrom_11, q_X2_copyFrom_12, q_X2_copyFrom_15, q_X2_copyFrom_18, q_X2_copyFrom_19, q_X2_copyFrom_20, q_X2_copyFrom_23, q_X2_copyFrom_24, q_X2_copyFrom_27, q_X2_copyFrom_28, q_X2_copyFrom_31, q_X2_copyFrom_32, q_X2_copyFrom_33, q_X2_copyFrom_34, q_X2_copyFrom_37, q_X2_copyFrom_38, q_X2_copyFrom_41, nI_add, pI_le, pI_lt, pI_eq, pI_neg, pI_nn, pI_le0, pI_gt0, pI_eq0, xbV_s, xbU_s, if_true, if_false, bI_eq0, Nat.reduceAdd, Nat.reduceSub, Nat.reduceEqDiff, Nat.reduceLeDiff, Nat.reduceLT, Bool.true_eq_false, Bool.false_eq_true, a1, h1, Nat.le_refl]
  | succ d ih =>
    intro i I1 hi hG h1 hj
    have n1 : ¬ pDiff w k ≤ i := by omega
    have n2 : ¬ 12 ≤ i := by omega
    have e1 : I1 (b + 1) = I (b + 1) := hG _ (by omega)
    obtain ⟨I', h2, h3, h4, h5⟩ := ih (i + 1) (xup I1 (a + 1) i (I (b + 1) i)) (by omega) (hG.up (by omega) (by omega)) (by rw [xup_o (by omega)]; exact h1) (fun j hj' => by
      by_cases e : j = i
      · subst e; rw [xup_s]
      · rw [xup_d e]; exact hj j (by omega))
    refine ⟨I', ?_, h3, h4, h5⟩
    rw [q_X2_copyFrom_10]
    simp (disch := omega) only [q_X2_copyFrom_11, q_X2_copyFrom_12, q_X2_copyFrom_15, q_X2_copyFrom_18, q_X2_copyFrom_19, q_X2_copyFrom_20, q_X2_copyFrom_23, q_X2_copyFrom_24, q_X2_copyFrom_27, q_X2_copyFrom_28, q_X2_copyFrom_31, q_X2_copyFrom_32, q_X2_copyFrom_33, q_X2_copyFrom_34, q_X2_copyFrom_37, q_X2_copyFrom_38, q_X2_copyFrom_41, nI_add, pI_le, pI_lt, pI_eq, pI_neg, pI_nn, pI_le0, pI_gt0, pI_eq0, xbV_s, xbU_s, if_true, if_false, bI_eq0, Nat.reduceAdd, Nat.reduceSub, Nat.reduceEqDiff, Nat.reduceLeDiff, Nat.reduceLT, Bool.true_eq_false, Bool.false_eq_true, a1, a2, a3, a4, b1, h1, n1, n2, s2_wordAt hB, e1]
    exact h2
theorem s2_copy {a b k : Nat} {w : Nat → Nat} {I : xMem} (ha : xMes a) (hb : xMes b) (hab : a + 1 < b ∨ b + 1 < a) (h : cM I b w k) (hk : k ≤ 12) (h0 : 0 < k) : ∃ I', f_X2_copyFrom [.ref a, .ref b] I = some (.inl none, I') ∧ zG a 2 I I' ∧ cM I' a w k := by
  have h1 := h.1
  obtain ⟨I1, h2, h3, h4, h5⟩ := s2_copy_l ha hb hab h hk (pDiff w k) 0 (xup I a 1 (nI (pDiff w k))) (by omega) (zG.rf.up (Nat.le_refl _) (by omega)) xup_s (fun j hj => absurd hj (Nat.not_lt_zero _))
  obtain ⟨a1, a2, a3, a4⟩ := ha
  obtain ⟨b1, b2, b3, b4⟩ := hb
  obtain ⟨g1, g2, g9, gg, gw⟩ := h
  obtain ⟨g3, g4, g5, g6, g7, g8⟩ := gg h0
  have eb : I1 b = I b := h3 b (by omega)
  refine ⟨xup (xup (xup (xup (xup (xup (xup (xup I1 a 2 (I b 2)) a 3 (I b 3)) a 4 (I b 4)) a 5 (I b 5)) a 6 (I b 6)) a 7 (I b 7)) a 8 (I b 8)) a 9 (I b 9), ?_, (((((((h3.up (Nat.le_refl _) (by omega)).up (Nat.le_refl _) (by omega)).up (Nat.le_refl _) (by omega)).up (Nat.le_refl _) (by omega)).up (Nat.le_refl _) (by omega)).up (Nat.le_refl _) (by omega)).up (Nat.le_refl _) (by omega)).up (Nat.le_refl _) (by omega), ?_⟩
  · rw [e_X2_copyFrom]
    simp (disch := omega) only [q_X2_copyFrom_0, q_X2_copyFrom_1, q_X2_copyFrom_2, q_X2_copyFrom_5, q_X2_copyFrom_8, q_X2_copyFrom_9, nI_add, pI_le, pI_lt, pI_eq, pI_neg, pI_nn, pI_le0, pI_gt0, pI_eq0, xbV_s, xbU_s, if_true, if_false, bI_eq0, Nat.reduceAdd, Nat.reduceSub, Nat.reduceEqDiff, Nat.reduceLeDiff, Nat.reduceLT, Bool.true_eq_false, Bool.false_eq_true, a1, b1, h1]
    rw [h2]
    simp (disch := omega) only [q_X2_copyFrom_44, q_X2_copyFrom_45, q_X2_copyFrom_46, q_X2_copyFrom_49, q_X2_copyFrom_52, q_X2_copyFrom_53, q_X2_copyFrom_54, q_X2_copyFrom_57, q_X2_copyFrom_60, q_X2_copyFrom_61, q_X2_copyFrom_62, q_X2_copyFrom_65, q_X2_copyFrom_68, q_X2_copyFrom_69, q_X2_copyFrom_70, q_X2_copyFrom_73, q_X2_copyFrom_76, q_X2_copyFrom_77, q_X2_copyFrom_78, q_X2_copyFrom_81, q_X2_copyFrom_84, q_X2_copyFrom_85, q_X2_copyFrom_86, q_X2_copyFrom_89, q_X2_copyFrom_92, q_X2_copyFrom_93, q_X2_copyFrom_94, q_X2_copyFrom_97, q_X2_copyFrom_100, q_X2_copyFrom_101, q_X2_copyFrom_102, q_X2_copyFrom_105, q_X2_copyFrom_108, nI_add, pI_le, pI_lt, pI_eq, pI_neg, pI_nn, pI_le0, pI_gt0, pI_eq0, xbV_s, xbU_s, if_true, if_false, bI_eq0, Nat.reduceAdd, Nat.reduceSub, Nat.reduceEqDiff, Nat.reduceLeDiff, Nat.reduceLT, Bool.true_eq_false, Bool.false_eq_true, a1, b1, xup_o, eb]
  · refine ⟨?_, ?_, ?_, fun _ => ⟨?_, ?_, ?_, ?_, ?_, ?_⟩, fun j hj hf => ?_⟩
    · simp (disch := omega) only [xup_d]; exact h4
    · simp (disch := omega) only [xup_d, xup_s]; exact g2
    · simp (disch := omega) only [xup_d, xup_s]; exact g9
    · simp (disch := omega) only [xup_d, xup_s]; exact g3
    · simp (disch := omega) only [xup_d, xup_s]; exact g4
    · simp (disch := omega) only [xup_d, xup_s]; exact g5
    · simp (disch := omega) only [xup_d, xup_s]; exact g6
    · simp (disch := omega) only [xup_d, xup_s]; exact g7
    · simp (disch := omega) only [xup_d, xup_s]; exact g8
    · have a := pDiff_new w hf
      have a2 := pDiff_mono w (n := j + 1) (m := k) (by omega)
      simp (disch := omega) only [xup_o]
      rw [h5 _ (by omega)]
      exact gw j hj hf
end P27
