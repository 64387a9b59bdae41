/-! ===== the reference: functions of a row of numbers ===== -/
section P22
/-- array m holds w 0 .. w (n-1) from at on, all small -/
def mW (I : xMem) (m at' n : Nat) (w : Nat → Nat) : Prop := xK m = 10 ∧ at' + n ≤ xL m ∧ xL m < 2147483648 ∧ (∀ j, j < n → I m (at' + j) = nI (w j)) ∧ (∀ j, j < n → w j ≤ 1023)
theorem mW.pre {I : xMem} {m a n n' : Nat} {w : Nat → Nat} (h : mW I m a n w) (hn : n' ≤ n) : mW I m a n' w := ⟨h.1, by have := h.2.1; omega, h.2.2.1, fun j hj => h.2.2.2.1 j (by omega), fun j hj => h.2.2.2.2 j (by omega)⟩
theorem s9_less {x y : Nat} {I : xMem} (hx : x < 2147483648) (hy : y < 2147483648) : f_X9_less [.int (nI x), .int (nI y)] I = some (.inl (some (.int (nI (min x y)))), I) := by
  rw [e_X9_less]
  by_cases h : y ≤ x
  · simp (disch := omega) only [q_X9_less_0, q_X9_less_1, q_X9_less_2, q_X9_less_5, q_X9_less_6, q_X9_less_9, q_X9_less_10, nI_add, pI_le, pI_lt, pI_eq, pI_neg, pI_nn, pI_le0, pI_gt0, pI_eq0, xbV_s, xbU_s, if_true, if_false, bI_eq0, h, Nat.min_eq_right h]
  · simp (disch := omega) only [q_X9_less_0, q_X9_less_1, q_X9_less_2, q_X9_less_5, q_X9_less_6, q_X9_less_9, q_X9_less_10, nI_add, pI_le, pI_lt, pI_eq, pI_neg, pI_nn, pI_le0, pI_gt0, pI_eq0, xbV_s, xbU_s, if_true, if_false, bI_eq0, h, Nat.min_eq_left (Nat.le_of_not_le h)]
theorem s9_more {x y : Nat} {I : xMem} (hx : x < 2147483648) (hy : y < 2147483648) : f_X9_more [.int (nI x), .int (nI y)] I = some (.inl (some (.int (nI (max x y)))), I) := by
  rw [e_X9_more]
  by_cases h : x ≤ y
  · simp (disch := omega) only [q_X9_more_0, q_X9_more_1, q_X9_more_2, q_X9_more_5, q_X9_more_6, q_X9_more_9, q_X9_more_10, nI_add, pI_le, pI_lt, pI_eq, pI_neg, pI_nn, pI_le0, pI_gt0, pI_eq0, xbV_s, xbU_s, if_true, if_false, bI_eq0, h, Nat.max_eq_right h]
  · simp (disch := omega) only [q_X9_more_0, q_X9_more_1, q_X9_more_2, q_X9_more_5, q_X9_more_6, q_X9_more_9, q_X9_more_10, nI_add, pI_le, pI_lt, pI_eq, pI_neg, pI_nn, pI_le0, pI_gt0, pI_eq0, xbV_s, xbU_s, if_true, if_false, bI_eq0, h, Nat.max_eq_left (Nat.le_of_not_le h)]
theorem s9_in {x lo hi : Int64} {I : xMem} : f_X9_in [.long x, .long lo, .long hi] I = some (.inl (some (.int (bI (decide (lo.toInt ≤ x.toInt ∧ x.toInt ≤ hi.toInt))))), I) := by
  rw [e_X9_in]
  by_cases h1 : x.toInt < lo.toInt
  · rw [decide_eq_false (by omega), bI_f]
    simp only [q_X9_in_0, q_X9_in_1, q_X9_in_2, q_X9_in_3, q_X9_in_6, q_X9_in_7, q_X9_in_9, q_X9_in_10, q_X9_in_13, q_X9_in_14, q_X9_in_17, q_X9_in_18_b, q_X9_in_18_0, q_X9_in_18_1, lgc_lt, h1, if_true]
  · by_cases h2 : hi.toInt < x.toInt
    · rw [decide_eq_false (by omega), bI_f]
      simp only [q_X9_in_0, q_X9_in_1, q_X9_in_2, q_X9_in_3, q_X9_in_6, q_X9_in_7, q_X9_in_9, q_X9_in_10, q_X9_in_13, q_X9_in_14, q_X9_in_17, q_X9_in_18_b, q_X9_in_18_0, q_X9_in_18_1, lgc_lt, lgc_gt, h1, h2, if_true, if_false]
    · rw [decide_eq_true (by omega), bI_t]
      simp only [q_X9_in_0, q_X9_in_1, q_X9_in_2, q_X9_in_3, q_X9_in_6, q_X9_in_7, q_X9_in_9, q_X9_in_10, q_X9_in_13, q_X9_in_14, q_X9_in_17, q_X9_in_18_b, q_X9_in_18_0, q_X9_in_18_1, lgc_lt, lgc_gt, h1, h2, if_true, if_false]
theorem pk_shrG {n k : Nat} (hn : n < 2147483648) (hk : k < 32) : nI n >>> (nI k &&& 31) = nI (n / 2 ^ k) := by
  have e : nI k &&& 31 = nI k := by
    have : ∀ k, k < 32 → nI k &&& 31 = nI k := by decide +kernel
    exact this k hk
  rw [e]
  have e2 : ((nI k).toBitVec.smod 32).toNat = k := by
    have : ∀ k, k < 32 → ((nI k).toBitVec.smod 32).toNat = k := by decide +kernel
    exact this k hk
  exact pk_shrN hn (nI k) k e2
theorem s9_width_l {v : Nat} {I : xMem} (hv : v ≤ 2047) : ∀ d k, k + d = pWd v → xgo k_X9_width 2 [some (.int (nI v)), some (.int (nI k))] [] I = some (.inl (some (.int (nI (pWd v)))), I) := by
  have hb : pWd v ≤ 11 := pWd_small (by omega)
  intro d
  induction d with
  | zero =>
    intro k hk
    have h0 : v / 2 ^ k = 0 := Nat.div_eq_of_lt (pWd_le.mp (by omega))
    rw [q_X9_width_2]
    have e : k = pWd v := by omega
    simp (disch := omega) only [q_X9_width_0, q_X9_width_1, q_X9_width_3, q_X9_width_4, q_X9_width_5, q_X9_width_8, q_X9_width_11, q_X9_width_14, q_X9_width_15, nI_add, pI_le, pI_lt, pI_eq, pI_neg, pI_nn, pI_le0, pI_gt0, pI_eq0, xbV_s, xbU_s, if_true, if_false, bI_eq0, pk_shrG, h0, e]
    rw [← e, h0]
    simp (disch := omega) only [q_X9_width_0, q_X9_width_1, q_X9_width_3, q_X9_width_4, q_X9_width_5, q_X9_width_8, q_X9_width_11, q_X9_width_14, q_X9_width_15, nI_add, pI_le, pI_lt, pI_eq, pI_neg, pI_nn, pI_le0, pI_gt0, pI_eq0, xbV_s, xbU_s, if_true, if_false, bI_eq0, pk_shrG, h0]
  | succ d ih =>
    intro k hk
    have h0 : ¬ v / 2 ^ k = 0 := by
      intro q
      have h1 : ¬ v < 2 ^ k := fun z => by have := pWd_le.mpr z; omega
      rcases (Nat.div_eq_zero_iff).mp q with q1 | q1
      · exact absurd q1 (Nat.ne_of_gt (Nat.pow_pos (by decide)))
      · exact h1 q1
    have h1 : v / 2 ^ k < 2147483648 := Nat.lt_of_le_of_lt (Nat.div_le_self _ _) (by omega)
    rw [q_X9_width_2]
    simp (disch := omega) only [q_X9_width_0, q_X9_width_1, q_X9_width_3, q_X9_width_4, q_X9_width_5, q_X9_width_8, q_X9_width_11, q_X9_width_14, q_X9_width_15, nI_add, pI_le, pI_lt, pI_eq, pI_neg, pI_nn, pI_le0, pI_gt0, pI_eq0, xbV_s, xbU_s, if_true, if_false, bI_eq0, pk_shrG, h0]
    exact ih (k + 1) (by omega)
theorem s9_width {v : Nat} {I : xMem} (hv : v ≤ 2047) : f_X9_width [.int (nI v)] I = some (.inl (some (.int (nI (pWd v)))), I) := by
  rw [e_X9_width]
  simp only [q_X9_width_0, q_X9_width_1, q_X9_width_3, q_X9_width_4, q_X9_width_5, q_X9_width_8, q_X9_width_11, q_X9_width_14, q_X9_width_15]
  exact s9_width_l hv (pWd v) 0 (by omega)
theorem s9_smallest_l {m a n : Nat} {w : Nat → Nat} {I : xMem} (h : mW I m a n w) : ∀ d k, k + d = n → xgo k_X9_smallestIn 7 [some (.ref m), some (.int (nI a)), some (.int (nI n)), some (.int (nI (pMn w k))), some (.int (nI (a + k)))] [] I = some (.inl (some (.int (nI (pMn w n)))), I) := by
  obtain ⟨h1, h2, h3, h4, h5⟩ := h
  intro d
  induction d with
  | zero =>
    intro k hk
    have e : k = n := by omega
    subst e
    rw [q_X9_smallestIn_7]
    simp (disch := omega) only [q_X9_smallestIn_0, q_X9_smallestIn_3, q_X9_smallestIn_4, q_X9_smallestIn_5, q_X9_smallestIn_9, q_X9_smallestIn_10, q_X9_smallestIn_11, q_X9_smallestIn_12, q_X9_smallestIn_15, q_X9_smallestIn_16, q_X9_smallestIn_17, q_X9_smallestIn_19, q_X9_smallestIn_20, q_X9_smallestIn_23, q_X9_smallestIn_24, q_X9_smallestIn_27, q_X9_smallestIn_30, q_X9_smallestIn_31, nI_add, pI_le, pI_lt, pI_eq, pI_neg, pI_nn, pI_le0, pI_gt0, pI_eq0, xbV_s, xbU_s, if_true, if_false, bI_eq0, Nat.le_refl]
  | succ d ih =>
    intro k hk
    have hm := pMn_le w k
    have hw := h5 k (by omega)
    rw [q_X9_smallestIn_7]
    have hn9 : ¬ a + n ≤ a + k := by omega
    simp (disch := omega) only [q_X9_smallestIn_0, q_X9_smallestIn_3, q_X9_smallestIn_4, q_X9_smallestIn_5, q_X9_smallestIn_9, q_X9_smallestIn_10, q_X9_smallestIn_11, q_X9_smallestIn_12, q_X9_smallestIn_15, q_X9_smallestIn_16, q_X9_smallestIn_17, q_X9_smallestIn_19, q_X9_smallestIn_20, q_X9_smallestIn_23, q_X9_smallestIn_24, q_X9_smallestIn_27, q_X9_smallestIn_30, q_X9_smallestIn_31, nI_add, pI_le, pI_lt, pI_eq, pI_neg, pI_nn, pI_le0, pI_gt0, pI_eq0, xbV_s, xbU_s, if_true, if_false, bI_eq0, h1, h4 k (by omega), s9_less, hn9]
    exact ih (k + 1) (by omega)
theorem s9_smallest {m a n : Nat} {w : Nat → Nat} {I : xMem} (h : mW I m a n w) : f_X9_smallestIn [.ref m, .int (nI a), .int (nI n)] I = some (.inl (some (.int (nI (pMn w n)))), I) := by
  rw [e_X9_smallestIn]
  simp only [q_X9_smallestIn_0, q_X9_smallestIn_3, q_X9_smallestIn_4, q_X9_smallestIn_5, q_X9_smallestIn_9, q_X9_smallestIn_10, q_X9_smallestIn_11, q_X9_smallestIn_12, q_X9_smallestIn_15, q_X9_smallestIn_16, q_X9_smallestIn_17, q_X9_smallestIn_19, q_X9_smallestIn_20, q_X9_smallestIn_23, q_X9_smallestIn_24, q_X9_smallestIn_27, q_X9_smallestIn_30, q_X9_smallestIn_31]
  exact s9_smallest_l h n 0 (by omega)
theorem s9_greatest_l {m a n : Nat} {w : Nat → Nat} {I : xMem} (h : mW I m a n w) : ∀ d k, k + d = n → xgo k_X9_greatestIn 5 [some (.ref m), some (.int (nI a)), some (.int (nI n)), some (.int (nI (pMx w k))), some (.int (nI (a + k)))] [] I = some (.inl (some (.int (nI (pMx w n)))), I) := by
  obtain ⟨h1, h2, h3, h4, h5⟩ := h
  intro d
  induction d with
  | zero =>
    intro k hk
    have e : k = n := by omega
    subst e
    rw [q_X9_greatestIn_5]
    simp (disch := omega) only [q_X9_greatestIn_0, q_X9_greatestIn_1, q_X9_greatestIn_2, q_X9_greatestIn_3, q_X9_greatestIn_7, q_X9_greatestIn_8, q_X9_greatestIn_9, q_X9_greatestIn_10, q_X9_greatestIn_13, q_X9_greatestIn_14, q_X9_greatestIn_15, q_X9_greatestIn_17, q_X9_greatestIn_18, q_X9_greatestIn_21, q_X9_greatestIn_22, q_X9_greatestIn_25, q_X9_greatestIn_28, q_X9_greatestIn_29, nI_add, pI_le, pI_lt, pI_eq, pI_neg, pI_nn, pI_le0, pI_gt0, pI_eq0, xbV_s, xbU_s, if_true, if_false, bI_eq0, Nat.le_refl]
  | succ d ih =>
    intro k hk
    have hm : pMx w k ≤ 1023 := pMx_le (fun j hj => h5 j (by omega))
    have hw := h5 k (by omega)
    rw [q_X9_greatestIn_5]
    have hn9 : ¬ a + n ≤ a + k := by omega
    simp (disch := omega) only [q_X9_greatestIn_0, q_X9_greatestIn_1, q_X9_greatestIn_2, q_X9_greatestIn_3, q_X9_greatestIn_7, q_X9_greatestIn_8, q_X9_greatestIn_9, q_X9_greatestIn_10, q_X9_greatestIn_13, q_X9_greatestIn_14, q_X9_greatestIn_15, q_X9_greatestIn_17, q_X9_greatestIn_18, q_X9_greatestIn_21, q_X9_greatestIn_22, q_X9_greatestIn_25, q_X9_greatestIn_28, q_X9_greatestIn_29, nI_add, pI_le, pI_lt, pI_eq, pI_neg, pI_nn, pI_le0, pI_gt0, pI_eq0, xbV_s, xbU_s, if_true, if_false, bI_eq0, h1, h4 k (by omega), s9_more, hn9]
    exact ih (k + 1) (by omega)
theorem s9_greatest {m a n : Nat} {w : Nat → Nat} {I : xMem} (h : mW I m a n w) : f_X9_greatestIn [.ref m, .int (nI a), .int (nI n)] I = some (.inl (some (.int (nI (pMx w n)))), I) := by
  rw [e_X9_greatestIn]
  simp only [q_X9_greatestIn_0, q_X9_greatestIn_1, q_X9_greatestIn_2, q_X9_greatestIn_3, q_X9_greatestIn_7, q_X9_greatestIn_8, q_X9_greatestIn_9, q_X9_greatestIn_10, q_X9_greatestIn_13, q_X9_greatestIn_14, q_X9_greatestIn_15, q_X9_greatestIn_17, q_X9_greatestIn_18, q_X9_greatestIn_21, q_X9_greatestIn_22, q_X9_greatestIn_25, q_X9_greatestIn_28, q_X9_greatestIn_29]
  exact s9_greatest_l h n 0 (by omega)
theorem s9_isNew_l {m a n k : Nat} {w : Nat → Nat} {I : xMem} (h : mW I m a n w) (hk : k < n) : ∀ d j, j + d = k → pFree w (w k) j = true → xgo k_X9_isNew 2 [some (.ref m), some (.int (nI a)), some (.int (nI (a + k))), some (.int (nI (a + j)))] [] I = some (.inl (some (.int (bI (pFree w (w k) k)))), I) := by
  obtain ⟨h1, h2, h3, h4, h5⟩ := h
  intro d
  induction d with
  | zero =>
    intro j hj hf
    have e : j = k := by omega
    subst e
    rw [q_X9_isNew_2, hf]
    simp (disch := omega) only [q_X9_isNew_0, q_X9_isNew_1, q_X9_isNew_3, q_X9_isNew_4, q_X9_isNew_7, q_X9_isNew_8, q_X9_isNew_9, q_X9_isNew_10, q_X9_isNew_11, q_X9_isNew_12, q_X9_isNew_13, q_X9_isNew_16, q_X9_isNew_17_b, q_X9_isNew_17_0, q_X9_isNew_17_1, q_X9_isNew_18, q_X9_isNew_21, q_X9_isNew_24, q_X9_isNew_25_b, q_X9_isNew_25_0, q_X9_isNew_25_1, nI_add, pI_le, pI_lt, pI_eq, pI_neg, pI_nn, pI_le0, pI_gt0, pI_eq0, xbV_s, xbU_s, if_true, if_false, bI_eq0, Nat.le_refl, bI_t]
  | succ d ih =>
    intro j hj hf
    have hw := h5 k hk
    have hw2 := h5 j (by omega)
    by_cases e : w j = w k
    · have hb : pFree w (w k) k = false := by
        cases hq : pFree w (w k) k with
        | false => rfl
        | true => exact absurd e (pFree_iff.mp hq j (by omega))
      rw [q_X9_isNew_2, hb, bI_f]
      have hn9 : ¬ a + k ≤ a + j := by omega
      simp (disch := omega) only [q_X9_isNew_0, q_X9_isNew_1, q_X9_isNew_3, q_X9_isNew_4, q_X9_isNew_7, q_X9_isNew_8, q_X9_isNew_9, q_X9_isNew_10, q_X9_isNew_11, q_X9_isNew_12, q_X9_isNew_13, q_X9_isNew_16, q_X9_isNew_17_b, q_X9_isNew_17_0, q_X9_isNew_17_1, q_X9_isNew_18, q_X9_isNew_21, q_X9_isNew_24, q_X9_isNew_25_b, q_X9_isNew_25_0, q_X9_isNew_25_1, nI_add, pI_le, pI_lt, pI_eq, pI_neg, pI_nn, pI_le0, pI_gt0, pI_eq0, xbV_s, xbU_s, if_true, if_false, bI_eq0, h1, h4 k (by omega), h4 j (by omega), hn9, e]
    · rw [q_X9_isNew_2]
      have hn9 : ¬ a + k ≤ a + j := by omega
      simp (disch := omega) only [q_X9_isNew_0, q_X9_isNew_1, q_X9_isNew_3, q_X9_isNew_4, q_X9_isNew_7, q_X9_isNew_8, q_X9_isNew_9, q_X9_isNew_10, q_X9_isNew_11, q_X9_isNew_12, q_X9_isNew_13, q_X9_isNew_16, q_X9_isNew_17_b, q_X9_isNew_17_0, q_X9_isNew_17_1, q_X9_isNew_18, q_X9_isNew_21, q_X9_isNew_24, q_X9_isNew_25_b, q_X9_isNew_25_0, q_X9_isNew_25_1, nI_add, pI_le, pI_lt, pI_eq, pI_neg, pI_nn, pI_le0, pI_gt0, pI_eq0, xbV_s, xbU_s, if_true, if_false, bI_eq0, h1, h4 k (by omega), h4 j (by omega), hn9, e]
      exact ih (j + 1) (by omega) (by unfold pFree; rw [hf]; simpa using e)
theorem s9_isNew {m a n k : Nat} {w : Nat → Nat} {I : xMem} (h : mW I m a n w) (hk : k < n) : f_X9_isNew [.ref m, .int (nI a), .int (nI (a + k))] I = some (.inl (some (.int (bI (pFree w (w k) k)))), I) := by
  rw [e_X9_isNew]
  simp only [q_X9_isNew_0, q_X9_isNew_1, q_X9_isNew_3, q_X9_isNew_4, q_X9_isNew_7, q_X9_isNew_8, q_X9_isNew_9, q_X9_isNew_10, q_X9_isNew_11, q_X9_isNew_12, q_X9_isNew_13, q_X9_isNew_16, q_X9_isNew_17_b, q_X9_isNew_17_0, q_X9_isNew_17_1, q_X9_isNew_18, q_X9_isNew_21, q_X9_isNew_24, q_X9_isNew_25_b, q_X9_isNew_25_0, q_X9_isNew_25_1]
  exact s9_isNew_l h hk k 0 (by omega) rfl
theorem s9_diff_l {m a n : Nat} {w : Nat → Nat} {I : xMem} (h : mW I m a n w) : ∀ d k, k + d = n → xgo k_X9_differentIn 5 [some (.ref m), some (.int (nI a)), some (.int (nI n)), some (.int (nI (pDiff w k))), some (.int (nI (a + k)))] [] I = some (.inl (some (.int (nI (pDiff w n)))), I) := by
  have h0 := h
  obtain ⟨h1, h2, h3, h4, h5⟩ := h
  intro d
  induction d with
  | zero =>
    intro k hk
    have e : k = n := by omega
    subst e
    rw [q_X9_differentIn_5]
    simp (disch := omega) only [q_X9_differentIn_0, q_X9_differentIn_1, q_X9_differentIn_2, q_X9_differentIn_3, q_X9_differentIn_7, q_X9_differentIn_8, q_X9_differentIn_9, q_X9_differentIn_10, q_X9_differentIn_13, q_X9_differentIn_14, q_X9_differentIn_15, q_X9_differentIn_16, q_X9_differentIn_18, q_X9_differentIn_21, q_X9_differentIn_24, q_X9_differentIn_25, q_X9_differentIn_28, q_X9_differentIn_29, q_X9_differentIn_30, q_X9_differentIn_31, q_X9_differentIn_34, q_X9_differentIn_37, q_X9_differentIn_38, nI_add, pI_le, pI_lt, pI_eq, pI_neg, pI_nn, pI_le0, pI_gt0, pI_eq0, xbV_s, xbU_s, if_true, if_false, bI_eq0, Nat.le_refl]
  | succ d ih =>
    intro k hk
    have hm := pDiff_le w k
    rw [q_X9_differentIn_5]
    have hn9 : ¬ a + n ≤ a + k := by omega
    simp (disch := omega) only [q_X9_differentIn_0, q_X9_differentIn_1, q_X9_differentIn_2, q_X9_differentIn_3, q_X9_differentIn_7, q_X9_differentIn_8, q_X9_differentIn_9, q_X9_differentIn_10, q_X9_differentIn_13, q_X9_differentIn_14, q_X9_differentIn_15, q_X9_differentIn_16, q_X9_differentIn_18, q_X9_differentIn_21, q_X9_differentIn_24, q_X9_differentIn_25, q_X9_differentIn_28, q_X9_differentIn_29, q_X9_differentIn_30, q_X9_differentIn_31, q_X9_differentIn_34, q_X9_differentIn_37, q_X9_differentIn_38, nI_add, pI_le, pI_lt, pI_eq, pI_neg, pI_nn, pI_le0, pI_gt0, pI_eq0, xbV_s, xbU_s, if_true, if_false, bI_eq0, s9_isNew h0 (by omega : k < n), hn9]
    by_cases e : pFree w (w k) k = true
    · simp (disch := omega) only [q_X9_differentIn_0, q_X9_differentIn_1, q_X9_differentIn_2, q_X9_differentIn_3, q_X9_differentIn_7, q_X9_differentIn_8, q_X9_differentIn_9, q_X9_differentIn_10, q_X9_differentIn_13, q_X9_differentIn_14, q_X9_differentIn_15, q_X9_differentIn_16, q_X9_differentIn_18, q_X9_differentIn_21, q_X9_differentIn_24, q_X9_differentIn_25, q_X9_differentIn_28, q_X9_differentIn_29, q_X9_differentIn_30, q_X9_differentIn_31, q_X9_differentIn_34, q_X9_differentIn_37, q_X9_differentIn_38, nI_add, pI_le, pI_lt, pI_eq, pI_neg, pI_nn, pI_le0, pI_gt0, pI_eq0, xbV_s, xbU_s, if_true, if_false, bI_eq0, e, Bool.true_eq_false]
      rw [← pDiff_new w e]
      exact ih (k + 1) (by omega)
    · have e' : pFree w (w k) k = false := by simpa using e
      simp (disch := omega) only [q_X9_differentIn_0, q_X9_differentIn_1, q_X9_differentIn_2, q_X9_differentIn_3, q_X9_differentIn_7, q_X9_differentIn_8, q_X9_differentIn_9, q_X9_differentIn_10, q_X9_differentIn_13, q_X9_differentIn_14, q_X9_differentIn_15, q_X9_differentIn_16, q_X9_differentIn_18, q_X9_differentIn_21, q_X9_differentIn_24, q_X9_differentIn_25, q_X9_differentIn_28, q_X9_differentIn_29, q_X9_differentIn_30, q_X9_differentIn_31, q_X9_differentIn_34, q_X9_differentIn_37, q_X9_differentIn_38, nI_add, pI_le, pI_lt, pI_eq, pI_neg, pI_nn, pI_le0, pI_gt0, pI_eq0, xbV_s, xbU_s, if_true, if_false, bI_eq0, e']
      have := ih (k + 1) (by omega)
      rw [pDiff_old w e] at this
      exact this
theorem s9_diff {m a n : Nat} {w : Nat → Nat} {I : xMem} (h : mW I m a n w) : f_X9_differentIn [.ref m, .int (nI a), .int (nI n)] I = some (.inl (some (.int (nI (pDiff w n)))), I) := by
  rw [e_X9_differentIn]
  simp only [q_X9_differentIn_0, q_X9_differentIn_1, q_X9_differentIn_2, q_X9_differentIn_3, q_X9_differentIn_7, q_X9_differentIn_8, q_X9_differentIn_9, q_X9_differentIn_10, q_X9_differentIn_13, q_X9_differentIn_14, q_X9_differentIn_15, q_X9_differentIn_16, q_X9_differentIn_18, q_X9_differentIn_21, q_X9_differentIn_24, q_X9_differentIn_25, q_X9_differentIn_28, q_X9_differentIn_29, q_X9_differentIn_30, q_X9_differentIn_31, q_X9_differentIn_34, q_X9_differentIn_37, q_X9_differentIn_38]
  exact s9_diff_l h n 0 (by omega)
theorem s9_runs_l {m a n : Nat} {w : Nat → Nat} {I : xMem} (h : mW I m a n w) : ∀ d k, k + 1 + d = n → xgo k_X9_runsIn 7 [some (.ref m), some (.int (nI a)), some (.int (nI n)), some (.int (nI (pRuns w (k + 1)))), some (.int (nI (a + (k + 1))))] [] I = some (.inl (some (.int (nI (pRuns w n)))), I) := by
  have h0 := h
  obtain ⟨h1, h2, h3, h4, h5⟩ := h
  intro d
  induction d with
  | zero =>
    intro k hk
    have e : k + 1 = n := by omega
    subst e
    rw [q_X9_runsIn_7]
    simp (disch := omega) only [q_X9_runsIn_0, q_X9_runsIn_1, q_X9_runsIn_2, q_X9_runsIn_3, q_X9_runsIn_4, q_X9_runsIn_5, q_X9_runsIn_9, q_X9_runsIn_10, q_X9_runsIn_11, q_X9_runsIn_12, q_X9_runsIn_15, q_X9_runsIn_16, q_X9_runsIn_17, q_X9_runsIn_19, q_X9_runsIn_20, q_X9_runsIn_21, q_X9_runsIn_23, q_X9_runsIn_24, q_X9_runsIn_25, q_X9_runsIn_26, q_X9_runsIn_29, q_X9_runsIn_30, q_X9_runsIn_33, q_X9_runsIn_34, q_X9_runsIn_35, q_X9_runsIn_36, q_X9_runsIn_39, q_X9_runsIn_42, q_X9_runsIn_43, nI_add, pI_le, pI_lt, pI_eq, pI_neg, pI_nn, pI_le0, pI_gt0, pI_eq0, xbV_s, xbU_s, if_true, if_false, bI_eq0, Nat.le_refl]
  | succ d ih =>
    intro k hk
    have hw := h5 k (by omega)
    have hw2 := h5 (k + 1) (by omega)
    have e3 : nI (a + (k + 1)) - nI 1 = nI (a + k) := by rw [pI_sub (by omega)]; rfl
    rw [q_X9_runsIn_7]
    have hn9 : ¬ a + n ≤ a + (k + 1) := by omega
    simp (disch := omega) only [q_X9_runsIn_0, q_X9_runsIn_1, q_X9_runsIn_2, q_X9_runsIn_3, q_X9_runsIn_4, q_X9_runsIn_5, q_X9_runsIn_9, q_X9_runsIn_10, q_X9_runsIn_11, q_X9_runsIn_12, q_X9_runsIn_15, q_X9_runsIn_16, q_X9_runsIn_17, q_X9_runsIn_19, q_X9_runsIn_20, q_X9_runsIn_21, q_X9_runsIn_23, q_X9_runsIn_24, q_X9_runsIn_25, q_X9_runsIn_26, q_X9_runsIn_29, q_X9_runsIn_30, q_X9_runsIn_33, q_X9_runsIn_34, q_X9_runsIn_35, q_X9_runsIn_36, q_X9_runsIn_39, q_X9_runsIn_42, q_X9_runsIn_43, nI_add, pI_le, pI_lt, pI_eq, pI_neg, pI_nn, pI_le0, pI_gt0, pI_eq0, xbV_s, xbU_s, if_true, if_false, bI_eq0, h1, h4 k (by omega), h4 (k + 1) (by omega), e3, hn9]
    have := ih (k + 1) (by omega)
    rw [pRuns_ss] at this
    by_cases e : w (k + 1) = w k
    · rw [if_pos e] at this
      simp (disch := omega) only [q_X9_runsIn_0, q_X9_runsIn_1, q_X9_runsIn_2, q_X9_runsIn_3, q_X9_runsIn_4, q_X9_runsIn_5, q_X9_runsIn_9, q_X9_runsIn_10, q_X9_runsIn_11, q_X9_runsIn_12, q_X9_runsIn_15, q_X9_runsIn_16, q_X9_runsIn_17, q_X9_runsIn_19, q_X9_runsIn_20, q_X9_runsIn_21, q_X9_runsIn_23, q_X9_runsIn_24, q_X9_runsIn_25, q_X9_runsIn_26, q_X9_runsIn_29, q_X9_runsIn_30, q_X9_runsIn_33, q_X9_runsIn_34, q_X9_runsIn_35, q_X9_runsIn_36, q_X9_runsIn_39, q_X9_runsIn_42, q_X9_runsIn_43, nI_add, pI_le, pI_lt, pI_eq, pI_neg, pI_nn, pI_le0, pI_gt0, pI_eq0, xbV_s, xbU_s, if_true, if_false, bI_eq0, e]
      exact this
    · rw [if_neg e] at this
      simp (disch := omega) only [q_X9_runsIn_0, q_X9_runsIn_1, q_X9_runsIn_2, q_X9_runsIn_3, q_X9_runsIn_4, q_X9_runsIn_5, q_X9_runsIn_9, q_X9_runsIn_10, q_X9_runsIn_11, q_X9_runsIn_12, q_X9_runsIn_15, q_X9_runsIn_16, q_X9_runsIn_17, q_X9_runsIn_19, q_X9_runsIn_20, q_X9_runsIn_21, q_X9_runsIn_23, q_X9_runsIn_24, q_X9_runsIn_25, q_X9_runsIn_26, q_X9_runsIn_29, q_X9_runsIn_30, q_X9_runsIn_33, q_X9_runsIn_34, q_X9_runsIn_35, q_X9_runsIn_36, q_X9_runsIn_39, q_X9_runsIn_42, q_X9_runsIn_43, nI_add, pI_le, pI_lt, pI_eq, pI_neg, pI_nn, pI_le0, pI_gt0, pI_eq0, xbV_s, xbU_s, if_true, if_false, bI_eq0, e]
      exact this
theorem s9_runs {m a n : Nat} {w : Nat → Nat} {I : xMem} (h : mW I m a n w) (hn : 0 < n) : f_X9_runsIn [.ref m, .int (nI a), .int (nI n)] I = some (.inl (some (.int (nI (pRuns w n)))), I) := by
  rw [e_X9_runsIn]
  simp only [q_X9_runsIn_0, q_X9_runsIn_1, q_X9_runsIn_2, q_X9_runsIn_3, q_X9_runsIn_4, q_X9_runsIn_5, q_X9_runsIn_9, q_X9_runsIn_10, q_X9_runsIn_11, q_X9_runsIn_12, q_X9_runsIn_15, q_X9_runsIn_16, q_X9_runsIn_17, q_X9_runsIn_19, q_X9_runsIn_20, q_X9_runsIn_21, q_X9_runsIn_23, q_X9_runsIn_24, q_X9_runsIn_25, q_X9_runsIn_26, q_X9_runsIn_29, q_X9_runsIn_30, q_X9_runsIn_33, q_X9_runsIn_34, q_X9_runsIn_35, q_X9_runsIn_36, q_X9_runsIn_39, q_X9_runsIn_42, q_X9_runsIn_43, nI_add]
  exact s9_runs_l h (n - 1) 0 (by omega)
theorem pS_ge {a b c : Nat} (ha : a < 1000000) (hb : b < 1000000) (hc : c < 1000000) : (nI c ≤ nI b - nI a) = (c + a ≤ b) := by
  rw [Int32.le_iff_toInt_le, pk_sub_toInt (by omega) (by omega), nI_toInt (by omega)]
  exact propext ⟨fun h => by omega, fun h => by omega⟩
theorem pS_nl {a b c : Nat} (ha : a < 1000000) (hb : b < 1000000) (hc : c < 1000000) : (-nI c ≤ nI b - nI a) = (a ≤ b + c) := by
  rw [Int32.le_iff_toInt_le, pk_sub_toInt (by omega) (by omega), sb_negT (by omega)]
  exact propext ⟨fun h => by omega, fun h => by omega⟩
theorem pS_sh {W : Nat} (h1 : 1 ≤ W) (h2 : W ≤ 20) : nI 1 <<< ((nI W - nI 1) &&& 31) = nI (2 ^ (W - 1)) := by
  have : ∀ k, k < 20 → nI 1 <<< ((nI (k + 1) - nI 1) &&& 31) = nI (2 ^ k) := by decide +kernel
  have := this (W - 1) (by omega)
  rw [show W - 1 + 1 = W by omega] at this
  exact this
theorem pSt_gt {x y W : Nat} (h1 : 1 ≤ W) : (W < pSt x y) ↔ (2 ^ (W - 1) + x ≤ y ∨ ¬ x ≤ y + 2 ^ (W - 1)) := by
  have key : ∀ v, (W < 1 + pWd v) ↔ 2 ^ (W - 1) ≤ v := by
    intro v
    have := pWd_le (v := v) (k := W - 1)
    omega
  unfold pSt
  rw [key]
  have hp : 0 < 2 ^ (W - 1) := Nat.pow_pos (by decide)
  split <;> omega
theorem s9_step_i {m a n x y i : Nat} {I : xMem} (hx : x ≤ 1023) (hy : y ≤ 1023) : ∀ d W, 1 ≤ W → W ≤ 11 → (pSt x y = W + d ∨ (d = 0 ∧ pSt x y ≤ W)) → xgo k_X9_stepWidth 28 [some (.ref m), some (.int (nI a)), some (.int (nI n)), some (.int (nI W)), some (.int (nI i)), some (.int (nI y - nI x))] [] I = xgo k_X9_stepWidth 55 [some (.ref m), some (.int (nI a)), some (.int (nI n)), some (.int (nI (max W (pSt x y)))), some (.int (nI i)), some (.int (nI y - nI x))] [] I := by
  intro d
  induction d with
  | zero =>
    intro W h1 h2 h3
    have h4 : ¬ W < pSt x y := by omega
    rw [pSt_gt h1] at h4
    have hp : 2 ^ (W - 1) ≤ 2 ^ 10 := Nat.pow_le_pow_right (by decide) (by omega)
    have e : max W (pSt x y) = W := by omega
    have n1 : ¬ 2 ^ (W - 1) + x ≤ y := fun q => h4 (Or.inl q)
    have n2 : x ≤ y + 2 ^ (W - 1) := Decidable.byContradiction (fun q => h4 (Or.inr q))
    rw [q_X9_stepWidth_28, e]
    simp (disch := omega) only [q_X9_stepWidth_30, q_X9_stepWidth_31, q_X9_stepWidth_32, q_X9_stepWidth_33, q_X9_stepWidth_34, q_X9_stepWidth_35, q_X9_stepWidth_38, q_X9_stepWidth_40, q_X9_stepWidth_41, q_X9_stepWidth_42, q_X9_stepWidth_43, q_X9_stepWidth_44, q_X9_stepWidth_45, q_X9_stepWidth_46, nI_add, pI_le, pI_lt, pI_eq, pI_neg, pI_nn, pI_le0, pI_gt0, pI_eq0, xbV_s, xbU_s, if_true, if_false, bI_eq0, pS_sh, pS_ge, pS_nl, n1, n2]
  | succ d ih =>
    intro W h1 h2 h3
    have hs := pSt_le hx hy
    have h4 : W < pSt x y := by omega
    have h5 := (pSt_gt h1).mp h4
    have hp : 2 ^ (W - 1) ≤ 2 ^ 10 := Nat.pow_le_pow_right (by decide) (by omega)
    have h6 := ih (W + 1) (by omega) (by omega) (Or.inl (by omega))
    rw [show max (W + 1) (pSt x y) = max W (pSt x y) by omega] at h6
    rw [q_X9_stepWidth_28]
    by_cases n1 : 2 ^ (W - 1) + x ≤ y
    · simp (disch := omega) only [q_X9_stepWidth_30, q_X9_stepWidth_31, q_X9_stepWidth_32, q_X9_stepWidth_33, q_X9_stepWidth_34, q_X9_stepWidth_35, q_X9_stepWidth_38, q_X9_stepWidth_40, q_X9_stepWidth_41, q_X9_stepWidth_42, q_X9_stepWidth_43, q_X9_stepWidth_44, q_X9_stepWidth_45, q_X9_stepWidth_46, q_X9_stepWidth_49, q_X9_stepWidth_52, nI_add, pI_le, pI_lt, pI_eq, pI_neg, pI_nn, pI_le0, pI_gt0, pI_eq0, xbV_s, xbU_s, if_true, if_false, bI_eq0, pS_sh, pS_ge, pS_nl, n1]
      exact h6
    · have n2 : ¬ x ≤ y + 2 ^ (W - 1) := by
        rcases h5 with q | q
        · exact absurd q n1
        · exact q
      simp (disch := omega) only [q_X9_stepWidth_30, q_X9_stepWidth_31, q_X9_stepWidth_32, q_X9_stepWidth_33, q_X9_stepWidth_34, q_X9_stepWidth_35, q_X9_stepWidth_38, q_X9_stepWidth_40, q_X9_stepWidth_41, q_X9_stepWidth_42, q_X9_stepWidth_43, q_X9_stepWidth_44, q_X9_stepWidth_45, q_X9_stepWidth_46, q_X9_stepWidth_49, q_X9_stepWidth_52, nI_add, pI_le, pI_lt, pI_eq, pI_neg, pI_nn, pI_le0, pI_gt0, pI_eq0, xbV_s, xbU_s, if_true, if_false, bI_eq0, pS_sh, pS_ge, pS_nl, n1, n2]
      exact h6
theorem s9_step_l {m a n : Nat} {w : Nat → Nat} {I : xMem} (h : mW I m a n w) : ∀ d k (l5 : Option Value), k + 1 + d = n → xgo k_X9_stepWidth 7 [some (.ref m), some (.int (nI a)), some (.int (nI n)), some (.int (nI (pStep w (k + 1)))), some (.int (nI (a + (k + 1)))), l5] [] I = some (.inl (some (.int (nI (pStep w n)))), I) := by
  have h0 := h
  obtain ⟨h1, h2, h3, h4, h5⟩ := h
  intro d
  induction d with
  | zero =>
    intro k l5 hk
    have e : k + 1 = n := by omega
    subst e
    rw [q_X9_stepWidth_7]
    simp (disch := omega) only [q_X9_stepWidth_0, q_X9_stepWidth_1, q_X9_stepWidth_2, q_X9_stepWidth_3, q_X9_stepWidth_4, q_X9_stepWidth_5, q_X9_stepWidth_9, q_X9_stepWidth_10, q_X9_stepWidth_11, q_X9_stepWidth_12, q_X9_stepWidth_15, q_X9_stepWidth_16, q_X9_stepWidth_18, q_X9_stepWidth_19, q_X9_stepWidth_20, q_X9_stepWidth_22, q_X9_stepWidth_23, q_X9_stepWidth_24, q_X9_stepWidth_25, q_X9_stepWidth_26, q_X9_stepWidth_30, q_X9_stepWidth_31, q_X9_stepWidth_32, q_X9_stepWidth_33, q_X9_stepWidth_34, q_X9_stepWidth_35, q_X9_stepWidth_38, q_X9_stepWidth_40, q_X9_stepWidth_41, q_X9_stepWidth_42, q_X9_stepWidth_43, q_X9_stepWidth_44, q_X9_stepWidth_45, q_X9_stepWidth_46, q_X9_stepWidth_49, q_X9_stepWidth_52, q_X9_stepWidth_55, q_X9_stepWidth_58, q_X9_stepWidth_61, q_X9_stepWidth_62, nI_add, pI_le, pI_lt, pI_eq, pI_neg, pI_nn, pI_le0, pI_gt0, pI_eq0, xbV_s, xbU_s, if_true, if_false, bI_eq0, Nat.le_refl]
  | succ d ih =>
    intro k l5 hk
    have hw := h5 k (by omega)
    have hw2 := h5 (k + 1) (by omega)
    have hp := pStep_pos w (k + 1)
    have hp2 : pStep w (k + 1) ≤ 11 := pStep_le (fun j hj => h5 j (by omega))
    have hs := pSt_le hw hw2
    have e3 : nI (a + (k + 1)) - nI 1 = nI (a + k) := by rw [pI_sub (by omega)]; rfl
    have hn9 : ¬ a + n ≤ a + (k + 1) := by omega
    rw [q_X9_stepWidth_7]
    simp (disch := omega) only [q_X9_stepWidth_0, q_X9_stepWidth_1, q_X9_stepWidth_2, q_X9_stepWidth_3, q_X9_stepWidth_4, q_X9_stepWidth_5, q_X9_stepWidth_9, q_X9_stepWidth_10, q_X9_stepWidth_11, q_X9_stepWidth_12, q_X9_stepWidth_15, q_X9_stepWidth_16, q_X9_stepWidth_18, q_X9_stepWidth_19, q_X9_stepWidth_20, q_X9_stepWidth_22, q_X9_stepWidth_23, q_X9_stepWidth_24, q_X9_stepWidth_25, q_X9_stepWidth_26, q_X9_stepWidth_30, q_X9_stepWidth_31, q_X9_stepWidth_32, q_X9_stepWidth_33, q_X9_stepWidth_34, q_X9_stepWidth_35, q_X9_stepWidth_38, q_X9_stepWidth_40, q_X9_stepWidth_41, q_X9_stepWidth_42, q_X9_stepWidth_43, q_X9_stepWidth_44, q_X9_stepWidth_45, q_X9_stepWidth_46, q_X9_stepWidth_49, q_X9_stepWidth_52, q_X9_stepWidth_55, q_X9_stepWidth_58, q_X9_stepWidth_61, q_X9_stepWidth_62, nI_add, pI_le, pI_lt, pI_eq, pI_neg, pI_nn, pI_le0, pI_gt0, pI_eq0, xbV_s, xbU_s, if_true, if_false, bI_eq0, h1, h4 k (by omega), h4 (k + 1) (by omega), e3, hn9]
    rw [s9_step_i (x := w k) (y := w (k + 1)) hw hw2 (pSt (w k) (w (k + 1)) - pStep w (k + 1)) (pStep w (k + 1)) hp hp2 (by omega)]
    simp (disch := omega) only [q_X9_stepWidth_0, q_X9_stepWidth_1, q_X9_stepWidth_2, q_X9_stepWidth_3, q_X9_stepWidth_4, q_X9_stepWidth_5, q_X9_stepWidth_9, q_X9_stepWidth_10, q_X9_stepWidth_11, q_X9_stepWidth_12, q_X9_stepWidth_15, q_X9_stepWidth_16, q_X9_stepWidth_18, q_X9_stepWidth_19, q_X9_stepWidth_20, q_X9_stepWidth_22, q_X9_stepWidth_23, q_X9_stepWidth_24, q_X9_stepWidth_25, q_X9_stepWidth_26, q_X9_stepWidth_30, q_X9_stepWidth_31, q_X9_stepWidth_32, q_X9_stepWidth_33, q_X9_stepWidth_34, q_X9_stepWidth_35, q_X9_stepWidth_38, q_X9_stepWidth_40, q_X9_stepWidth_41, q_X9_stepWidth_42, q_X9_stepWidth_43, q_X9_stepWidth_44, q_X9_stepWidth_45, q_X9_stepWidth_46, q_X9_stepWidth_49, q_X9_stepWidth_52, q_X9_stepWidth_55, q_X9_stepWidth_58, q_X9_stepWidth_61, q_X9_stepWidth_62, nI_add, pI_le, pI_lt, pI_eq, pI_neg, pI_nn, pI_le0, pI_gt0, pI_eq0, xbV_s, xbU_s, if_true, if_false, bI_eq0]
    have := ih (k + 1) (some (.int (nI (w (k + 1)) - nI (w k)))) (by omega)
    rw [pStep_ss] at this
    exact this
theorem s9_step {m a n : Nat} {w : Nat → Nat} {I : xMem} (h : mW I m a n w) (hn : 0 < n) : f_X9_stepWidth [.ref m, .int (nI a), .int (nI n)] I = some (.inl (some (.int (nI (pStep w n)))), I) := by
  have := h.2.1
  have := h.2.2.1
  rw [e_X9_stepWidth]
  simp only [q_X9_stepWidth_0, q_X9_stepWidth_1, q_X9_stepWidth_2, q_X9_stepWidth_3, q_X9_stepWidth_4, q_X9_stepWidth_5, q_X9_stepWidth_9, q_X9_stepWidth_10, q_X9_stepWidth_11, q_X9_stepWidth_12, q_X9_stepWidth_15, q_X9_stepWidth_16, q_X9_stepWidth_18, q_X9_stepWidth_19, q_X9_stepWidth_20, q_X9_stepWidth_22, q_X9_stepWidth_23, q_X9_stepWidth_24, q_X9_stepWidth_25, q_X9_stepWidth_26, q_X9_stepWidth_30, q_X9_stepWidth_31, q_X9_stepWidth_32, q_X9_stepWidth_33, q_X9_stepWidth_34, q_X9_stepWidth_35, q_X9_stepWidth_38, q_X9_stepWidth_40, q_X9_stepWidth_41, q_X9_stepWidth_42, q_X9_stepWidth_43, q_X9_stepWidth_44, q_X9_stepWidth_45, q_X9_stepWidth_46, q_X9_stepWidth_49, q_X9_stepWidth_52, q_X9_stepWidth_55, q_X9_stepWidth_58, q_X9_stepWidth_61, q_X9_stepWidth_62, nI_add]
  exact s9_step_l h (n - 1) 0 none (by omega)
theorem pPos_hit {w : Nat → Nat} {x k : Nat} (hf : pFree w x k = true) (e : w k = x) : ∀ {n}, k < n → pPos w x n = k
  | 0, h => absurd h (by omega)
  | n + 1, h => by
    unfold pPos
    by_cases q : k = n
    · subst q
      rw [if_pos hf, if_pos e]
    · have : ¬ pFree w x n = true := fun z => pFree_iff.mp z k (by omega) e
      rw [if_neg this]
      exact pPos_hit hf e (by omega)
theorem pPos_miss {w : Nat → Nat} {x : Nat} : ∀ {n}, pFree w x n = true → pPos w x n = n
  | 0, _ => rfl
  | n + 1, h => by
    have h1 := pFree_iff.mp h
    unfold pPos
    rw [if_pos (pFree_iff.mpr (fun j hj => h1 j (by omega))), if_neg (h1 n (by omega))]
theorem s9_word_l {m a n x : Nat} {w : Nat → Nat} {I : xMem} (h : mW I m a n w) (hx : x < 2147483648) : ∀ d k, k + d = n → pFree w x k = true → xgo k_X9_wordOf 6 [some (.ref m), some (.int (nI a)), some (.int (nI n)), some (.int (nI x)), some (.int (nI (pDiff w k))), some (.int (nI (a + k)))] [] I = some (.inl (some (.int (nI (pWord w x n)))), I) := by
  have h0 := h
  obtain ⟨h1, h2, h3, h4, h5⟩ := h
  intro d
  induction d with
  | zero =>
    intro k hk hf
    have e : k = n := by omega
    subst e
    unfold pWord
    rw [q_X9_wordOf_6, pPos_miss hf]
    simp (disch := omega) only [q_X9_wordOf_0, q_X9_wordOf_1, q_X9_wordOf_3, q_X9_wordOf_4, q_X9_wordOf_8, q_X9_wordOf_9, q_X9_wordOf_10, q_X9_wordOf_11, q_X9_wordOf_14, q_X9_wordOf_15, q_X9_wordOf_16, q_X9_wordOf_18, q_X9_wordOf_21, q_X9_wordOf_24, q_X9_wordOf_25, q_X9_wordOf_27, q_X9_wordOf_28, q_X9_wordOf_29, q_X9_wordOf_32, q_X9_wordOf_34, q_X9_wordOf_35, q_X9_wordOf_38, q_X9_wordOf_41, q_X9_wordOf_44, q_X9_wordOf_46, nI_add, pI_le, pI_lt, pI_eq, pI_neg, pI_nn, pI_le0, pI_gt0, pI_eq0, xbV_s, xbU_s, if_true, if_false, bI_eq0, Nat.le_refl]
  | succ d ih =>
    intro k hk hf
    have hw := h5 k (by omega)
    have hd := pDiff_le w k
    have hn9 : ¬ a + n ≤ a + k := by omega
    rw [q_X9_wordOf_6]
    simp (disch := omega) only [q_X9_wordOf_0, q_X9_wordOf_1, q_X9_wordOf_3, q_X9_wordOf_4, q_X9_wordOf_8, q_X9_wordOf_9, q_X9_wordOf_10, q_X9_wordOf_11, q_X9_wordOf_14, q_X9_wordOf_15, q_X9_wordOf_16, q_X9_wordOf_18, q_X9_wordOf_21, q_X9_wordOf_24, q_X9_wordOf_25, q_X9_wordOf_27, q_X9_wordOf_28, q_X9_wordOf_29, q_X9_wordOf_32, q_X9_wordOf_34, q_X9_wordOf_35, q_X9_wordOf_38, q_X9_wordOf_41, q_X9_wordOf_44, q_X9_wordOf_46, nI_add, pI_le, pI_lt, pI_eq, pI_neg, pI_nn, pI_le0, pI_gt0, pI_eq0, xbV_s, xbU_s, if_true, if_false, bI_eq0, h1, s9_isNew h0 (by omega : k < n), hn9]
    by_cases e : w k = x
    · have hnew : pFree w (w k) k = true := by rw [e]; exact hf
      unfold pWord
      rw [pPos_hit hf e (by omega : k < n)]
      simp (disch := omega) only [q_X9_wordOf_0, q_X9_wordOf_1, q_X9_wordOf_3, q_X9_wordOf_4, q_X9_wordOf_8, q_X9_wordOf_9, q_X9_wordOf_10, q_X9_wordOf_11, q_X9_wordOf_14, q_X9_wordOf_15, q_X9_wordOf_16, q_X9_wordOf_18, q_X9_wordOf_21, q_X9_wordOf_24, q_X9_wordOf_25, q_X9_wordOf_27, q_X9_wordOf_28, q_X9_wordOf_29, q_X9_wordOf_32, q_X9_wordOf_34, q_X9_wordOf_35, q_X9_wordOf_38, q_X9_wordOf_41, q_X9_wordOf_44, q_X9_wordOf_46, nI_add, pI_le, pI_lt, pI_eq, pI_neg, pI_nn, pI_le0, pI_gt0, pI_eq0, xbV_s, xbU_s, if_true, if_false, bI_eq0, h1, h4 k (by omega), e, hf, Bool.true_eq_false]
    · have hf' : pFree w x (k + 1) = true := by unfold pFree; rw [hf]; simpa using e
      have := ih (k + 1) (by omega) hf'
      by_cases q : pFree w (w k) k = true
      · rw [pDiff_new w q] at this
        simp (disch := omega) only [q_X9_wordOf_0, q_X9_wordOf_1, q_X9_wordOf_3, q_X9_wordOf_4, q_X9_wordOf_8, q_X9_wordOf_9, q_X9_wordOf_10, q_X9_wordOf_11, q_X9_wordOf_14, q_X9_wordOf_15, q_X9_wordOf_16, q_X9_wordOf_18, q_X9_wordOf_21, q_X9_wordOf_24, q_X9_wordOf_25, q_X9_wordOf_27, q_X9_wordOf_28, q_X9_wordOf_29, q_X9_wordOf_32, q_X9_wordOf_34, q_X9_wordOf_35, q_X9_wordOf_38, q_X9_wordOf_41, q_X9_wordOf_44, q_X9_wordOf_46, nI_add, pI_le, pI_lt, pI_eq, pI_neg, pI_nn, pI_le0, pI_gt0, pI_eq0, xbV_s, xbU_s, if_true, if_false, bI_eq0, h1, h4 k (by omega), e, q, Bool.true_eq_false]
        exact this
      · rw [pDiff_old w q] at this
        have q' : pFree w (w k) k = false := by simpa using q
        simp (disch := omega) only [q_X9_wordOf_0, q_X9_wordOf_1, q_X9_wordOf_3, q_X9_wordOf_4, q_X9_wordOf_8, q_X9_wordOf_9, q_X9_wordOf_10, q_X9_wordOf_11, q_X9_wordOf_14, q_X9_wordOf_15, q_X9_wordOf_16, q_X9_wordOf_18, q_X9_wordOf_21, q_X9_wordOf_24, q_X9_wordOf_25, q_X9_wordOf_27, q_X9_wordOf_28, q_X9_wordOf_29, q_X9_wordOf_32, q_X9_wordOf_34, q_X9_wordOf_35, q_X9_wordOf_38, q_X9_wordOf_41, q_X9_wordOf_44, q_X9_wordOf_46, nI_add, pI_le, pI_lt, pI_eq, pI_neg, pI_nn, pI_le0, pI_gt0, pI_eq0, xbV_s, xbU_s, if_true, if_false, bI_eq0, q']
        exact this
theorem s9_word {m a n x : Nat} {w : Nat → Nat} {I : xMem} (h : mW I m a n w) (hx : x < 2147483648) : f_X9_wordOf [.ref m, .int (nI a), .int (nI n), .int (nI x)] I = some (.inl (some (.int (nI (pWord w x n)))), I) := by
  have := h.2.1
  have := h.2.2.1
  rw [e_X9_wordOf]
  simp only [q_X9_wordOf_0, q_X9_wordOf_1, q_X9_wordOf_3, q_X9_wordOf_4, q_X9_wordOf_8, q_X9_wordOf_9, q_X9_wordOf_10, q_X9_wordOf_11, q_X9_wordOf_14, q_X9_wordOf_15, q_X9_wordOf_16, q_X9_wordOf_18, q_X9_wordOf_21, q_X9_wordOf_24, q_X9_wordOf_25, q_X9_wordOf_27, q_X9_wordOf_28, q_X9_wordOf_29, q_X9_wordOf_32, q_X9_wordOf_34, q_X9_wordOf_35, q_X9_wordOf_38, q_X9_wordOf_41, q_X9_wordOf_44, q_X9_wordOf_46, nI_add]
  exact s9_word_l h hx n 0 (by omega) rfl
theorem xsel_n {j lo : Nat} {t d : Nat} {ts : List Nat} (hj : j < 2147483648) : xsel (nI j) lo (t :: ts) d = if j = lo then t else xsel (nI j) (lo + 1 : Nat) ts d := by
  show (if (nI j).toInt = (lo : Int) then t else xsel (nI j) ((lo : Int) + 1) ts d) = _
  rw [nI_toInt hj]
  by_cases h : j = lo
  · rw [if_pos h, if_pos (by omega)]
  · rw [if_neg h, if_neg (by omega)]
    rfl
theorem s9_sizeBy {m a n c : Nat} {w : Nat → Nat} {I : xMem} (h : mW I m a n w) (h0 : 0 < n) (hn : n ≤ 12) (hc : c ≤ 4) : f_X9_sizeBy [.ref m, .int (nI a), .int (nI n), .int (nI c)] I = some (.inl (some (.int (nI (pSize w n c)))), I) := by
  have h2 := h.2.1
  have h3 := h.2.2.1
  have d1 := pDiff_le w n
  have d2 := pDiff_pos w h0
  have m1 := pMn_pMx w h0
  have m2 : pMx w n ≤ 1023 := pMx_le h.2.2.2.2
  have e1 : nI (pDiff w n) - nI 1 = nI (pDiff w n - 1) := pI_sub (by omega)
  have e2 : nI (pMx w n) - nI (pMn w n) = nI (pMx w n - pMn w n) := pI_sub m1
  have e3 : nI n - nI 1 = nI (n - 1) := pI_sub (by omega)
  rw [e_X9_sizeBy]
  rcases (show c = 0 ∨ c = 1 ∨ c = 2 ∨ c = 3 ∨ c = 4 by omega) with rfl | rfl | rfl | rfl | rfl
  · have hx9 : xsel (nI 0) 0 [32, 40, 67, 80] 102 = 32 := rfl
    simp (disch := omega) only [q_X9_sizeBy_0, q_X9_sizeBy_1, q_X9_sizeBy_32, q_X9_sizeBy_34, q_X9_sizeBy_36, q_X9_sizeBy_37, q_X9_sizeBy_38, q_X9_sizeBy_39, q_X9_sizeBy_40, q_X9_sizeBy_41, q_X9_sizeBy_42, q_X9_sizeBy_43, q_X9_sizeBy_46, q_X9_sizeBy_48, q_X9_sizeBy_50, q_X9_sizeBy_52, q_X9_sizeBy_54, q_X9_sizeBy_55, q_X9_sizeBy_56, q_X9_sizeBy_57, q_X9_sizeBy_59, q_X9_sizeBy_60, q_X9_sizeBy_61, q_X9_sizeBy_64, q_X9_sizeBy_65, q_X9_sizeBy_66, q_X9_sizeBy_67, q_X9_sizeBy_69, q_X9_sizeBy_71, q_X9_sizeBy_72, q_X9_sizeBy_73, q_X9_sizeBy_74, q_X9_sizeBy_77, q_X9_sizeBy_78, q_X9_sizeBy_79, q_X9_sizeBy_80, q_X9_sizeBy_82, q_X9_sizeBy_83, q_X9_sizeBy_84, q_X9_sizeBy_85, q_X9_sizeBy_86, q_X9_sizeBy_89, q_X9_sizeBy_90, q_X9_sizeBy_91, q_X9_sizeBy_92, q_X9_sizeBy_95, q_X9_sizeBy_96, q_X9_sizeBy_99, q_X9_sizeBy_100, q_X9_sizeBy_101, q_X9_sizeBy_102, q_X9_sizeBy_104, q_X9_sizeBy_105, q_X9_sizeBy_106, q_X9_sizeBy_107, q_X9_sizeBy_108, q_X9_sizeBy_109, q_X9_sizeBy_110, q_X9_sizeBy_113, q_X9_sizeBy_114, q_X9_sizeBy_115, hx9, nI_add, pI_le, pI_lt, pI_eq, pI_neg, pI_nn, pI_le0, pI_gt0, pI_eq0, xbV_s, xbU_s, if_true, if_false, bI_eq0, pk_mul]
    rfl
  · have hx9 : xsel (nI 1) 0 [32, 40, 67, 80] 102 = 40 := rfl
    simp (disch := omega) only [q_X9_sizeBy_0, q_X9_sizeBy_1, q_X9_sizeBy_32, q_X9_sizeBy_34, q_X9_sizeBy_36, q_X9_sizeBy_37, q_X9_sizeBy_38, q_X9_sizeBy_39, q_X9_sizeBy_40, q_X9_sizeBy_41, q_X9_sizeBy_42, q_X9_sizeBy_43, q_X9_sizeBy_46, q_X9_sizeBy_48, q_X9_sizeBy_50, q_X9_sizeBy_52, q_X9_sizeBy_54, q_X9_sizeBy_55, q_X9_sizeBy_56, q_X9_sizeBy_57, q_X9_sizeBy_59, q_X9_sizeBy_60, q_X9_sizeBy_61, q_X9_sizeBy_64, q_X9_sizeBy_65, q_X9_sizeBy_66, q_X9_sizeBy_67, q_X9_sizeBy_69, q_X9_sizeBy_71, q_X9_sizeBy_72, q_X9_sizeBy_73, q_X9_sizeBy_74, q_X9_sizeBy_77, q_X9_sizeBy_78, q_X9_sizeBy_79, q_X9_sizeBy_80, q_X9_sizeBy_82, q_X9_sizeBy_83, q_X9_sizeBy_84, q_X9_sizeBy_85, q_X9_sizeBy_86, q_X9_sizeBy_89, q_X9_sizeBy_90, q_X9_sizeBy_91, q_X9_sizeBy_92, q_X9_sizeBy_95, q_X9_sizeBy_96, q_X9_sizeBy_99, q_X9_sizeBy_100, q_X9_sizeBy_101, q_X9_sizeBy_102, q_X9_sizeBy_104, q_X9_sizeBy_105, q_X9_sizeBy_106, q_X9_sizeBy_107, q_X9_sizeBy_108, q_X9_sizeBy_109, q_X9_sizeBy_110, q_X9_sizeBy_113, q_X9_sizeBy_114, q_X9_sizeBy_115, hx9, nI_add, pI_le, pI_lt, pI_eq, pI_neg, pI_nn, pI_le0, pI_gt0, pI_eq0, xbV_s, xbU_s, if_true, if_false, bI_eq0, pk_mul, s9_diff h, s9_width, e1]
    rfl
  · have hx9 : xsel (nI 2) 0 [32, 40, 67, 80] 102 = 67 := rfl
    simp (disch := omega) only [q_X9_sizeBy_0, q_X9_sizeBy_1, q_X9_sizeBy_32, q_X9_sizeBy_34, q_X9_sizeBy_36, q_X9_sizeBy_37, q_X9_sizeBy_38, q_X9_sizeBy_39, q_X9_sizeBy_40, q_X9_sizeBy_41, q_X9_sizeBy_42, q_X9_sizeBy_43, q_X9_sizeBy_46, q_X9_sizeBy_48, q_X9_sizeBy_50, q_X9_sizeBy_52, q_X9_sizeBy_54, q_X9_sizeBy_55, q_X9_sizeBy_56, q_X9_sizeBy_57, q_X9_sizeBy_59, q_X9_sizeBy_60, q_X9_sizeBy_61, q_X9_sizeBy_64, q_X9_sizeBy_65, q_X9_sizeBy_66, q_X9_sizeBy_67, q_X9_sizeBy_69, q_X9_sizeBy_71, q_X9_sizeBy_72, q_X9_sizeBy_73, q_X9_sizeBy_74, q_X9_sizeBy_77, q_X9_sizeBy_78, q_X9_sizeBy_79, q_X9_sizeBy_80, q_X9_sizeBy_82, q_X9_sizeBy_83, q_X9_sizeBy_84, q_X9_sizeBy_85, q_X9_sizeBy_86, q_X9_sizeBy_89, q_X9_sizeBy_90, q_X9_sizeBy_91, q_X9_sizeBy_92, q_X9_sizeBy_95, q_X9_sizeBy_96, q_X9_sizeBy_99, q_X9_sizeBy_100, q_X9_sizeBy_101, q_X9_sizeBy_102, q_X9_sizeBy_104, q_X9_sizeBy_105, q_X9_sizeBy_106, q_X9_sizeBy_107, q_X9_sizeBy_108, q_X9_sizeBy_109, q_X9_sizeBy_110, q_X9_sizeBy_113, q_X9_sizeBy_114, q_X9_sizeBy_115, hx9, nI_add, pI_le, pI_lt, pI_eq, pI_neg, pI_nn, pI_le0, pI_gt0, pI_eq0, xbV_s, xbU_s, if_true, if_false, bI_eq0, pk_mul, s9_runs h h0]
    rfl
  · have hx9 : xsel (nI 3) 0 [32, 40, 67, 80] 102 = 80 := rfl
    simp (disch := omega) only [q_X9_sizeBy_0, q_X9_sizeBy_1, q_X9_sizeBy_32, q_X9_sizeBy_34, q_X9_sizeBy_36, q_X9_sizeBy_37, q_X9_sizeBy_38, q_X9_sizeBy_39, q_X9_sizeBy_40, q_X9_sizeBy_41, q_X9_sizeBy_42, q_X9_sizeBy_43, q_X9_sizeBy_46, q_X9_sizeBy_48, q_X9_sizeBy_50, q_X9_sizeBy_52, q_X9_sizeBy_54, q_X9_sizeBy_55, q_X9_sizeBy_56, q_X9_sizeBy_57, q_X9_sizeBy_59, q_X9_sizeBy_60, q_X9_sizeBy_61, q_X9_sizeBy_64, q_X9_sizeBy_65, q_X9_sizeBy_66, q_X9_sizeBy_67, q_X9_sizeBy_69, q_X9_sizeBy_71, q_X9_sizeBy_72, q_X9_sizeBy_73, q_X9_sizeBy_74, q_X9_sizeBy_77, q_X9_sizeBy_78, q_X9_sizeBy_79, q_X9_sizeBy_80, q_X9_sizeBy_82, q_X9_sizeBy_83, q_X9_sizeBy_84, q_X9_sizeBy_85, q_X9_sizeBy_86, q_X9_sizeBy_89, q_X9_sizeBy_90, q_X9_sizeBy_91, q_X9_sizeBy_92, q_X9_sizeBy_95, q_X9_sizeBy_96, q_X9_sizeBy_99, q_X9_sizeBy_100, q_X9_sizeBy_101, q_X9_sizeBy_102, q_X9_sizeBy_104, q_X9_sizeBy_105, q_X9_sizeBy_106, q_X9_sizeBy_107, q_X9_sizeBy_108, q_X9_sizeBy_109, q_X9_sizeBy_110, q_X9_sizeBy_113, q_X9_sizeBy_114, q_X9_sizeBy_115, hx9, nI_add, pI_le, pI_lt, pI_eq, pI_neg, pI_nn, pI_le0, pI_gt0, pI_eq0, xbV_s, xbU_s, if_true, if_false, bI_eq0, pk_mul, s9_greatest h, s9_smallest h, s9_width, e2]
    rfl
  · have hx9 : xsel (nI 4) 0 [32, 40, 67, 80] 102 = 102 := rfl
    simp (disch := omega) only [q_X9_sizeBy_0, q_X9_sizeBy_1, q_X9_sizeBy_32, q_X9_sizeBy_34, q_X9_sizeBy_36, q_X9_sizeBy_37, q_X9_sizeBy_38, q_X9_sizeBy_39, q_X9_sizeBy_40, q_X9_sizeBy_41, q_X9_sizeBy_42, q_X9_sizeBy_43, q_X9_sizeBy_46, q_X9_sizeBy_48, q_X9_sizeBy_50, q_X9_sizeBy_52, q_X9_sizeBy_54, q_X9_sizeBy_55, q_X9_sizeBy_56, q_X9_sizeBy_57, q_X9_sizeBy_59, q_X9_sizeBy_60, q_X9_sizeBy_61, q_X9_sizeBy_64, q_X9_sizeBy_65, q_X9_sizeBy_66, q_X9_sizeBy_67, q_X9_sizeBy_69, q_X9_sizeBy_71, q_X9_sizeBy_72, q_X9_sizeBy_73, q_X9_sizeBy_74, q_X9_sizeBy_77, q_X9_sizeBy_78, q_X9_sizeBy_79, q_X9_sizeBy_80, q_X9_sizeBy_82, q_X9_sizeBy_83, q_X9_sizeBy_84, q_X9_sizeBy_85, q_X9_sizeBy_86, q_X9_sizeBy_89, q_X9_sizeBy_90, q_X9_sizeBy_91, q_X9_sizeBy_92, q_X9_sizeBy_95, q_X9_sizeBy_96, q_X9_sizeBy_99, q_X9_sizeBy_100, q_X9_sizeBy_101, q_X9_sizeBy_102, q_X9_sizeBy_104, q_X9_sizeBy_105, q_X9_sizeBy_106, q_X9_sizeBy_107, q_X9_sizeBy_108, q_X9_sizeBy_109, q_X9_sizeBy_110, q_X9_sizeBy_113, q_X9_sizeBy_114, q_X9_sizeBy_115, hx9, nI_add, pI_le, pI_lt, pI_eq, pI_neg, pI_nn, pI_le0, pI_gt0, pI_eq0, xbV_s, xbU_s, if_true, if_false, bI_eq0, pk_mul, s9_step h h0, e3]
    rfl
theorem s9_best_l {m a n : Nat} {w : Nat → Nat} {I : xMem} (h : mW I m a n w) (h0 : 0 < n) (hn : n ≤ 12) : ∀ d c, c + d = 4 → xgo k_X9_bestCoding 5 [some (.ref m), some (.int (nI a)), some (.int (nI n)), some (.int (nI (pBst w n c))), some (.int (nI (c + 1)))] [] I = some (.inl (some (.int (nI (pBest w n)))), I) := by
  have hs := pSize_le hn h.2.2.2.2
  intro d
  induction d with
  | zero =>
    intro c hc
    have e : c = 4 := by omega
    subst e
    rw [q_X9_bestCoding_5]
    simp (disch := omega) only [q_X9_bestCoding_0, q_X9_bestCoding_1, q_X9_bestCoding_2, q_X9_bestCoding_3, q_X9_bestCoding_7, q_X9_bestCoding_8, q_X9_bestCoding_11, q_X9_bestCoding_12, q_X9_bestCoding_13, q_X9_bestCoding_14, q_X9_bestCoding_16, q_X9_bestCoding_19, q_X9_bestCoding_20, q_X9_bestCoding_21, q_X9_bestCoding_22, q_X9_bestCoding_23, q_X9_bestCoding_26, q_X9_bestCoding_29, q_X9_bestCoding_31, q_X9_bestCoding_34, q_X9_bestCoding_35, q_X9_bestCoding_36, q_X9_bestCoding_39, q_X9_bestCoding_42, q_X9_bestCoding_43, nI_add, pI_le, pI_lt, pI_eq, pI_neg, pI_nn, pI_le0, pI_gt0, pI_eq0, xbV_s, xbU_s, if_true, if_false, bI_eq0, (by decide : 5 ≤ 4 + 1)]
    rfl
  | succ d ih =>
    intro c hc
    have hb := pBst_le w n c
    have hs1 := hs (pBst w n c)
    have hs2 := hs (c + 1)
    have hn9 : ¬ 5 ≤ c + 1 := by omega
    rw [q_X9_bestCoding_5]
    simp (disch := omega) only [q_X9_bestCoding_0, q_X9_bestCoding_1, q_X9_bestCoding_2, q_X9_bestCoding_3, q_X9_bestCoding_7, q_X9_bestCoding_8, q_X9_bestCoding_11, q_X9_bestCoding_12, q_X9_bestCoding_13, q_X9_bestCoding_14, q_X9_bestCoding_16, q_X9_bestCoding_19, q_X9_bestCoding_20, q_X9_bestCoding_21, q_X9_bestCoding_22, q_X9_bestCoding_23, q_X9_bestCoding_26, q_X9_bestCoding_29, q_X9_bestCoding_31, q_X9_bestCoding_34, q_X9_bestCoding_35, q_X9_bestCoding_36, q_X9_bestCoding_39, q_X9_bestCoding_42, q_X9_bestCoding_43, nI_add, pI_le, pI_lt, pI_eq, pI_neg, pI_nn, pI_le0, pI_gt0, pI_eq0, xbV_s, xbU_s, if_true, if_false, bI_eq0, s9_sizeBy h h0 hn, hn9]
    have := ih (c + 1) (by omega)
    rw [pBst_s] at this
    by_cases q : pSize w n (pBst w n c) ≤ pSize w n (c + 1)
    · rw [if_neg (by omega)] at this
      simp (disch := omega) only [q_X9_bestCoding_0, q_X9_bestCoding_1, q_X9_bestCoding_2, q_X9_bestCoding_3, q_X9_bestCoding_7, q_X9_bestCoding_8, q_X9_bestCoding_11, q_X9_bestCoding_12, q_X9_bestCoding_13, q_X9_bestCoding_14, q_X9_bestCoding_16, q_X9_bestCoding_19, q_X9_bestCoding_20, q_X9_bestCoding_21, q_X9_bestCoding_22, q_X9_bestCoding_23, q_X9_bestCoding_26, q_X9_bestCoding_29, q_X9_bestCoding_31, q_X9_bestCoding_34, q_X9_bestCoding_35, q_X9_bestCoding_36, q_X9_bestCoding_39, q_X9_bestCoding_42, q_X9_bestCoding_43, nI_add, pI_le, pI_lt, pI_eq, pI_neg, pI_nn, pI_le0, pI_gt0, pI_eq0, xbV_s, xbU_s, if_true, if_false, bI_eq0, q]
      exact this
    · rw [if_pos (by omega)] at this
      simp (disch := omega) only [q_X9_bestCoding_0, q_X9_bestCoding_1, q_X9_bestCoding_2, q_X9_bestCoding_3, q_X9_bestCoding_7, q_X9_bestCoding_8, q_X9_bestCoding_11, q_X9_bestCoding_12, q_X9_bestCoding_13, q_X9_bestCoding_14, q_X9_bestCoding_16, q_X9_bestCoding_19, q_X9_bestCoding_20, q_X9_bestCoding_21, q_X9_bestCoding_22, q_X9_bestCoding_23, q_X9_bestCoding_26, q_X9_bestCoding_29, q_X9_bestCoding_31, q_X9_bestCoding_34, q_X9_bestCoding_35, q_X9_bestCoding_36, q_X9_bestCoding_39, q_X9_bestCoding_42, q_X9_bestCoding_43, nI_add, pI_le, pI_lt, pI_eq, pI_neg, pI_nn, pI_le0, pI_gt0, pI_eq0, xbV_s, xbU_s, if_true, if_false, bI_eq0, q]
      exact this
theorem s9_best {m a n : Nat} {w : Nat → Nat} {I : xMem} (h : mW I m a n w) (h0 : 0 < n) (hn : n ≤ 12) : f_X9_bestCoding [.ref m, .int (nI a), .int (nI n)] I = some (.inl (some (.int (nI (pBest w n)))), I) := by
  rw [e_X9_bestCoding]
  simp only [q_X9_bestCoding_0, q_X9_bestCoding_1, q_X9_bestCoding_2, q_X9_bestCoding_3, q_X9_bestCoding_7, q_X9_bestCoding_8, q_X9_bestCoding_11, q_X9_bestCoding_12, q_X9_bestCoding_13, q_X9_bestCoding_14, q_X9_bestCoding_16, q_X9_bestCoding_19, q_X9_bestCoding_20, q_X9_bestCoding_21, q_X9_bestCoding_22, q_X9_bestCoding_23, q_X9_bestCoding_26, q_X9_bestCoding_29, q_X9_bestCoding_31, q_X9_bestCoding_34, q_X9_bestCoding_35, q_X9_bestCoding_36, q_X9_bestCoding_39, q_X9_bestCoding_42, q_X9_bestCoding_43]
  exact s9_best_l h h0 hn 4 0 rfl
theorem s9_pinned {m a n pin : Nat} {w : Nat → Nat} {I : xMem} (h : mW I m a n w) (h0 : 0 < n) (hn : n ≤ 12) (hp : pin ≤ 5) : f_X9_pinnedSize [.ref m, .int (nI a), .int (nI n), .int (nI pin)] I = some (.inl (some (.int (nI (pPin w n pin)))), I) := by
  have hb := pBest_le w n
  rw [e_X9_pinnedSize]
  unfold pPin pCod
  by_cases q : pin = 0
  · subst q
    simp (disch := omega) only [q_X9_pinnedSize_0, q_X9_pinnedSize_1, q_X9_pinnedSize_2, q_X9_pinnedSize_3, q_X9_pinnedSize_4, q_X9_pinnedSize_7, q_X9_pinnedSize_8, q_X9_pinnedSize_9, q_X9_pinnedSize_10, q_X9_pinnedSize_13, q_X9_pinnedSize_16, q_X9_pinnedSize_17, q_X9_pinnedSize_18, q_X9_pinnedSize_19, q_X9_pinnedSize_22, nI_add, pI_le, pI_lt, pI_eq, pI_neg, pI_nn, pI_le0, pI_gt0, pI_eq0, xbV_s, xbU_s, if_true, if_false, bI_eq0, s9_best h h0 hn, s9_sizeBy h h0 hn]
  · have e3 : nI pin - nI 1 = nI (pin - 1) := pI_sub (by omega)
    rw [if_neg q]
    simp (disch := omega) only [q_X9_pinnedSize_0, q_X9_pinnedSize_1, q_X9_pinnedSize_2, q_X9_pinnedSize_3, q_X9_pinnedSize_4, q_X9_pinnedSize_7, q_X9_pinnedSize_8, q_X9_pinnedSize_9, q_X9_pinnedSize_10, q_X9_pinnedSize_13, q_X9_pinnedSize_16, q_X9_pinnedSize_17, q_X9_pinnedSize_18, q_X9_pinnedSize_19, q_X9_pinnedSize_22, nI_add, pI_le, pI_lt, pI_eq, pI_neg, pI_nn, pI_le0, pI_gt0, pI_eq0, xbV_s, xbU_s, if_true, if_false, bI_eq0, q, e3, s9_sizeBy h h0 hn]
end P22
