/-! ===== the class: a column, what changes it ===== -/
section P30
section PE
variable {I : xMem}
theorem s5_ins_l {r n k : Nat} {x : Int32} (hr : xRow r n) (hk : k < n) (hn : n < 1000) : ∀ d t (I1 : xMem), t + 1 = k + 1 + d → t < n → zG (r + 1) 1 I I1 → (∀ j, j < n → I1 (r + 1) j = if j ≤ t then I (r + 1) j else I (r + 1) (j - 1)) → ∃ I', xgo k_X5_insertAt 8 [some (.ref r), some (.int (nI k)), some (.int x), some (.int (nI t))] [] I1 = some (.inl none, I') ∧ zG (r + 1) 1 I I' ∧ (∀ j, j < n → I' (r + 1) j = if j < k then I (r + 1) j else if j = k then x else I (r + 1) (j - 1)) := by
  have k1 := hr.1
  intro d
  induction d with
  | zero =>
    intro t I1 ht htn hG hj
    have e : t = k := by omega
    subst e
    refine ⟨xup I1 (r + 1) t x, ?_, hG.up (by omega) (by omega), fun j hj' => ?_⟩
    · rw [q_X5_insertAt_8]
      simp (disch := omega) only [q_X5_insertAt_0, q_X5_insertAt_1, q_X5_insertAt_4, q_X5_insertAt_5, q_X5_insertAt_6, q_X5_insertAt_7, q_X5_insertAt_9, q_X5_insertAt_10, q_X5_insertAt_13, q_X5_insertAt_14, q_X5_insertAt_15, q_X5_insertAt_16, q_X5_insertAt_17, q_X5_insertAt_18, q_X5_insertAt_19, q_X5_insertAt_22, q_X5_insertAt_25, q_X5_insertAt_28, q_X5_insertAt_31, q_X5_insertAt_32, q_X5_insertAt_33, q_X5_insertAt_34, q_X5_insertAt_37, nI_add, pI_le, pI_lt, pI_eq, pI_neg, pI_nn, pI_le0, pI_gt0, pI_eq0, xbV_s, xbU_s, if_true, if_false, bI_eq0, Nat.reduceAdd, Nat.reduceSub, Nat.reduceEqDiff, Nat.reduceLeDiff, Nat.reduceLT, Bool.true_eq_false, Bool.false_eq_true, Nat.le_refl, s_set hr]
    · by_cases e : j = t
      · subst e; rw [xup_s, if_neg (by omega), if_pos rfl]
      · rw [xup_d e, hj j hj']
        by_cases e2 : j < t
        · rw [if_pos (by omega), if_pos e2]
        · rw [if_neg (by omega), if_neg e2, if_neg e]
  | succ d ih =>
    intro t I1 ht htn hG hj
    have n1 : ¬ t ≤ k := by omega
    have e1 : nI t - nI 1 = nI (t - 1) := pI_sub (by omega)
    have e2 : nI t + -1 = nI (t - 1) := by
      rw [← e1]
      have := Int32.sub_eq_add_neg (nI t) (nI 1)
      rw [this]
      rfl
    have g := hj (t - 1) (by omega)
    rw [if_pos (by omega)] at g
    obtain ⟨I', h1, h2, h3⟩ := ih (t - 1) (xup I1 (r + 1) t (I (r + 1) (t - 1))) (by omega) (by omega) (hG.up (by omega) (by omega)) (fun j hj' => by
      by_cases e : j = t
      · subst e; rw [xup_s, if_neg (by omega)]
      · rw [xup_d e, hj j hj']
        by_cases e2 : j ≤ t
        · rw [if_pos e2, if_pos (by omega)]
        · rw [if_neg e2, if_neg (by omega)])
    refine ⟨I', ?_, h2, h3⟩
    rw [q_X5_insertAt_8]
    simp (disch := omega) only [q_X5_insertAt_0, q_X5_insertAt_1, q_X5_insertAt_4, q_X5_insertAt_5, q_X5_insertAt_6, q_X5_insertAt_7, q_X5_insertAt_9, q_X5_insertAt_10, q_X5_insertAt_13, q_X5_insertAt_14, q_X5_insertAt_15, q_X5_insertAt_16, q_X5_insertAt_17, q_X5_insertAt_18, q_X5_insertAt_19, q_X5_insertAt_22, q_X5_insertAt_25, q_X5_insertAt_28, q_X5_insertAt_31, q_X5_insertAt_32, q_X5_insertAt_33, q_X5_insertAt_34, q_X5_insertAt_37, nI_add, pI_le, pI_lt, pI_eq, pI_neg, pI_nn, pI_le0, pI_gt0, pI_eq0, xbV_s, xbU_s, if_true, if_false, bI_eq0, Nat.reduceAdd, Nat.reduceSub, Nat.reduceEqDiff, Nat.reduceLeDiff, Nat.reduceLT, Bool.true_eq_false, Bool.false_eq_true, n1, e1, e2, s_get hr, g, s_set hr]
    exact h1
theorem s5_ins {r n k : Nat} {x : Int32} (hr : xRow r n) (hk : k < n) (hn : n < 1000) : ∃ I', f_X5_insertAt [.ref r, .int (nI k), .int x] I = some (.inl none, I') ∧ zG (r + 1) 1 I I' ∧ (∀ j, j < n → I' (r + 1) j = if j < k then I (r + 1) j else if j = k then x else I (r + 1) (j - 1)) := by
  obtain ⟨k1, k2, k3, k4, k5⟩ := hr
  have e1 : nI n - nI 1 = nI (n - 1) := pI_sub (by omega)
  obtain ⟨I', h1, h2, h3⟩ := s5_ins_l (I := I) (r := r) (n := n) (k := k) (x := x) ⟨k1, k2, k3, k4, k5⟩ hk hn (n - 1 - k) (n - 1) I (by omega) (by omega) zG.rf (fun j hj => by rw [if_pos (by omega)])
  refine ⟨I', ?_, h2, h3⟩
  rw [e_X5_insertAt]
  simp (disch := omega) only [q_X5_insertAt_0, q_X5_insertAt_1, q_X5_insertAt_4, q_X5_insertAt_5, q_X5_insertAt_6, q_X5_insertAt_7, nI_add, pI_le, pI_lt, pI_eq, pI_neg, pI_nn, pI_le0, pI_gt0, pI_eq0, xbV_s, xbU_s, if_true, if_false, bI_eq0, Nat.reduceAdd, Nat.reduceSub, Nat.reduceEqDiff, Nat.reduceLeDiff, Nat.reduceLT, Bool.true_eq_false, Bool.false_eq_true, k1, k2, k3, k4, e1]
  exact h1
theorem s5_rem_l {r n k : Nat} (hr : xRow r n) (hn : n < 1000) : ∀ d t (I1 : xMem), t + d = n → k + 1 ≤ t → zG (r + 1) 1 I I1 → (∀ j, j < n → I1 (r + 1) j = if k ≤ j ∧ j + 1 < t then I (r + 1) (j + 1) else I (r + 1) j) → ∃ I', xgo k_X5_removeAt 4 [some (.ref r), some (.int (nI k)), some (.int (nI t))] [] I1 = some (.inl none, I') ∧ zG (r + 1) 1 I I' ∧ (∀ j, j + 1 < n → I' (r + 1) j = if j < k then I (r + 1) j else I (r + 1) (j + 1)) := by
  have hr0 := hr
  obtain ⟨k1, k2, k3, k4, k5⟩ := hr
  intro d
  induction d with
  | zero =>
    intro t I1 ht hkt hG hj
    have e : t = n := by omega
    subst e
    refine ⟨I1, ?_, hG, fun j hj' => ?_⟩
    · rw [q_X5_removeAt_4]
      simp (disch := omega) only [q_X5_removeAt_0, q_X5_removeAt_1, q_X5_removeAt_2, q_X5_removeAt_3, q_X5_removeAt_5, q_X5_removeAt_6, q_X5_removeAt_9, q_X5_removeAt_10, q_X5_removeAt_13, q_X5_removeAt_14, q_X5_removeAt_15, q_X5_removeAt_16, q_X5_removeAt_17, q_X5_removeAt_18, q_X5_removeAt_19, q_X5_removeAt_22, q_X5_removeAt_25, q_X5_removeAt_28, q_X5_removeAt_31, nI_add, pI_le, pI_lt, pI_eq, pI_neg, pI_nn, pI_le0, pI_gt0, pI_eq0, xbV_s, xbU_s, if_true, if_false, bI_eq0, Nat.reduceAdd, Nat.reduceSub, Nat.reduceEqDiff, Nat.reduceLeDiff, Nat.reduceLT, Bool.true_eq_false, Bool.false_eq_true, k1, k2, k3, k4, Nat.le_refl]
    · rw [hj j (by omega)]
      by_cases e : j < k
      · rw [if_neg (by omega), if_pos e]
      · rw [if_pos (by omega), if_neg e]
  | succ d ih =>
    intro t I1 ht hkt hG hj
    have n1 : ¬ n ≤ t := by omega
    have e1 : nI t - nI 1 = nI (t - 1) := pI_sub (by omega)
    have g := hj t (by omega)
    rw [if_neg (by omega)] at g
    obtain ⟨I', h1, h2, h3⟩ := ih (t + 1) (xup I1 (r + 1) (t - 1) (I (r + 1) t)) (by omega) (by omega) (hG.up (by omega) (by omega)) (fun j hj' => by
      by_cases e : j = t - 1
      · subst e
        rw [xup_s, if_pos (by omega), show t - 1 + 1 = t by omega]
      · rw [xup_d e, hj j hj']
        by_cases e2 : k ≤ j ∧ j + 1 < t
        · rw [if_pos e2, if_pos (by omega)]
        · rw [if_neg e2, if_neg (by omega)])
    refine ⟨I', ?_, h2, h3⟩
    rw [q_X5_removeAt_4]
    simp (disch := omega) only [q_X5_removeAt_0, q_X5_removeAt_1, q_X5_removeAt_2, q_X5_removeAt_3, q_X5_removeAt_5, q_X5_removeAt_6, q_X5_removeAt_9, q_X5_removeAt_10, q_X5_removeAt_13, q_X5_removeAt_14, q_X5_removeAt_15, q_X5_removeAt_16, q_X5_removeAt_17, q_X5_removeAt_18, q_X5_removeAt_19, q_X5_removeAt_22, q_X5_removeAt_25, q_X5_removeAt_28, q_X5_removeAt_31, nI_add, pI_le, pI_lt, pI_eq, pI_neg, pI_nn, pI_le0, pI_gt0, pI_eq0, xbV_s, xbU_s, if_true, if_false, bI_eq0, Nat.reduceAdd, Nat.reduceSub, Nat.reduceEqDiff, Nat.reduceLeDiff, Nat.reduceLT, Bool.true_eq_false, Bool.false_eq_true, k1, k2, k3, k4, n1, e1, s_get hr0, g, s_set hr0]
    exact h1
theorem s5_rem {r n k : Nat} (hr : xRow r n) (hk : k < n) (hn : n < 1000) : ∃ I', f_X5_removeAt [.ref r, .int (nI k)] I = some (.inl none, I') ∧ zG (r + 1) 1 I I' ∧ (∀ j, j + 1 < n → I' (r + 1) j = if j < k then I (r + 1) j else I (r + 1) (j + 1)) := by
  obtain ⟨I', h1, h2, h3⟩ := s5_rem_l (I := I) (k := k) hr hn (n - (k + 1)) (k + 1) I (by omega) (Nat.le_refl _) zG.rf (fun j hj => by rw [if_neg (by omega)])
  refine ⟨I', ?_, h2, h3⟩
  rw [e_X5_removeAt]
  simp (disch := omega) only [q_X5_removeAt_0, q_X5_removeAt_1, q_X5_removeAt_2, q_X5_removeAt_3, nI_add, pI_le, pI_lt, pI_eq, pI_neg, pI_nn, pI_le0, pI_gt0, pI_eq0, xbV_s, xbU_s, if_true, if_false, bI_eq0, Nat.reduceAdd, Nat.reduceSub, Nat.reduceEqDiff, Nat.reduceLeDiff, Nat.reduceLT, Bool.true_eq_false, Bool.false_eq_true]
  exact h1
theorem s5_cpy_l {r b n : Nat} (hr : xRow r n) (hb : xRow b n) (hn : n < 1000) (hrb : r ≠ b) : ∀ d t (I1 : xMem), t + d = n → zG (r + 1) 1 I I1 → (∀ j, j < t → I1 (r + 1) j = I (b + 1) j) → ∃ I', xgo k_X5_copyFrom 2 [some (.ref r), some (.ref b), some (.int (nI t))] [] I1 = some (.inl none, I') ∧ zG (r + 1) 1 I I' ∧ (∀ j, j < n → I' (r + 1) j = I (b + 1) j) := by
  obtain ⟨k1, k2, k3, k4, k5⟩ := hr
  have kb := hb.1
  intro d
  induction d with
  | zero =>
    intro t I1 ht hG hj
    have e : t = n := by omega
    subst e
    refine ⟨I1, ?_, hG, hj⟩
    rw [q_X5_copyFrom_2]
    simp (disch := omega) only [q_X5_copyFrom_0, q_X5_copyFrom_1, q_X5_copyFrom_3, q_X5_copyFrom_4, q_X5_copyFrom_7, q_X5_copyFrom_8, q_X5_copyFrom_11, q_X5_copyFrom_12, q_X5_copyFrom_15, q_X5_copyFrom_16, q_X5_copyFrom_17, q_X5_copyFrom_18, q_X5_copyFrom_21, q_X5_copyFrom_22, q_X5_copyFrom_25, q_X5_copyFrom_28, nI_add, pI_le, pI_lt, pI_eq, pI_neg, pI_nn, pI_le0, pI_gt0, pI_eq0, xbV_s, xbU_s, if_true, if_false, bI_eq0, Nat.reduceAdd, Nat.reduceSub, Nat.reduceEqDiff, Nat.reduceLeDiff, Nat.reduceLT, Bool.true_eq_false, Bool.false_eq_true, k1, k2, k3, k4, Nat.le_refl]
  | succ d ih =>
    intro t I1 ht hG hj
    have n1 : ¬ n ≤ t := by omega
    have e1 : I1 (b + 1) = I (b + 1) := hG _ (by omega)
    obtain ⟨I', h1, h2, h3⟩ := ih (t + 1) (xup I1 (r + 1) t (I (b + 1) t)) (by omega) (hG.up (by omega) (by omega)) (fun j hj' => by
      by_cases e : j = t
      · subst e; rw [xup_s]
      · rw [xup_d e]; exact hj j (by omega))
    refine ⟨I', ?_, h2, h3⟩
    rw [q_X5_copyFrom_2]
    simp (disch := omega) only [q_X5_copyFrom_0, q_X5_copyFrom_1, q_X5_copyFrom_3, q_X5_copyFrom_4, q_X5_copyFrom_7, q_X5_copyFrom_8, q_X5_copyFrom_11, q_X5_copyFrom_12, q_X5_copyFrom_15, q_X5_copyFrom_16, q_X5_copyFrom_17, q_X5_copyFrom_18, q_X5_copyFrom_21, q_X5_copyFrom_22, q_X5_copyFrom_25, q_X5_copyFrom_28, nI_add, pI_le, pI_lt, pI_eq, pI_neg, pI_nn, pI_le0, pI_gt0, pI_eq0, xbV_s, xbU_s, if_true, if_false, bI_eq0, Nat.reduceAdd, Nat.reduceSub, Nat.reduceEqDiff, Nat.reduceLeDiff, Nat.reduceLT, Bool.true_eq_false, Bool.false_eq_true, k1, k2, k3, k4, n1, s_get hb, e1]
    exact h1
theorem s5_cpy {r b n : Nat} (hr : xRow r n) (hb : xRow b n) (hn : n < 1000) (hrb : r ≠ b) : ∃ I', f_X5_copyFrom [.ref r, .ref b] I = some (.inl none, I') ∧ zG (r + 1) 1 I I' ∧ (∀ j, j < n → I' (r + 1) j = I (b + 1) j) := by
  obtain ⟨I', h1, h2, h3⟩ := s5_cpy_l (I := I) hr hb hn hrb n 0 I (by omega) zG.rf (fun j hj => absurd hj (Nat.not_lt_zero _))
  refine ⟨I', ?_, h2, h3⟩
  rw [e_X5_copyFrom]
  simp (disch := omega) only [q_X5_copyFrom_0, q_X5_copyFrom_1, nI_add, pI_le, pI_lt, pI_eq, pI_neg, pI_nn, pI_le0, pI_gt0, pI_eq0, xbV_s, xbU_s, if_true, if_false, bI_eq0, Nat.reduceAdd, Nat.reduceSub, Nat.reduceEqDiff, Nat.reduceLeDiff, Nat.reduceLT, Bool.true_eq_false, Bool.false_eq_true]
  exact h1
/-- a column, piece by piece -/
def cX (I : xMem) (a n q lim Nl : Nat) (l : Nat → Nat) (Np : Nat) (pn : Nat → Nat) (Nv : Nat) (v : Nat → Nat) : Prop := I a 4 = nI n ∧ I a 5 = nI q ∧ I a 6 = nI lim ∧ (∀ j, j < Nv → I (a + 1 + 1) j = nI (v j)) ∧ (∀ p, p < Nl → I (a + 3 + 1) p = nI (l p)) ∧ (∀ p, p < Np → I (a + 5 + 1) p = xpn (pn p))
section PF
variable {a n q lim Nl Np Nv : Nat} {l pn v : Nat → Nat}
theorem cX_cg (h : cX I a n q lim Nl l Np pn Nv v) {Nl' Np' n' : Nat} {l' pn' v' : Nat → Nat} (h1 : ∀ j, j < Nl' → j < Nl ∧ l' j = l j) (h2 : ∀ j, j < Np' → j < Np ∧ pn' j = pn j) (h3 : ∀ j, j < n' → j < Nv ∧ v' j = v j) : cX I a n q lim Nl' l' Np' pn' n' v' := by
  obtain ⟨a1, a2, a3, a4, a5, a6⟩ := h
  exact ⟨a1, a2, a3, fun j hj => by rw [(h3 j hj).2]; exact a4 j (h3 j hj).1, fun j hj => by rw [(h1 j hj).2]; exact a5 j (h1 j hj).1, fun j hj => by rw [(h2 j hj).2]; exact a6 j (h2 j hj).1⟩
theorem s0_lenR {p : Nat} (hA : xCol a) (hp : p < 10) : f_X0_lengthOf [.ref a, .int (nI p)] I = some (.inl (some (.int (I (a + 3 + 1) p))), I) := by
  obtain ⟨a1, a2, a3, a4, a5, a6, a7, a8, a9⟩ := hA
  have k7 := a7.1
  rw [e_X0_lengthOf]
  simp (disch := omega) only [q_X0_lengthOf_0, q_X0_lengthOf_1, q_X0_lengthOf_4, q_X0_lengthOf_5, q_X0_lengthOf_8, nI_add, pI_le, pI_lt, pI_eq, pI_neg, pI_nn, pI_le0, pI_gt0, pI_eq0, xbV_s, xbU_s, if_true, if_false, bI_eq0, Nat.reduceAdd, Nat.reduceSub, Nat.reduceEqDiff, Nat.reduceLeDiff, Nat.reduceLT, Bool.true_eq_false, Bool.false_eq_true, a1, a3, s_get a7]
theorem s0_open {p len c : Nat} (hA : xCol a) (hq : q < 10) (hp : p ≤ q) (h : cX I a n q lim q l q pn Nv v) : ∃ I', f_X0_openPage [.ref a, .int (nI p), .int (nI len), .int (xpn c)] I = some (.inl none, I') ∧ zG a 9 I I' ∧ cX I' a n (q + 1) lim (q + 1) (nin l p len) (q + 1) (nin pn p c) Nv v := by
  obtain ⟨a1, a2, a3, a4, a5, a6, a7, a8, a9⟩ := hA
  have k7 := a7.1
  have k8 := a8.1
  obtain ⟨h1, h2, h3, h4, h5, h6⟩ := h
  obtain ⟨I1, f1, f2, f3⟩ := s5_ins (I := I) (x := nI len) a7 (by omega : p < 10) (by omega)
  obtain ⟨I2, g1, g2, g3⟩ := s5_ins (I := I1) (x := xpn c) a8 (by omega : p < 10) (by omega)
  have e1 : I2 a = I a := by rw [g2 a (by omega), f2 a (by omega)]
  refine ⟨xup I2 a 5 (nI (q + 1)), ?_, ((f2.wd (by omega) (by omega)).tr (g2.wd (by omega) (by omega))).up (by omega) (by omega), ?_, ?_, ?_, fun j hj => ?_, fun j hj => ?_, fun j hj => ?_⟩
  · rw [e_X0_openPage]
    simp (disch := omega) only [q_X0_openPage_0, q_X0_openPage_1, q_X0_openPage_4, q_X0_openPage_5, q_X0_openPage_6, q_X0_openPage_9, q_X0_openPage_10, q_X0_openPage_13, q_X0_openPage_14, q_X0_openPage_15, q_X0_openPage_18, q_X0_openPage_19, q_X0_openPage_20, q_X0_openPage_23, q_X0_openPage_24, q_X0_openPage_25, q_X0_openPage_28, nI_add, pI_le, pI_lt, pI_eq, pI_neg, pI_nn, pI_le0, pI_gt0, pI_eq0, xbV_s, xbU_s, if_true, if_false, bI_eq0, Nat.reduceAdd, Nat.reduceSub, Nat.reduceEqDiff, Nat.reduceLeDiff, Nat.reduceLT, Bool.true_eq_false, Bool.false_eq_true, a1, a3, a4, f1, g1, e1, h2]
  · rw [xup_d (by omega), e1]; exact h1
  · rw [xup_s]
  · rw [xup_d (by omega), e1]; exact h3
  · rw [xup_o (by omega), g2 _ (by omega), f2 _ (by omega)]; exact h4 j hj
  · rw [xup_o (by omega), g2 _ (by omega), f3 j (by omega)]
    unfold nin
    by_cases e : j < p
    · rw [if_pos e, if_pos e]; exact h5 j (by omega)
    · rw [if_neg e, if_neg e]
      by_cases e' : j = p
      · rw [if_pos e', if_pos e']
      · rw [if_neg e', if_neg e']; exact h5 (j - 1) (by omega)
  · rw [xup_o (by omega), g3 j (by omega), f2 _ (by omega)]
    unfold nin
    by_cases e : j < p
    · rw [if_pos e, if_pos e]; exact h6 j (by omega)
    · rw [if_neg e, if_neg e]
      by_cases e' : j = p
      · rw [if_pos e', if_pos e']
      · rw [if_neg e', if_neg e']; exact h6 (j - 1) (by omega)
theorem s0_close {p : Nat} (hA : xCol a) (hq : q < 10) (hp : p ≤ q) (h : cX I a n (q + 1) lim (q + 1) l (q + 1) pn Nv v) : ∃ I', f_X0_closePage [.ref a, .int (nI p)] I = some (.inl none, I') ∧ zG a 9 I I' ∧ cX I' a n q lim q (nrm l p) q (nrm pn p) Nv v := by
  obtain ⟨a1, a2, a3, a4, a5, a6, a7, a8, a9⟩ := hA
  have k7 := a7.1
  have k8 := a8.1
  obtain ⟨h1, h2, h3, h4, h5, h6⟩ := h
  obtain ⟨I1, f1, f2, f3⟩ := s5_rem (I := I) a7 (by omega : p < 10) (by omega)
  obtain ⟨I2, g1, g2, g3⟩ := s5_rem (I := I1) a8 (by omega : p < 10) (by omega)
  have e1 : I2 a = I a := by rw [g2 a (by omega), f2 a (by omega)]
  have e2 : nI (q + 1) - nI 1 = nI q := by rw [pI_sub (by omega)]; rfl
  refine ⟨xup I2 a 5 (nI q), ?_, ((f2.wd (by omega) (by omega)).tr (g2.wd (by omega) (by omega))).up (by omega) (by omega), ?_, ?_, ?_, fun j hj => ?_, fun j hj => ?_, fun j hj => ?_⟩
  · rw [e_X0_closePage]
    simp (disch := omega) only [q_X0_closePage_0, q_X0_closePage_1, q_X0_closePage_4, q_X0_closePage_5, q_X0_closePage_8, q_X0_closePage_9, q_X0_closePage_12, q_X0_closePage_13, q_X0_closePage_16, q_X0_closePage_17, q_X0_closePage_18, q_X0_closePage_21, q_X0_closePage_22, q_X0_closePage_23, q_X0_closePage_26, nI_add, pI_le, pI_lt, pI_eq, pI_neg, pI_nn, pI_le0, pI_gt0, pI_eq0, xbV_s, xbU_s, if_true, if_false, bI_eq0, Nat.reduceAdd, Nat.reduceSub, Nat.reduceEqDiff, Nat.reduceLeDiff, Nat.reduceLT, Bool.true_eq_false, Bool.false_eq_true, a1, a3, a4, f1, g1, e1, h2, e2]
  · rw [xup_d (by omega), e1]; exact h1
  · rw [xup_s]
  · rw [xup_d (by omega), e1]; exact h3
  · rw [xup_o (by omega), g2 _ (by omega), f2 _ (by omega)]; exact h4 j hj
  · rw [xup_o (by omega), g2 _ (by omega), f3 j (by omega)]
    unfold nrm
    by_cases e : j < p
    · rw [if_pos e, if_pos e]; exact h5 j (by omega)
    · rw [if_neg e, if_neg e]; exact h5 (j + 1) (by omega)
  · rw [xup_o (by omega), g3 j (by omega), f2 _ (by omega)]
    unfold nrm
    by_cases e : j < p
    · rw [if_pos e, if_pos e]; exact h6 j (by omega)
    · rw [if_neg e, if_neg e]; exact h6 (j + 1) (by omega)
/-- one length is set -/
theorem cX_l (h : cX I a n q lim Nl l Np pn Nv v) {p : Nat} (x : Nat) : cX (xup I (a + 3 + 1) p (nI x)) a n q lim Nl (nup l p x) Np pn Nv v := by
  obtain ⟨h1, h2, h3, h4, h5, h6⟩ := h
  refine ⟨?_, ?_, ?_, fun j hj => ?_, fun j hj => ?_, fun j hj => ?_⟩
  · rw [xup_o (by omega)]; exact h1
  · rw [xup_o (by omega)]; exact h2
  · rw [xup_o (by omega)]; exact h3
  · rw [xup_o (by omega)]; exact h4 j hj
  · unfold nup
    by_cases e : j = p
    · rw [if_pos e, e, xup_s]
    · rw [if_neg e, xup_d e]; exact h5 j hj
  · rw [xup_o (by omega)]; exact h6 j hj
theorem cX_p (h : cX I a n q lim Nl l Np pn Nv v) {p : Nat} (x : Nat) : cX (xup I (a + 5 + 1) p (xpn x)) a n q lim Nl l Np (nup pn p x) Nv v := by
  obtain ⟨h1, h2, h3, h4, h5, h6⟩ := h
  refine ⟨?_, ?_, ?_, fun j hj => ?_, fun j hj => ?_, fun j hj => ?_⟩
  · rw [xup_o (by omega)]; exact h1
  · rw [xup_o (by omega)]; exact h2
  · rw [xup_o (by omega)]; exact h3
  · rw [xup_o (by omega)]; exact h4 j hj
  · rw [xup_o (by omega)]; exact h5 j hj
  · unfold nup
    by_cases e : j = p
    · rw [if_pos e, e, xup_s]
    · rw [if_neg e, xup_d e]; exact h6 j hj
theorem cX_v (h : cX I a n q lim Nl l Np pn Nv v) {i : Nat} (N' x : Nat) (hN : ∀ j, j < N' → j ≠ i → j < Nv) : cX (xup I (a + 1 + 1) i (nI x)) a n q lim Nl l Np pn N' (nup v i x) := by
  obtain ⟨h1, h2, h3, h4, h5, h6⟩ := h
  refine ⟨?_, ?_, ?_, fun j hj => ?_, fun j hj => ?_, fun j hj => ?_⟩
  · rw [xup_o (by omega)]; exact h1
  · rw [xup_o (by omega)]; exact h2
  · rw [xup_o (by omega)]; exact h3
  · unfold nup
    by_cases e : j = i
    · rw [if_pos e, e, xup_s]
    · rw [if_neg e, xup_d e]; exact h4 j (hN j hj e)
  · rw [xup_o (by omega)]; exact h5 j hj
  · rw [xup_o (by omega)]; exact h6 j hj
theorem cX_n (h : cX I a n q lim Nl l Np pn Nv v) (x : Nat) : cX (xup I a 4 (nI x)) a x q lim Nl l Np pn Nv v := by
  obtain ⟨h1, h2, h3, h4, h5, h6⟩ := h
  refine ⟨?_, ?_, ?_, fun j hj => ?_, fun j hj => ?_, fun j hj => ?_⟩
  · rw [xup_s]
  · rw [xup_d (by omega)]; exact h2
  · rw [xup_d (by omega)]; exact h3
  · rw [xup_o (by omega)]; exact h4 j hj
  · rw [xup_o (by omega)]; exact h5 j hj
  · rw [xup_o (by omega)]; exact h6 j hj
end PF
end PE
section PG
variable {a : Nat} {S : cS} {I : xMem}
theorem cR.x (h : cR I a S) : cX I a (sn S) (sq S) (sm S) (sq S) (sl S) (sq S) (sp S) (sn S) (sv S) := h
theorem sn_lt {S : cS} (hW : sWF S) (hc : sCanAdd S = true) : sn S < 120 := by
  have a := sF_12 hW (Nat.le_refl (sq S))
  have b := hW.2.2.2.1
  have hq := hW.1
  rcases sCanAdd_iff.mp hc with r | r
  · obtain ⟨r1, r2⟩ := sHasRoom_iff.mp r
    have c := sF_12 hW (p := sq S - 1) (by omega)
    have d := sF_s S (sq S - 1)
    have e := hW.2.1.2
    rw [show sq S - 1 + 1 = sq S by omega] at d
    omega
  · omega
theorem s0_app_b {v q p x : Nat} {l pn vv : Nat → Nat} {n lim : Nat} (hA : xCol a) (hq : 0 < q) (hq2 : q ≤ 10) (hn : n < 120) (hx : l (q - 1) = x) (h : cX I a n q lim q l q pn n vv) : ∃ I', xgo k_X0_appendValue 19 [some (.ref a), some (.int (nI v)), none] [] I = some (.inl (some (.int (nI (q - 1)))), I') ∧ zG a 9 I I' ∧ cX I' a (n + 1) q lim q (nup l (q - 1) (x + 1)) q pn (n + 1) (nup vv n v) := by
  have hA0 := hA
  obtain ⟨a1, a2, a3, a4, a5, a6, a7, a8, a9⟩ := hA
  have k6 := a6.1
  have k7 := a7.1
  have h1 := h.1
  have h2 := h.2.1
  have h5 := h.2.2.2.2.1 (q - 1) (by omega)
  rw [hx] at h5
  have e1 : nI q - nI 1 = nI (q - 1) := pI_sub (by omega)
  refine ⟨xup (xup (xup I (a + 1 + 1) n (nI v)) a 4 (nI (n + 1))) (a + 3 + 1) (q - 1) (nI (x + 1)), ?_, ((zG.rf.up (by omega) (by omega)).up (by omega) (by omega)).up (by omega) (by omega), cX_l (cX_n (cX_v h (n + 1) v (fun j hj hne => by omega)) (n + 1)) (x + 1)⟩
  simp (disch := omega) only [q_X0_appendValue_19, q_X0_appendValue_20, q_X0_appendValue_23, q_X0_appendValue_24, q_X0_appendValue_25, q_X0_appendValue_26, q_X0_appendValue_27, q_X0_appendValue_30, q_X0_appendValue_31, q_X0_appendValue_34, q_X0_appendValue_35, q_X0_appendValue_38, q_X0_appendValue_39, q_X0_appendValue_40, q_X0_appendValue_43, q_X0_appendValue_44, q_X0_appendValue_45, q_X0_appendValue_48, q_X0_appendValue_49, q_X0_appendValue_52, q_X0_appendValue_53, q_X0_appendValue_54, q_X0_appendValue_55, q_X0_appendValue_58, q_X0_appendValue_59, q_X0_appendValue_60, q_X0_appendValue_63, q_X0_appendValue_64, nI_add, pI_le, pI_lt, pI_eq, pI_neg, pI_nn, pI_le0, pI_gt0, pI_eq0, xbV_s, xbU_s, if_true, if_false, bI_eq0, Nat.reduceAdd, Nat.reduceSub, Nat.reduceEqDiff, Nat.reduceLeDiff, Nat.reduceLT, Bool.true_eq_false, Bool.false_eq_true, a1, a2, a3, h1, h2, e1, s_set a6, s_set a7, s0_lenR hA0, xup_o, h5]
theorem s0_append {v : Nat} (hA : xCol a) (h : cR I a S) (hW : sWF S) (hc : sCanAdd S = true) : ∃ I', f_X0_appendValue [.ref a, .int (nI v)] I = some (.inl (some (.int (nI (sq (sAdd S v) - 1)))), I') ∧ zG a 9 I I' ∧ cR I' a (sAdd S v) := by
  have hq := hW.1
  have hn := sn_lt hW hc
  have hr := s0_room hA h hW
  have a1 := hA.1
  rw [e_X0_appendValue]
  unfold sAdd
  cases hb : sHasRoom S with
  | true =>
    obtain ⟨r1, r2⟩ := sHasRoom_iff.mp hb
    obtain ⟨I', f1, f2, f3⟩ := s0_app_b (v := v) (p := 0) (x := sl S (sq S - 1)) hA r1 hq hn rfl h.x
    rw [if_pos rfl]
    refine ⟨I', ?_, f2, f3⟩
    simp (disch := omega) only [q_X0_appendValue_0, q_X0_appendValue_1, q_X0_appendValue_4, q_X0_appendValue_7, q_X0_appendValue_8, q_X0_appendValue_9, q_X0_appendValue_12, q_X0_appendValue_13, q_X0_appendValue_16, nI_add, pI_le, pI_lt, pI_eq, pI_neg, pI_nn, pI_le0, pI_gt0, pI_eq0, xbV_s, xbU_s, if_true, if_false, bI_eq0, Nat.reduceAdd, Nat.reduceSub, Nat.reduceEqDiff, Nat.reduceLeDiff, Nat.reduceLT, Bool.true_eq_false, Bool.false_eq_true, a1, hr, hb]
    exact f1
  | false =>
    have r1 : sq S < 10 := by
      rcases sCanAdd_iff.mp hc with q | q
      · rw [hb] at q; cases q
      · exact q
    have h2 := h.2.1
    obtain ⟨I1, g1, g2, g3⟩ := s0_open (p := sq S) (len := 0) (c := 0) hA r1 (Nat.le_refl _) h.x
    rw [show xpn 0 = -9999 from rfl] at g1
    obtain ⟨I', f1, f2, f3⟩ := s0_app_b (v := v) (p := 0) (x := 0) (q := sq S + 1) hA (by omega) (by omega) hn (by unfold nin; rw [if_neg (by omega), if_pos (by omega)]) g3
    rw [if_neg (by decide)]
    refine ⟨I', ?_, g2.tr f2, cX_cg f3 (fun j hj => ⟨hj, ?_⟩) (fun j hj => ⟨hj, ?_⟩) (fun j hj => ⟨hj, rfl⟩)⟩
    · simp (disch := omega) only [q_X0_appendValue_0, q_X0_appendValue_1, q_X0_appendValue_4, q_X0_appendValue_7, q_X0_appendValue_8, q_X0_appendValue_9, q_X0_appendValue_12, q_X0_appendValue_13, q_X0_appendValue_16, nI_add, pI_le, pI_lt, pI_eq, pI_neg, pI_nn, pI_le0, pI_gt0, pI_eq0, xbV_s, xbU_s, if_true, if_false, bI_eq0, Nat.reduceAdd, Nat.reduceSub, Nat.reduceEqDiff, Nat.reduceLeDiff, Nat.reduceLT, Bool.true_eq_false, Bool.false_eq_true, a1, hr, hb, h2, g1]
      exact f1
    · have hj : j < sq S + 1 := hj
      show nup (sl S) (sq S) 1 j = nup (nin (sl S) (sq S) 0) (sq S + 1 - 1) (0 + 1) j
      unfold nup nin
      by_cases e : j = sq S
      · rw [if_pos e, if_pos (by omega)]
      · rw [if_neg e, if_neg (by omega), if_pos (by omega)]
    · have hj : j < sq S + 1 := hj
      show nup (sp S) (sq S) 0 j = nin (sp S) (sq S) 0 j
      unfold nup nin
      by_cases e : j = sq S
      · rw [if_pos e, if_neg (by omega), if_pos e]
      · rw [if_neg e, if_pos (by omega)]
theorem s0_change {i v : Nat} (hA : xCol a) (h : cR I a S) (hW : sWF S) (hi : i < sn S) : ∃ I', f_X0_changeValue [.ref a, .int (nI i), .int (nI v)] I = some (.inl (some (.int (nI (sv S i)))), I') ∧ zG a 9 I I' ∧ cR I' a (sPut S i v) := by
  obtain ⟨a1, a2, a3, a4, a5, a6, a7, a8, a9⟩ := hA
  have k6 := a6.1
  have hn := sn_120 hW
  have g := h.2.2.2.1 i hi
  refine ⟨xup I (a + 1 + 1) i (nI v), ?_, zG.rf.up (by omega) (by omega), cX_v h.x (sn S) v (fun j hj _ => hj)⟩
  rw [e_X0_changeValue]
  simp (disch := omega) only [q_X0_changeValue_0, q_X0_changeValue_1, q_X0_changeValue_4, q_X0_changeValue_5, q_X0_changeValue_8, q_X0_changeValue_9, q_X0_changeValue_10, q_X0_changeValue_13, q_X0_changeValue_14, q_X0_changeValue_15, q_X0_changeValue_18, q_X0_changeValue_19, nI_add, pI_le, pI_lt, pI_eq, pI_neg, pI_nn, pI_le0, pI_gt0, pI_eq0, xbV_s, xbU_s, if_true, if_false, bI_eq0, Nat.reduceAdd, Nat.reduceSub, Nat.reduceEqDiff, Nat.reduceLeDiff, Nat.reduceLT, Bool.true_eq_false, Bool.false_eq_true, a1, a2, s_get a6, s_set a6, g]
theorem s0_drop {i p : Nat} (hA : xCol a) (h : cR I a S) (hW : sWF S) (hi : i < sn S) (hp : p < sq S) (h8 : sF S p ≤ i) (h9 : i < sF S (p + 1)) : ∃ I', f_X0_dropValue [.ref a, .int (nI i)] I = some (.inl (some (.int (nI (sv S i)))), I') ∧ zG a 9 I I' ∧ cR I' a (sRem S i p) := by
  have hpg := s0_pageOf hA h hW hp h8 h9
  have hA0 := hA
  obtain ⟨a1, a2, a3, a4, a5, a6, a7, a8, a9⟩ := hA
  have k6 := a6.1
  have k7 := a7.1
  have hn := sn_120 hW
  have hq := hW.1
  have hl := hW.2.2.1 p hp
  have g := h.2.2.2.1 i hi
  obtain ⟨h1, h2, h3, h4, h5, h6⟩ := h
  obtain ⟨I1, f1, f2, f3⟩ := s5_rem (I := I) a6 (by omega : i < 120) (by omega)
  have b1 : I1 a = I a := f2 _ (by omega)
  have b2 : I1 (a + 3 + 1) = I (a + 3 + 1) := f2 _ (by omega)
  have b3 : I1 (a + 5 + 1) = I (a + 5 + 1) := f2 _ (by omega)
  have hX1 : cX I1 a (sn S) (sq S) (sm S) (sq S) (sl S) (sq S) (sp S) (sn S - 1) (nrm (sv S) i) := by
    refine ⟨by rw [b1]; exact h1, by rw [b1]; exact h2, by rw [b1]; exact h3, fun j hj => ?_, fun j hj => by rw [b2]; exact h5 j hj, fun j hj => by rw [b3]; exact h6 j hj⟩
    rw [f3 j (by omega)]
    unfold nrm
    by_cases e : j < i
    · rw [if_pos e, if_pos e]; exact h4 j (by omega)
    · rw [if_neg e, if_neg e]; exact h4 (j + 1) (by omega)
  have hX2 := cX_l (cX_n hX1 (sn S - 1)) (p := p) (sl S p - 1)
  have e1 : nI (sn S) - nI 1 = nI (sn S - 1) := pI_sub (by omega)
  have e2 : nI (sl S p) - nI 1 = nI (sl S p - 1) := pI_sub (by omega)
  have g5 := h5 p hp
  unfold sRem
  by_cases r : sl S p = 1
  · rw [if_pos r]
    rw [show sq S = sq S - 1 + 1 by omega] at hX2
    obtain ⟨I', j1, j2, j3⟩ := s0_close (p := p) hA0 (by omega) (by omega) hX2
    refine ⟨I', ?_, (((f2.wd (by omega) (by omega)).up (by omega) (by omega)).up (by omega) (by omega)).tr j2, cX_cg j3 (fun j hj => ⟨hj, ?_⟩) (fun j hj => ⟨hj, rfl⟩) (fun j hj => ⟨hj, rfl⟩)⟩
    · rw [e_X0_dropValue]
      simp (disch := omega) only [q_X0_dropValue_0, q_X0_dropValue_1, q_X0_dropValue_2, q_X0_dropValue_5, q_X0_dropValue_6, q_X0_dropValue_7, q_X0_dropValue_10, q_X0_dropValue_11, q_X0_dropValue_14, q_X0_dropValue_15, q_X0_dropValue_16, q_X0_dropValue_19, q_X0_dropValue_20, q_X0_dropValue_23, q_X0_dropValue_24, q_X0_dropValue_25, q_X0_dropValue_28, q_X0_dropValue_29, q_X0_dropValue_30, q_X0_dropValue_33, q_X0_dropValue_34, q_X0_dropValue_37, q_X0_dropValue_38, q_X0_dropValue_39, q_X0_dropValue_40, q_X0_dropValue_43, q_X0_dropValue_44, q_X0_dropValue_45, q_X0_dropValue_48, q_X0_dropValue_49, q_X0_dropValue_50, q_X0_dropValue_53, q_X0_dropValue_56, q_X0_dropValue_57, q_X0_dropValue_58, q_X0_dropValue_61, q_X0_dropValue_62, nI_add, pI_le, pI_lt, pI_eq, pI_neg, pI_nn, pI_le0, pI_gt0, pI_eq0, xbV_s, xbU_s, if_true, if_false, bI_eq0, Nat.reduceAdd, Nat.reduceSub, Nat.reduceEqDiff, Nat.reduceLeDiff, Nat.reduceLT, Bool.true_eq_false, Bool.false_eq_true, a1, a2, a3, hpg, s_get a6, g, f1, b1, h1, e1, s0_lenR hA0, xup_o, b2, g5, e2, s_set a7, xup_s, (show sl S p - 1 = 0 by omega)]
      rw [show sl S p - 1 = 0 by omega] at j1
      simp (disch := omega) only [q_X0_dropValue_0, q_X0_dropValue_1, q_X0_dropValue_2, q_X0_dropValue_5, q_X0_dropValue_6, q_X0_dropValue_7, q_X0_dropValue_10, q_X0_dropValue_11, q_X0_dropValue_14, q_X0_dropValue_15, q_X0_dropValue_16, q_X0_dropValue_19, q_X0_dropValue_20, q_X0_dropValue_23, q_X0_dropValue_24, q_X0_dropValue_25, q_X0_dropValue_28, q_X0_dropValue_29, q_X0_dropValue_30, q_X0_dropValue_33, q_X0_dropValue_34, q_X0_dropValue_37, q_X0_dropValue_38, q_X0_dropValue_39, q_X0_dropValue_40, q_X0_dropValue_43, q_X0_dropValue_44, q_X0_dropValue_45, q_X0_dropValue_48, q_X0_dropValue_49, q_X0_dropValue_50, q_X0_dropValue_53, q_X0_dropValue_56, q_X0_dropValue_57, q_X0_dropValue_58, q_X0_dropValue_61, q_X0_dropValue_62, nI_add, pI_le, pI_lt, pI_eq, pI_neg, pI_nn, pI_le0, pI_gt0, pI_eq0, xbV_s, xbU_s, if_true, if_false, bI_eq0, Nat.reduceAdd, Nat.reduceSub, Nat.reduceEqDiff, Nat.reduceLeDiff, Nat.reduceLT, Bool.true_eq_false, Bool.false_eq_true, a1, j1]
    · show nrm (nup (sl S) p 0) p j = nrm (nup (sl S) p (sl S p - 1)) p j
      rw [show sl S p - 1 = 0 by omega]
  · rw [if_neg r]
    have r2 : ¬ sl S p - 1 = 0 := by omega
    refine ⟨_, ?_, ((f2.wd (by omega) (by omega)).up (by omega) (by omega)).up (by omega) (by omega), hX2⟩
    rw [e_X0_dropValue]
    simp (disch := omega) only [q_X0_dropValue_0, q_X0_dropValue_1, q_X0_dropValue_2, q_X0_dropValue_5, q_X0_dropValue_6, q_X0_dropValue_7, q_X0_dropValue_10, q_X0_dropValue_11, q_X0_dropValue_14, q_X0_dropValue_15, q_X0_dropValue_16, q_X0_dropValue_19, q_X0_dropValue_20, q_X0_dropValue_23, q_X0_dropValue_24, q_X0_dropValue_25, q_X0_dropValue_28, q_X0_dropValue_29, q_X0_dropValue_30, q_X0_dropValue_33, q_X0_dropValue_34, q_X0_dropValue_37, q_X0_dropValue_38, q_X0_dropValue_39, q_X0_dropValue_40, q_X0_dropValue_43, q_X0_dropValue_44, q_X0_dropValue_45, q_X0_dropValue_48, q_X0_dropValue_49, q_X0_dropValue_50, q_X0_dropValue_53, q_X0_dropValue_56, q_X0_dropValue_57, q_X0_dropValue_58, q_X0_dropValue_61, q_X0_dropValue_62, nI_add, pI_le, pI_lt, pI_eq, pI_neg, pI_nn, pI_le0, pI_gt0, pI_eq0, xbV_s, xbU_s, if_true, if_false, bI_eq0, Nat.reduceAdd, Nat.reduceSub, Nat.reduceEqDiff, Nat.reduceLeDiff, Nat.reduceLT, Bool.true_eq_false, Bool.false_eq_true, a1, a2, a3, hpg, s_get a6, g, f1, b1, h1, e1, s0_lenR hA0, xup_o, b2, g5, e2, s_set a7, xup_s, r2]
theorem s0_split {p k : Nat} (hA : xCol a) (h : cR I a S) (hW : sWF S) (hp : p < sq S) (hq : sq S < 10) (hk : 1 ≤ k) (hk2 : k < sl S p) : ∃ I', f_X0_splitPage [.ref a, .int (nI p), .int (nI k)] I = some (.inl none, I') ∧ zG a 9 I I' ∧ cR I' a (sCut S p k) := by
  have h1 := s0_lengthOf hA h hW hp
  have h2 := s0_pinOf hA h hW hp
  obtain ⟨I1, g1, g2, g3⟩ := s0_open (p := p + 1) (len := sl S p - k) (c := sp S p) hA hq (by omega) h.x
  obtain ⟨a1, a2, a3, a4, a5, a6, a7, a8, a9⟩ := hA
  have k7 := a7.1
  have e2 : nI (sl S p) - nI k = nI (sl S p - k) := pI_sub (by omega)
  refine ⟨xup I1 (a + 3 + 1) p (nI k), ?_, g2.up (by omega) (by omega), cX_cg (cX_l g3 (p := p) k) (fun j hj => ⟨hj, ?_⟩) (fun j hj => ⟨hj, rfl⟩) (fun j hj => ⟨hj, rfl⟩)⟩
  · rw [e_X0_splitPage]
    simp (disch := omega) only [q_X0_splitPage_0, q_X0_splitPage_1, q_X0_splitPage_2, q_X0_splitPage_3, q_X0_splitPage_4, q_X0_splitPage_5, q_X0_splitPage_6, q_X0_splitPage_9, q_X0_splitPage_10, q_X0_splitPage_11, q_X0_splitPage_12, q_X0_splitPage_13, q_X0_splitPage_16, q_X0_splitPage_19, q_X0_splitPage_20, q_X0_splitPage_23, q_X0_splitPage_24, q_X0_splitPage_25, q_X0_splitPage_28, nI_add, pI_le, pI_lt, pI_eq, pI_neg, pI_nn, pI_le0, pI_gt0, pI_eq0, xbV_s, xbU_s, if_true, if_false, bI_eq0, Nat.reduceAdd, Nat.reduceSub, Nat.reduceEqDiff, Nat.reduceLeDiff, Nat.reduceLT, Bool.true_eq_false, Bool.false_eq_true, a1, a3, h1, h2, e2, g1, s_set a7]
  · show nin (nup (sl S) p k) (p + 1) (sl S p - k) j = nup (nin (sl S) (p + 1) (sl S p - k)) p k j
    unfold nin nup
    dsimp only
    by_cases e : j = p
    · rw [if_pos e, if_pos (by omega), if_pos e]
    · rw [if_neg e, if_neg e]
      by_cases e2 : j < p + 1
      · rw [if_pos e2, if_pos e2]
      · rw [if_neg e2, if_neg e2]
        by_cases e3 : j = p + 1
        · rw [if_pos e3, if_pos e3]
        · rw [if_neg e3, if_neg e3, if_neg (by omega)]
theorem s0_join {p : Nat} (hA : xCol a) (h : cR I a S) (hW : sWF S) (hp : p + 1 < sq S) : ∃ I', f_X0_joinPages [.ref a, .int (nI p)] I = some (.inl none, I') ∧ zG a 9 I I' ∧ cR I' a (sMrg S p) := by
  have hq := hW.1
  have h1 := s0_joinedPin hA h hW hp
  have g1 := h.2.2.2.2.1 p (by omega)
  have g2 := h.2.2.2.2.1 (p + 1) hp
  have hX2 := cX_l (cX_p h.x (p := p) (sMp S p)) (p := p) (sl S p + sl S (p + 1))
  rw [show sq S = sq S - 1 + 1 by omega] at hX2
  obtain ⟨I', j1, j2, j3⟩ := s0_close (p := p + 1) hA (by omega) (by omega) hX2
  have hA0 := hA
  obtain ⟨a1, a2, a3, a4, a5, a6, a7, a8, a9⟩ := hA
  have k7 := a7.1
  have k8 := a8.1
  refine ⟨I', ?_, ((zG.rf.up (by omega) (by omega)).up (by omega) (by omega)).tr j2, j3⟩
  rw [e_X0_joinPages]
  simp (disch := omega) only [q_X0_joinPages_0, q_X0_joinPages_1, q_X0_joinPages_4, q_X0_joinPages_5, q_X0_joinPages_6, q_X0_joinPages_7, q_X0_joinPages_10, q_X0_joinPages_13, q_X0_joinPages_14, q_X0_joinPages_17, q_X0_joinPages_18, q_X0_joinPages_19, q_X0_joinPages_20, q_X0_joinPages_23, q_X0_joinPages_24, q_X0_joinPages_25, q_X0_joinPages_26, q_X0_joinPages_27, q_X0_joinPages_30, q_X0_joinPages_31, q_X0_joinPages_34, q_X0_joinPages_35, q_X0_joinPages_36, q_X0_joinPages_37, q_X0_joinPages_38, q_X0_joinPages_41, nI_add, pI_le, pI_lt, pI_eq, pI_neg, pI_nn, pI_le0, pI_gt0, pI_eq0, xbV_s, xbU_s, if_true, if_false, bI_eq0, Nat.reduceAdd, Nat.reduceSub, Nat.reduceEqDiff, Nat.reduceLeDiff, Nat.reduceLT, Bool.true_eq_false, Bool.false_eq_true, a1, a3, a4, h1, s_set a8, s0_lenR hA0, xup_o, g1, g2, s_set a7, j1]
theorem s0_pin {p c : Nat} (hA : xCol a) (h : cR I a S) (hW : sWF S) (hp : p < sq S) : ∃ I', f_X0_pinPage [.ref a, .int (nI p), .int (xpn c)] I = some (.inl none, I') ∧ zG a 9 I I' ∧ cR I' a (sPin S p c) := by
  obtain ⟨a1, a2, a3, a4, a5, a6, a7, a8, a9⟩ := hA
  have k8 := a8.1
  have hq := hW.1
  refine ⟨xup I (a + 5 + 1) p (xpn c), ?_, zG.rf.up (by omega) (by omega), cX_p h.x c⟩
  rw [e_X0_pinPage]
  simp (disch := omega) only [q_X0_pinPage_0, q_X0_pinPage_1, q_X0_pinPage_4, q_X0_pinPage_5, q_X0_pinPage_6, q_X0_pinPage_9, nI_add, pI_le, pI_lt, pI_eq, pI_neg, pI_nn, pI_le0, pI_gt0, pI_eq0, xbV_s, xbU_s, if_true, if_false, bI_eq0, Nat.reduceAdd, Nat.reduceSub, Nat.reduceEqDiff, Nat.reduceLeDiff, Nat.reduceLT, Bool.true_eq_false, Bool.false_eq_true, a1, a4, s_set a8]
theorem sSv_pos {S : cS} (hW : sWF S) (p : Nat) : (0 < sSv S p) = (sGn S p = true) := by
  unfold sSv sGn
  by_cases q : sOk S p = true
  · obtain ⟨q1, q2⟩ := sOk_iff.mp q
    have b1 := sZ_le hW (p := p) (by omega)
    have b2 := sZ_le hW q1
    have b3 := sThen_le hW q1 q2
    rw [if_pos q, q, Bool.true_and, Int32.lt_iff_toInt_lt, pk_sub_toInt (by omega) (by omega), Int32.toInt_zero]
    apply propext
    rw [decide_eq_true_iff]
    omega
  · have q' : sOk S p = false := by simpa using q
    rw [if_neg q, q', Bool.false_and]
    exact propext ⟨fun h => absurd h (by decide), fun h => by cases h⟩
theorem s0_jws_i {n : Nat} (hA : xCol a) (hW : sWF S) : ∀ d p (I1 : xMem), p + d = sq S - 1 → 0 < sq S → zG (a + 7) 2 I I1 → cR I1 a S → ∃ I', xgo k_X0_joinWhileItSaves 10 [some (.ref a), some (.int (nI n)), some (.int (nI p))] [] I1 = xgo k_X0_joinWhileItSaves 32 [some (.ref a), some (.int (nI n)), some (.int (nI (if sFind S d p < sq S - 1 then sFind S d p else sq S)))] [] I' ∧ zG (a + 7) 2 I I' ∧ cR I' a S := by
  have a1 := hA.1
  have hq := hW.1
  intro d
  induction d with
  | zero =>
    intro p I1 hp h0 hG h
    have h2 := h.2.1
    have e : sFind S 0 p = p := rfl
    have hok : sOk S p = false := by unfold sOk; exact decide_eq_false (by omega)
    obtain ⟨I2, f1, f2, f3⟩ := s0_saved hA h hW (by omega : p < 1000)
    have n1 : ¬ sq S ≤ p := by omega
    have n2 : ¬ (0 < sSv S p) := by
      rw [sSv_pos hW]
      unfold sGn
      rw [hok, Bool.false_and]
      decide
    have n3 : sq S ≤ p + 1 := by omega
    have h3 := f3.2.1
    refine ⟨I2, ?_, hG.tr f2, f3⟩
    rw [e, if_neg (by omega), show sq S = p + 1 by omega]
    have h2' := h2
    have h3' := h3
    rw [show sq S = p + 1 by omega] at h2' h3'
    have n1' : ¬ p + 1 ≤ p := by omega
    rw [q_X0_joinWhileItSaves_10]
    simp (disch := omega) only [q_X0_joinWhileItSaves_11, q_X0_joinWhileItSaves_12, q_X0_joinWhileItSaves_15, q_X0_joinWhileItSaves_18, q_X0_joinWhileItSaves_19, q_X0_joinWhileItSaves_20, q_X0_joinWhileItSaves_23, q_X0_joinWhileItSaves_26, q_X0_joinWhileItSaves_29, nI_add, pI_le, pI_lt, pI_eq, pI_neg, pI_nn, pI_le0, pI_gt0, pI_eq0, xbV_s, xbU_s, if_true, if_false, bI_eq0, Nat.reduceAdd, Nat.reduceSub, Nat.reduceEqDiff, Nat.reduceLeDiff, Nat.reduceLT, Bool.true_eq_false, Bool.false_eq_true, a1, h2', n1', f1, n2]
    rw [q_X0_joinWhileItSaves_10]
    simp (disch := omega) only [q_X0_joinWhileItSaves_11, q_X0_joinWhileItSaves_12, q_X0_joinWhileItSaves_15, q_X0_joinWhileItSaves_18, q_X0_joinWhileItSaves_19, q_X0_joinWhileItSaves_20, q_X0_joinWhileItSaves_23, q_X0_joinWhileItSaves_26, q_X0_joinWhileItSaves_29, nI_add, pI_le, pI_lt, pI_eq, pI_neg, pI_nn, pI_le0, pI_gt0, pI_eq0, xbV_s, xbU_s, if_true, if_false, bI_eq0, Nat.reduceAdd, Nat.reduceSub, Nat.reduceEqDiff, Nat.reduceLeDiff, Nat.reduceLT, Bool.true_eq_false, Bool.false_eq_true, a1, h3', Nat.le_refl]
  | succ d ih =>
    intro p I1 hp h0 hG h
    have h2 := h.2.1
    have n1 : ¬ sq S ≤ p := by omega
    obtain ⟨I2, f1, f2, f3⟩ := s0_saved hA h hW (by omega : p < 1000)
    by_cases g : sGn S p = true
    · have e : sFind S (d + 1) p = p := by unfold sFind; rw [if_pos g]
      have n2 : 0 < sSv S p := by rw [sSv_pos hW]; exact g
      refine ⟨I2, ?_, hG.tr f2, f3⟩
      rw [e, if_pos (by omega), q_X0_joinWhileItSaves_10]
      simp (disch := omega) only [q_X0_joinWhileItSaves_11, q_X0_joinWhileItSaves_12, q_X0_joinWhileItSaves_15, q_X0_joinWhileItSaves_18, q_X0_joinWhileItSaves_19, q_X0_joinWhileItSaves_20, q_X0_joinWhileItSaves_23, q_X0_joinWhileItSaves_26, q_X0_joinWhileItSaves_29, nI_add, pI_le, pI_lt, pI_eq, pI_neg, pI_nn, pI_le0, pI_gt0, pI_eq0, xbV_s, xbU_s, if_true, if_false, bI_eq0, Nat.reduceAdd, Nat.reduceSub, Nat.reduceEqDiff, Nat.reduceLeDiff, Nat.reduceLT, Bool.true_eq_false, Bool.false_eq_true, a1, h2, n1, f1, n2]
    · have e : sFind S (d + 1) p = sFind S d (p + 1) := by
        show (if sGn S p = true then p else sFind S d (p + 1)) = _
        rw [if_neg g]
      have n2 : ¬ 0 < sSv S p := by rw [sSv_pos hW]; exact g
      obtain ⟨I', j1, j2, j3⟩ := ih (p + 1) I2 (by omega) h0 (hG.tr f2) f3
      refine ⟨I', ?_, j2, j3⟩
      rw [e, q_X0_joinWhileItSaves_10]
      simp (disch := omega) only [q_X0_joinWhileItSaves_11, q_X0_joinWhileItSaves_12, q_X0_joinWhileItSaves_15, q_X0_joinWhileItSaves_18, q_X0_joinWhileItSaves_19, q_X0_joinWhileItSaves_20, q_X0_joinWhileItSaves_23, q_X0_joinWhileItSaves_26, q_X0_joinWhileItSaves_29, nI_add, pI_le, pI_lt, pI_eq, pI_neg, pI_nn, pI_le0, pI_gt0, pI_eq0, xbV_s, xbU_s, if_true, if_false, bI_eq0, Nat.reduceAdd, Nat.reduceSub, Nat.reduceEqDiff, Nat.reduceLeDiff, Nat.reduceLT, Bool.true_eq_false, Bool.false_eq_true, a1, h2, n1, f1, n2]
      exact j1
theorem s0_jws_l (hA : xCol a) : ∀ (f n : Nat) {S : cS} {I : xMem} (l2 : Option Value), n + f = 10 → cR I a S → sWF S → sq S ≤ f + 1 → ∃ I', xgo k_X0_joinWhileItSaves 2 [some (.ref a), some (.int (nI n)), l2] [] I = some (.inl (some (.int (nI (n + (sCmp f S).2)))), I') ∧ zG a 9 I I' ∧ cR I' a (sCmp f S).1
  | 0, n, S, I, l2, hn, h, hW, hf => by
    have e : n = 10 := by omega
    subst e
    refine ⟨I, ?_, zG.rf, h⟩
    rw [q_X0_joinWhileItSaves_2]
    simp (disch := omega) only [q_X0_joinWhileItSaves_3, q_X0_joinWhileItSaves_5, q_X0_joinWhileItSaves_8, q_X0_joinWhileItSaves_9, q_X0_joinWhileItSaves_32, q_X0_joinWhileItSaves_33, q_X0_joinWhileItSaves_34, q_X0_joinWhileItSaves_37, q_X0_joinWhileItSaves_40, q_X0_joinWhileItSaves_41, q_X0_joinWhileItSaves_42, q_X0_joinWhileItSaves_43, q_X0_joinWhileItSaves_44, q_X0_joinWhileItSaves_47, q_X0_joinWhileItSaves_50, q_X0_joinWhileItSaves_53, q_X0_joinWhileItSaves_55, nI_add, pI_le, pI_lt, pI_eq, pI_neg, pI_nn, pI_le0, pI_gt0, pI_eq0, xbV_s, xbU_s, if_true, if_false, bI_eq0, Nat.reduceAdd, Nat.reduceSub, Nat.reduceEqDiff, Nat.reduceLeDiff, Nat.reduceLT, Bool.true_eq_false, Bool.false_eq_true, Nat.le_refl]
    rfl
  | f + 1, n, S, I, l2, hn, h, hW, hf => by
    have a1 := hA.1
    have hq := hW.1
    have n1 : ¬ 10 ≤ n := by omega
    have h2 := h.2.1
    rw [q_X0_joinWhileItSaves_2]
    simp (disch := omega) only [q_X0_joinWhileItSaves_3, q_X0_joinWhileItSaves_5, q_X0_joinWhileItSaves_8, q_X0_joinWhileItSaves_9, nI_add, pI_le, pI_lt, pI_eq, pI_neg, pI_nn, pI_le0, pI_gt0, pI_eq0, xbV_s, xbU_s, if_true, if_false, bI_eq0, Nat.reduceAdd, Nat.reduceSub, Nat.reduceEqDiff, Nat.reduceLeDiff, Nat.reduceLT, Bool.true_eq_false, Bool.false_eq_true, n1]
    by_cases z : sq S = 0
    · have e : ¬ sFind S (sq S - 1) 0 < sq S - 1 := by omega
      refine ⟨I, ?_, zG.rf, by rw [sCmp_s, if_neg e]; exact h⟩
      rw [sCmp_s, if_neg e, q_X0_joinWhileItSaves_10]
      simp (disch := omega) only [q_X0_joinWhileItSaves_11, q_X0_joinWhileItSaves_12, q_X0_joinWhileItSaves_15, q_X0_joinWhileItSaves_18, q_X0_joinWhileItSaves_19, q_X0_joinWhileItSaves_20, q_X0_joinWhileItSaves_23, q_X0_joinWhileItSaves_26, q_X0_joinWhileItSaves_29, q_X0_joinWhileItSaves_32, q_X0_joinWhileItSaves_33, q_X0_joinWhileItSaves_34, q_X0_joinWhileItSaves_37, q_X0_joinWhileItSaves_40, q_X0_joinWhileItSaves_41, q_X0_joinWhileItSaves_42, q_X0_joinWhileItSaves_43, q_X0_joinWhileItSaves_44, q_X0_joinWhileItSaves_47, q_X0_joinWhileItSaves_50, q_X0_joinWhileItSaves_53, q_X0_joinWhileItSaves_55, nI_add, pI_le, pI_lt, pI_eq, pI_neg, pI_nn, pI_le0, pI_gt0, pI_eq0, xbV_s, xbU_s, if_true, if_false, bI_eq0, Nat.reduceAdd, Nat.reduceSub, Nat.reduceEqDiff, Nat.reduceLeDiff, Nat.reduceLT, Bool.true_eq_false, Bool.false_eq_true, a1, h2, z]
      rfl
    · obtain ⟨I1, f1, f2, f3⟩ := s0_jws_i (n := n) (I := I) hA hW (sq S - 1) 0 I (by omega) (by omega) zG.rf h
      have h3 := f3.2.1
      rw [f1]
      by_cases r : sFind S (sq S - 1) 0 < sq S - 1
      · rw [if_pos r]
        have g := sGn_ok (sFind_gn S (sq S - 1) 0 (by omega))
        obtain ⟨I2, j1, j2, j3⟩ := s0_join hA f3 hW g.1
        obtain ⟨I3, m1, m2, m3⟩ := s0_jws_l hA f (n + 1) (some (.int (nI (sFind S (sq S - 1) 0)))) (by omega) j3 (sWF_mrg hW g.1 g.2) (by rw [sMrg_q]; omega)
        have n3 : sFind S (sq S - 1) 0 < sq S := by omega
        refine ⟨I3, ?_, (f2.wd (by omega) (by omega)).tr (j2.tr m2), by rw [sCmp_s, if_pos r]; exact m3⟩
        rw [sCmp_s, if_pos r]
        simp (disch := omega) only [q_X0_joinWhileItSaves_32, q_X0_joinWhileItSaves_33, q_X0_joinWhileItSaves_34, q_X0_joinWhileItSaves_37, q_X0_joinWhileItSaves_40, q_X0_joinWhileItSaves_41, q_X0_joinWhileItSaves_42, q_X0_joinWhileItSaves_43, q_X0_joinWhileItSaves_44, q_X0_joinWhileItSaves_47, q_X0_joinWhileItSaves_50, q_X0_joinWhileItSaves_53, q_X0_joinWhileItSaves_55, nI_add, pI_le, pI_lt, pI_eq, pI_neg, pI_nn, pI_le0, pI_gt0, pI_eq0, xbV_s, xbU_s, if_true, if_false, bI_eq0, Nat.reduceAdd, Nat.reduceSub, Nat.reduceEqDiff, Nat.reduceLeDiff, Nat.reduceLT, Bool.true_eq_false, Bool.false_eq_true, a1, h3, n3, j1]
        rw [m1, show n + 1 + (sCmp f (sMrg S (sFind S (sq S - 1) 0))).2 = n + ((sCmp f (sMrg S (sFind S (sq S - 1) 0))).2 + 1) by omega]
      · rw [if_neg r]
        refine ⟨I1, ?_, f2.wd (by omega) (by omega), by rw [sCmp_s, if_neg r]; exact f3⟩
        rw [sCmp_s, if_neg r]
        simp (disch := omega) only [q_X0_joinWhileItSaves_32, q_X0_joinWhileItSaves_33, q_X0_joinWhileItSaves_34, q_X0_joinWhileItSaves_37, q_X0_joinWhileItSaves_40, q_X0_joinWhileItSaves_41, q_X0_joinWhileItSaves_42, q_X0_joinWhileItSaves_43, q_X0_joinWhileItSaves_44, q_X0_joinWhileItSaves_47, q_X0_joinWhileItSaves_50, q_X0_joinWhileItSaves_53, q_X0_joinWhileItSaves_55, nI_add, pI_le, pI_lt, pI_eq, pI_neg, pI_nn, pI_le0, pI_gt0, pI_eq0, xbV_s, xbU_s, if_true, if_false, bI_eq0, Nat.reduceAdd, Nat.reduceSub, Nat.reduceEqDiff, Nat.reduceLeDiff, Nat.reduceLT, Bool.true_eq_false, Bool.false_eq_true, a1, h3, Nat.lt_irrefl]
        rfl
theorem s0_jws (hA : xCol a) (h : cR I a S) (hW : sWF S) : ∃ I', f_X0_joinWhileItSaves [.ref a] I = some (.inl (some (.int (nI (sCmp 10 S).2))), I') ∧ zG a 9 I I' ∧ cR I' a (sCmp 10 S).1 := by
  have hq := hW.1
  obtain ⟨I', h1, h2, h3⟩ := s0_jws_l hA 10 0 none (by omega) h hW (by omega)
  rw [Nat.zero_add] at h1
  refine ⟨I', ?_, h2, h3⟩
  rw [e_X0_joinWhileItSaves]
  simp only [q_X0_joinWhileItSaves_0, q_X0_joinWhileItSaves_1]
  exact h1
theorem s0_copy {b : Nat} (hA : xCol a) (hB : xCol b) (hab : a + 9 ≤ b ∨ b + 9 ≤ a) (h : cR I b S) (hW : sWF S) : ∃ I', f_X0_copyFrom [.ref a, .ref b] I = some (.inl none, I') ∧ zG a 9 I I' ∧ cR I' a S := by
  have hn := sn_120 hW
  have hq := hW.1
  obtain ⟨a1, a2, a3, a4, a5, a6, a7, a8, a9⟩ := hA
  obtain ⟨b1, b2, b3, b4, b5, b6, b7, b8, b9⟩ := hB
  have k6 := a6.1
  have k7 := a7.1
  have k8 := a8.1
  obtain ⟨h1, h2, h3, h4, h5, h6⟩ := h
  obtain ⟨I1, f1, f2, f3⟩ := s5_cpy (I := I) a6 b6 (by omega) (by omega)
  obtain ⟨I2, g1, g2, g3⟩ := s5_cpy (I := I1) a7 b7 (by omega) (by omega)
  obtain ⟨I3, j1, j2, j3⟩ := s5_cpy (I := I2) a8 b8 (by omega) (by omega)
  have c1 : I3 b = I b := by rw [j2 _ (by omega), g2 _ (by omega), f2 _ (by omega)]
  refine ⟨xup (xup (xup I3 a 4 (I b 4)) a 5 (I b 5)) a 6 (I b 6), ?_, ((((f2.wd (by omega) (by omega)).tr (g2.wd (by omega) (by omega))).tr (j2.wd (by omega) (by omega))).up (by omega) (by omega) |>.up (by omega) (by omega)).up (by omega) (by omega), ?_, ?_, ?_, fun j hj => ?_, fun j hj => ?_, fun j hj => ?_⟩
  · rw [e_X0_copyFrom]
    simp (disch := omega) only [q_X0_copyFrom_0, q_X0_copyFrom_1, q_X0_copyFrom_4, q_X0_copyFrom_5, q_X0_copyFrom_8, q_X0_copyFrom_11, q_X0_copyFrom_12, q_X0_copyFrom_15, q_X0_copyFrom_16, q_X0_copyFrom_19, q_X0_copyFrom_22, q_X0_copyFrom_23, q_X0_copyFrom_26, q_X0_copyFrom_27, q_X0_copyFrom_30, q_X0_copyFrom_33, q_X0_copyFrom_34, q_X0_copyFrom_35, q_X0_copyFrom_38, q_X0_copyFrom_41, q_X0_copyFrom_42, q_X0_copyFrom_43, q_X0_copyFrom_46, q_X0_copyFrom_49, q_X0_copyFrom_50, q_X0_copyFrom_51, q_X0_copyFrom_54, q_X0_copyFrom_57, nI_add, pI_le, pI_lt, pI_eq, pI_neg, pI_nn, pI_le0, pI_gt0, pI_eq0, xbV_s, xbU_s, if_true, if_false, bI_eq0, Nat.reduceAdd, Nat.reduceSub, Nat.reduceEqDiff, Nat.reduceLeDiff, Nat.reduceLT, Bool.true_eq_false, Bool.false_eq_true, a1, a2, a3, a4, b1, b2, b3, b4, f1, g1, j1, c1, xup_o]
  · rw [xup_d (by omega), xup_d (by omega), xup_s]; exact h1
  · rw [xup_d (by omega), xup_s]; exact h2
  · rw [xup_s]; exact h3
  · rw [xup_o (by omega), xup_o (by omega), xup_o (by omega), j2 _ (by omega), g2 _ (by omega), f3 j (by omega)]; exact h4 j hj
  · rw [xup_o (by omega), xup_o (by omega), xup_o (by omega), j2 _ (by omega), g3 j (by omega), f2 _ (by omega)]; exact h5 j hj
  · rw [xup_o (by omega), xup_o (by omega), xup_o (by omega), j3 j (by omega), g2 _ (by omega), f2 _ (by omega)]; exact h6 j hj
end PG
end P30
