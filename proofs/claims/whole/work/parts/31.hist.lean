/-! ===== what is remembered ===== -/
section P31
def mC (f : Nat → Int32) (S : cS) : Prop := f 0 = nI (sq S) ∧ f 1 = nI (sm S) ∧ (∀ p, p < sq S → f (2 + p) = nI (sl S p)) ∧ (∀ p, p < sq S → f (12 + p) = nI (sp S p)) ∧ (∀ j, j < sn S → f (22 + j) = nI (sv S j))
theorem mC.cg {f g : Nat → Int32} {S : cS} (hW : sWF S) (h : mC f S) (e : ∀ k, k < 142 → g k = f k) : mC g S := by
  have hn := sn_120 hW
  have hq := hW.1
  obtain ⟨h1, h2, h3, h4, h5⟩ := h
  exact ⟨by rw [e 0 (by omega)]; exact h1, by rw [e 1 (by omega)]; exact h2, fun p hp => by rw [e _ (by omega)]; exact h3 p hp, fun p hp => by rw [e _ (by omega)]; exact h4 p hp, fun p hp => by rw [e _ (by omega)]; exact h5 p hp⟩
theorem mR.c {I : xMem} {m : Nat} {S : cS} (h : mR I m S) : mC (I m) S := h.2.2
theorem mC.r {I : xMem} {m : Nat} {S : cS} (h1 : xK m = 10) (h2 : xL m = 142) (h : mC (I m) S) : mR I m S := ⟨h1, h2, h⟩
theorem mR.cg {I I' : xMem} {m : Nat} {S : cS} (h : mR I m S) (e : I' m = I m) : mR I' m S := by
  unfold mR
  rw [e]
  exact h
theorem s9_cpc_l {f fa t ta : Nat} {I : xMem} (k1 : xK f = 10) (k2 : xK t = 10) (l1 : fa + 142 ≤ xL f) (l2 : ta + 142 ≤ xL t) (hne : f ≠ t) (hf : fa < 5000) (ht : ta < 5000) : ∀ d k (I1 : xMem), k + d = 142 → xO t I I1 → (∀ j, j < k → I1 t (ta + j) = I f (fa + j)) → (∀ j, j < ta ∨ ta + 142 ≤ j → I1 t j = I t j) → ∃ I', xgo k_X9_copyColumn 3 [some (.ref f), some (.int (nI fa)), some (.ref t), some (.int (nI ta)), some (.int (nI k))] [] I1 = some (.inl none, I') ∧ xO t I I' ∧ (∀ j, j < 142 → I' t (ta + j) = I f (fa + j)) ∧ (∀ j, j < ta ∨ ta + 142 ≤ j → I' t j = I t j) := by
  intro d
  induction d with
  | zero =>
    intro k I1 hk hO h1 h2
    have e : k = 142 := by omega
    subst e
    refine ⟨I1, ?_, hO, h1, h2⟩
    rw [q_X9_copyColumn_3]
    simp (disch := omega) only [q_X9_copyColumn_0, q_X9_copyColumn_1, q_X9_copyColumn_5, q_X9_copyColumn_8, q_X9_copyColumn_11, q_X9_copyColumn_12, q_X9_copyColumn_13, q_X9_copyColumn_15, q_X9_copyColumn_16, q_X9_copyColumn_17, q_X9_copyColumn_18, q_X9_copyColumn_20, q_X9_copyColumn_21, q_X9_copyColumn_22, q_X9_copyColumn_23, q_X9_copyColumn_26, q_X9_copyColumn_29, nI_add, pI_le, pI_lt, pI_eq, pI_neg, pI_nn, pI_le0, pI_gt0, pI_eq0, xbV_s, xbU_s, if_true, if_false, bI_eq0, Nat.reduceAdd, Nat.reduceSub, Nat.reduceEqDiff, Nat.reduceLeDiff, Nat.reduceLT, Bool.true_eq_false, Bool.false_eq_true, Nat.le_refl]
  | succ d ih =>
    intro k I1 hk hO h1 h2
    have n1 : ¬ 142 ≤ k := by omega
    have e1 : I1 f = I f := hO f hne
    obtain ⟨I', h3, h4, h5, h6⟩ := ih (k + 1) (xup I1 t (ta + k) (I f (fa + k))) (by omega) hO.up (fun j hj => by
      by_cases e : j = k
      · subst e; rw [xup_s]
      · rw [xup_d (by omega)]; exact h1 j (by omega)) (fun j hj => by rw [xup_d (by omega)]; exact h2 j hj)
    refine ⟨I', ?_, h4, h5, h6⟩
    rw [q_X9_copyColumn_3]
    simp (disch := omega) only [q_X9_copyColumn_0, q_X9_copyColumn_1, q_X9_copyColumn_5, q_X9_copyColumn_8, q_X9_copyColumn_11, q_X9_copyColumn_12, q_X9_copyColumn_13, q_X9_copyColumn_15, q_X9_copyColumn_16, q_X9_copyColumn_17, q_X9_copyColumn_18, q_X9_copyColumn_20, q_X9_copyColumn_21, q_X9_copyColumn_22, q_X9_copyColumn_23, q_X9_copyColumn_26, q_X9_copyColumn_29, nI_add, pI_le, pI_lt, pI_eq, pI_neg, pI_nn, pI_le0, pI_gt0, pI_eq0, xbV_s, xbU_s, if_true, if_false, bI_eq0, Nat.reduceAdd, Nat.reduceSub, Nat.reduceEqDiff, Nat.reduceLeDiff, Nat.reduceLT, Bool.true_eq_false, Bool.false_eq_true, n1, k1, k2, e1]
    exact h3
theorem s9_cpc {f fa t ta : Nat} {I : xMem} (k1 : xK f = 10) (k2 : xK t = 10) (l1 : fa + 142 ≤ xL f) (l2 : ta + 142 ≤ xL t) (hne : f ≠ t) (hf : fa < 5000) (ht : ta < 5000) : ∃ I', f_X9_copyColumn [.ref f, .int (nI fa), .ref t, .int (nI ta)] I = some (.inl none, I') ∧ xO t I I' ∧ (∀ j, j < 142 → I' t (ta + j) = I f (fa + j)) ∧ (∀ j, j < ta ∨ ta + 142 ≤ j → I' t j = I t j) := by
  obtain ⟨I', h3, h4, h5, h6⟩ := s9_cpc_l (I := I) k1 k2 l1 l2 hne hf ht 142 0 I (by omega) xO.rf (fun j hj => absurd hj (Nat.not_lt_zero _)) (fun j _ => rfl)
  refine ⟨I', ?_, h4, h5, h6⟩
  rw [e_X9_copyColumn]
  simp (disch := omega) only [q_X9_copyColumn_0, q_X9_copyColumn_1, q_X9_copyColumn_5, q_X9_copyColumn_8, q_X9_copyColumn_11, q_X9_copyColumn_12, q_X9_copyColumn_13, q_X9_copyColumn_15, q_X9_copyColumn_16, q_X9_copyColumn_17, q_X9_copyColumn_18, q_X9_copyColumn_20, q_X9_copyColumn_21, q_X9_copyColumn_22, q_X9_copyColumn_23, q_X9_copyColumn_26, q_X9_copyColumn_29, nI_add, pI_le, pI_lt, pI_eq, pI_neg, pI_nn, pI_le0, pI_gt0, pI_eq0, xbV_s, xbU_s, if_true, if_false, bI_eq0, Nat.reduceAdd, Nat.reduceSub, Nat.reduceEqDiff, Nat.reduceLeDiff, Nat.reduceLT, Bool.true_eq_false, Bool.false_eq_true]
  exact h3
/-- the row of states, and one more -/
def hpH (H : Nat → cS) (A : Nat) (S : cS) : Nat → cS := if A < 14 then (fun i => if i = A then S else H i) else (fun i => if i < 13 then H (i + 1) else S)
def hpA (A : Nat) : Nat := if A < 14 then A + 1 else 14
theorem hpA_le (A : Nat) : hpA A ≤ 14 := by unfold hpA; split <;> omega
theorem hp_wf {H : Nat → cS} {A : Nat} {S : cS} (hA : A ≤ 14) (hH : ∀ i, i < A → sWF (H i)) (hW : sWF S) : ∀ i, i < hpA A → sWF (hpH H A S i) := by
  intro i hi
  unfold hpA at hi
  unfold hpH
  by_cases e : A < 14
  · rw [if_pos e] at hi ⊢
    try dsimp only
    split
    · exact hW
    · exact hH i (by omega)
  · rw [if_neg e] at hi ⊢
    try dsimp only
    split
    · exact hH _ (by omega)
    · exact hW
def mH (I : xMem) (H : Nat → cS) (A : Nat) : Prop := I 189 8 = nI A ∧ A ≤ 14 ∧ ∀ i, i < A → mC (fun k => I 194 (142 * i + k)) (H i)
theorem x189 : xK 189 = 9 := by decide
theorem x191 : xK 191 = 10 := by decide
theorem x192 : xK 192 = 10 := by decide
theorem x193 : xK 193 = 10 := by decide
theorem x194 : xK 194 = 10 := by decide
theorem x195 : xK 195 = 10 := by decide
theorem l191 : xL 191 = 142 := by decide
theorem l192 : xL 192 = 142 := by decide
theorem l193 : xL 193 = 142 := by decide
theorem l194 : xL 194 = 1988 := by decide
theorem l195 : xL 195 = 284 := by decide
theorem r9_4 : xR 189 4 = 191 := by decide
theorem r9_5 : xR 189 5 = 192 := by decide
theorem r9_6 : xR 189 6 = 193 := by decide
theorem r9_7 : xR 189 7 = 194 := by decide
theorem r9_9 : xR 189 9 = 195 := by decide
theorem s9_rem_sh {I : xMem} : ∀ d k (I1 : xMem), k + d = 1846 → xO 194 I I1 → (∀ j, j < 1988 → I1 194 j = if j < k then I 194 (j + 142) else I 194 j) → ∃ I' l, xgo k_X9_remember 11 [some (.ref 189), some (.int (nI k))] [] I1 = xgo k_X9_remember 40 [some (.ref 189), l] [] I' ∧ xO 194 I I' ∧ (∀ j, j < 1846 → I' 194 j = I 194 (j + 142)) := by
  have x9 := x189
  have x4 := x194
  have l4 := l194
  intro d
  induction d with
  | zero =>
    intro k I1 hk hO h1
    have e : k = 1846 := by omega
    subst e
    refine ⟨I1, some (.int (nI 1846)), ?_, hO, fun j hj => by rw [h1 j (by omega), if_pos hj]⟩
    rw [q_X9_remember_11]
    simp (disch := omega) only [q_X9_remember_12, q_X9_remember_15, q_X9_remember_18, q_X9_remember_19, q_X9_remember_22, q_X9_remember_23, q_X9_remember_24, q_X9_remember_27, q_X9_remember_28, q_X9_remember_31, q_X9_remember_32, q_X9_remember_33, q_X9_remember_34, q_X9_remember_37, nI_add, pI_le, pI_lt, pI_eq, pI_neg, pI_nn, pI_le0, pI_gt0, pI_eq0, xbV_s, xbU_s, if_true, if_false, bI_eq0, Nat.reduceAdd, Nat.reduceSub, Nat.reduceEqDiff, Nat.reduceLeDiff, Nat.reduceLT, Bool.true_eq_false, Bool.false_eq_true, Nat.le_refl]
  | succ d ih =>
    intro k I1 hk hO h1
    have n1 : ¬ 1846 ≤ k := by omega
    have g := h1 (k + 142) (by omega)
    rw [if_neg (by omega)] at g
    obtain ⟨I', l, h3, h4, h5⟩ := ih (k + 1) (xup I1 194 k (I 194 (k + 142))) (by omega) hO.up (fun j hj => by
      by_cases e : j = k
      · subst e; rw [xup_s, if_pos (by omega)]
      · rw [xup_d e, h1 j hj]
        by_cases e2 : j < k
        · rw [if_pos e2, if_pos (by omega)]
        · rw [if_neg e2, if_neg (by omega)])
    refine ⟨I', l, ?_, h4, h5⟩
    rw [q_X9_remember_11]
    simp (disch := omega) only [q_X9_remember_12, q_X9_remember_15, q_X9_remember_18, q_X9_remember_19, q_X9_remember_22, q_X9_remember_23, q_X9_remember_24, q_X9_remember_27, q_X9_remember_28, q_X9_remember_31, q_X9_remember_32, q_X9_remember_33, q_X9_remember_34, q_X9_remember_37, nI_add, pI_le, pI_lt, pI_eq, pI_neg, pI_nn, pI_le0, pI_gt0, pI_eq0, xbV_s, xbU_s, if_true, if_false, bI_eq0, Nat.reduceAdd, Nat.reduceSub, Nat.reduceEqDiff, Nat.reduceLeDiff, Nat.reduceLT, Bool.true_eq_false, Bool.false_eq_true, n1, x9, x4, l4, r9_7, g]
    exact h3
theorem s9_rem_b {A : Nat} {l : Option Value} {I : xMem} (h8 : I 189 8 = nI A) (hA : A ≤ 13) : ∃ I', xgo k_X9_remember 50 [some (.ref 189), l] [] I = some (.inl none, I') ∧ (∀ c, c ≠ 189 → c ≠ 194 → I' c = I c) ∧ (∀ c, c ≠ 8 → I' 189 c = I 189 c) ∧ I' 189 8 = nI (A + 1) ∧ (∀ j, j < 142 → I' 194 (142 * A + j) = I 191 j) ∧ (∀ j, j < 142 * A → I' 194 j = I 194 j) := by
  have x9 := x189
  have l4 := l194
  have l1 := l191
  obtain ⟨I1, h1, h2, h3, h4⟩ := s9_cpc (I := I) (f := 191) (fa := 0) (t := 194) (ta := 142 * A) x191 x194 (by omega) (by omega) (by omega) (by omega) (by omega)
  have e1 : I1 189 = I 189 := h2 189 (by omega)
  refine ⟨xup I1 189 8 (nI (A + 1)), ?_, fun c h5 h6 => by rw [xup_o h5]; exact h2 c h6, fun c hc => by rw [xup_d hc, e1], by rw [xup_s], fun j hj => ?_, fun j hj => ?_⟩
  · simp (disch := omega) only [q_X9_remember_50, q_X9_remember_51, q_X9_remember_54, q_X9_remember_55, q_X9_remember_56, q_X9_remember_59, q_X9_remember_62, q_X9_remember_63, q_X9_remember_66, q_X9_remember_67, q_X9_remember_70, q_X9_remember_71, q_X9_remember_72, q_X9_remember_75, q_X9_remember_76, q_X9_remember_77, q_X9_remember_80, nI_add, pI_le, pI_lt, pI_eq, pI_neg, pI_nn, pI_le0, pI_gt0, pI_eq0, xbV_s, xbU_s, if_true, if_false, bI_eq0, Nat.reduceAdd, Nat.reduceSub, Nat.reduceEqDiff, Nat.reduceLeDiff, Nat.reduceLT, Bool.true_eq_false, Bool.false_eq_true, x9, r9_4, r9_7, h8, pk_mul, h1, e1]
  · rw [xup_o (by omega), h3 j hj, Nat.zero_add]
  · rw [xup_o (by omega)]; exact h4 j (by omega)
theorem s9_remember {H : Nat → cS} {A : Nat} {S : cS} {I : xMem} (h : mR I 191 S) (hW : sWF S) (hH : mH I H A) (hWH : ∀ i, i < A → sWF (H i)) : ∃ I', f_X9_remember [.ref 189] I = some (.inl none, I') ∧ (∀ c, c ≠ 189 → c ≠ 194 → I' c = I c) ∧ (∀ c, c ≠ 8 → I' 189 c = I 189 c) ∧ mH I' (hpH H A S) (hpA A) := by
  have x9 := x189
  obtain ⟨h1, h2, h3⟩ := hH
  by_cases q : A < 14
  · obtain ⟨I', f1, f2, f3, f4, f5, f6⟩ := s9_rem_b (l := none) h1 (by omega)
    have n1 : ¬ A = 14 := by omega
    refine ⟨I', ?_, f2, f3, ?_, hpA_le A, fun i hi => ?_⟩
    · rw [e_X9_remember]
      simp (disch := omega) only [q_X9_remember_0, q_X9_remember_1, q_X9_remember_4, q_X9_remember_6, q_X9_remember_9, nI_add, pI_le, pI_lt, pI_eq, pI_neg, pI_nn, pI_le0, pI_gt0, pI_eq0, xbV_s, xbU_s, if_true, if_false, bI_eq0, Nat.reduceAdd, Nat.reduceSub, Nat.reduceEqDiff, Nat.reduceLeDiff, Nat.reduceLT, Bool.true_eq_false, Bool.false_eq_true, x9, h1, n1]
      exact f1
    · unfold hpA; rw [if_pos q]; exact f4
    · unfold hpA at hi
      unfold hpH
      rw [if_pos q] at hi ⊢
      try dsimp only
      by_cases e : i = A
      · rw [if_pos e]
        subst e
        exact mC.cg hW h.c (fun k hk => f5 k hk)
      · rw [if_neg e]
        exact mC.cg (hWH i (by omega)) (h3 i (by omega)) (fun k hk => f6 _ (by omega))
  · have e : A = 14 := by omega
    subst e
    obtain ⟨I1, l, g1, g2, g3⟩ := s9_rem_sh (I := I) 1846 0 I (by omega) xO.rf (fun j hj => by rw [if_neg (by omega)])
    have e1 : I1 189 = I 189 := g2 189 (by omega)
    have e2 : nI 14 - nI 1 = nI 13 := by decide
    obtain ⟨I', f1, f2, f3, f4, f5, f6⟩ := s9_rem_b (A := 13) (l := l) (I := xup I1 189 8 (nI 13)) (by rw [xup_s]) (by omega)
    refine ⟨I', ?_, fun c h5 h6 => by rw [f2 c h5 h6, xup_o h5]; exact g2 c h6, fun c hc => by rw [f3 c hc, xup_d hc, e1], ?_, hpA_le 14, fun i hi => ?_⟩
    · rw [e_X9_remember]
      simp (disch := omega) only [q_X9_remember_0, q_X9_remember_1, q_X9_remember_4, q_X9_remember_6, q_X9_remember_9, q_X9_remember_10, nI_add, pI_le, pI_lt, pI_eq, pI_neg, pI_nn, pI_le0, pI_gt0, pI_eq0, xbV_s, xbU_s, if_true, if_false, bI_eq0, Nat.reduceAdd, Nat.reduceSub, Nat.reduceEqDiff, Nat.reduceLeDiff, Nat.reduceLT, Bool.true_eq_false, Bool.false_eq_true, x9, h1]
      rw [g1]
      simp (disch := omega) only [q_X9_remember_40, q_X9_remember_41, q_X9_remember_42, q_X9_remember_45, q_X9_remember_46, q_X9_remember_47, nI_add, pI_le, pI_lt, pI_eq, pI_neg, pI_nn, pI_le0, pI_gt0, pI_eq0, xbV_s, xbU_s, if_true, if_false, bI_eq0, Nat.reduceAdd, Nat.reduceSub, Nat.reduceEqDiff, Nat.reduceLeDiff, Nat.reduceLT, Bool.true_eq_false, Bool.false_eq_true, x9, e1, h1, e2]
      exact f1
    · exact f4
    · unfold hpA at hi
      unfold hpH
      rw [if_neg (by omega)] at hi ⊢
      try dsimp only
      by_cases e : i < 13
      · rw [if_pos e]
        refine mC.cg (hWH (i + 1) (by omega)) (h3 (i + 1) (by omega)) (fun k hk => ?_)
        rw [f6 _ (by omega), xup_o (by omega), g3 _ (by omega)]
        rw [show 142 * i + k + 142 = 142 * (i + 1) + k by omega]
      · rw [if_neg e]
        have e3 : i = 13 := by omega
        subst e3
        refine mC.cg hW h.c (fun k hk => ?_)
        rw [f5 k hk, xup_o (by omega), g2 _ (by omega)]
/-- a shelf h of n columns from b on -/
def xShf (h n b : Nat) : Prop := xK h = 7 ∧ xR h 0 = h + 1 ∧ xR h 1 = h + 2 ∧ xK (h + 1) = 13 ∧ xL (h + 1) = n ∧ (∀ i, i < n → xR (h + 1) i = b + 9 * i) ∧ xRow (h + 2) n ∧ n < 100
theorem xShf_h : xShf 174 14 19 := by
  refine ⟨by decide, by decide, by decide, by decide, by decide, by decide, ⟨by decide, by decide, by decide, by decide, by decide⟩, by decide⟩
theorem xShf_s : xShf 178 2 145 := by
  refine ⟨by decide, by decide, by decide, by decide, by decide, by decide, ⟨by decide, by decide, by decide, by decide, by decide⟩, by decide⟩
theorem xCol_i {a : Nat} (h : xK a = 0 ∧ xR a 0 = a + 1 ∧ xR a 1 = a + 3 ∧ xR a 2 = a + 5 ∧ xR a 3 = a + 7 ∧ (xK (a + 1) = 5 ∧ xR (a + 1) 0 = a + 2 ∧ xK (a + 2) = 10 ∧ xL (a + 2) = 120) ∧ (xK (a + 3) = 5 ∧ xR (a + 3) 0 = a + 4 ∧ xK (a + 4) = 10 ∧ xL (a + 4) = 10) ∧ (xK (a + 5) = 5 ∧ xR (a + 5) 0 = a + 6 ∧ xK (a + 6) = 10 ∧ xL (a + 6) = 10) ∧ (xK (a + 7) = 2 ∧ xR (a + 7) 0 = a + 8 ∧ xK (a + 8) = 10 ∧ xL (a + 8) = 12)) : xCol a := by
  obtain ⟨h1, h2, h3, h4, h5, ⟨p1, p2, p3, p4⟩, ⟨q1, q2, q3, q4⟩, ⟨r1, r2, r3, r4⟩, ⟨s1, s2, s3, s4⟩⟩ := h
  exact ⟨h1, h2, h3, h4, h5, ⟨p1, p2, p3, p4, by omega⟩, ⟨q1, q2, q3, q4, by omega⟩, ⟨r1, r2, r3, r4, by omega⟩, ⟨s1, s2, s3, s4⟩⟩
theorem xCol_at : ∀ j, j < 18 → xCol (1 + 9 * j) := by
  intro j hj
  apply xCol_i
  have : ∀ j, j < 18 → (xK (1 + 9 * j) = 0 ∧ xR (1 + 9 * j) 0 = (1 + 9 * j) + 1 ∧ xR (1 + 9 * j) 1 = (1 + 9 * j) + 3 ∧ xR (1 + 9 * j) 2 = (1 + 9 * j) + 5 ∧ xR (1 + 9 * j) 3 = (1 + 9 * j) + 7 ∧ (xK ((1 + 9 * j) + 1) = 5 ∧ xR ((1 + 9 * j) + 1) 0 = (1 + 9 * j) + 2 ∧ xK ((1 + 9 * j) + 2) = 10 ∧ xL ((1 + 9 * j) + 2) = 120) ∧ (xK ((1 + 9 * j) + 3) = 5 ∧ xR ((1 + 9 * j) + 3) 0 = (1 + 9 * j) + 4 ∧ xK ((1 + 9 * j) + 4) = 10 ∧ xL ((1 + 9 * j) + 4) = 10) ∧ (xK ((1 + 9 * j) + 5) = 5 ∧ xR ((1 + 9 * j) + 5) 0 = (1 + 9 * j) + 6 ∧ xK ((1 + 9 * j) + 6) = 10 ∧ xL ((1 + 9 * j) + 6) = 10) ∧ (xK ((1 + 9 * j) + 7) = 2 ∧ xR ((1 + 9 * j) + 7) 0 = (1 + 9 * j) + 8 ∧ xK ((1 + 9 * j) + 8) = 10 ∧ xL ((1 + 9 * j) + 8) = 12)) := by decide +kernel
  exact this j hj
theorem xCol_1 : xCol 1 := xCol_at 0 (by omega)
theorem xCol_10 : xCol 10 := xCol_at 1 (by omega)
theorem xCol_202 : xCol 202 := by
  apply xCol_i
  decide +kernel
theorem xCol_h {i : Nat} (hi : i < 14) : xCol (19 + 9 * i) := by
  have := xCol_at (2 + i) (by omega)
  rw [show 1 + 9 * (2 + i) = 19 + 9 * i by omega] at this
  exact this
theorem xCol_s {i : Nat} (hi : i < 2) : xCol (145 + 9 * i) := by
  have := xCol_at (16 + i) (by omega)
  rw [show 1 + 9 * (16 + i) = 145 + 9 * i by omega] at this
  exact this
theorem s7_at {h n b i : Nat} {I : xMem} (hh : xShf h n b) (hi : i < n) : f_X7_columnAt [.ref h, .int (nI i)] I = some (.inl (some (.ref (b + 9 * i))), I) := by
  obtain ⟨h1, h2, h3, h4, h5, h6, h7, h8⟩ := hh
  have n1 : ¬ n ≤ i := by omega
  have e := h6 i hi
  rw [e_X7_columnAt]
  simp (disch := omega) only [q_X7_columnAt_0, q_X7_columnAt_1, q_X7_columnAt_4, q_X7_columnAt_5, q_X7_columnAt_6, q_X7_columnAt_9, q_X7_columnAt_10, q_X7_columnAt_13, q_X7_columnAt_14, q_X7_columnAt_17, q_X7_columnAt_18, q_X7_columnAt_19, q_X7_columnAt_22, q_X7_columnAt_23_n, q_X7_columnAt_23, nI_add, pI_le, pI_lt, pI_eq, pI_neg, pI_nn, pI_le0, pI_gt0, pI_eq0, xbV_s, xbU_s, if_true, if_false, bI_eq0, Nat.reduceAdd, Nat.reduceSub, Nat.reduceEqDiff, Nat.reduceLeDiff, Nat.reduceLT, Bool.true_eq_false, Bool.false_eq_true, h1, h2, h4, h5, n1, e]
theorem s7_store {h n b i a : Nat} {S : cS} {I : xMem} (hh : xShf h n b) (hi : i < n) (hA : xCol a) (hB : xCol (b + 9 * i)) (hab : a + 9 ≤ b + 9 * i ∨ b + 9 * i + 9 ≤ a) (hd : h + 4 ≤ b + 9 * i ∨ b + 9 * i + 9 ≤ h) (hR : cR I a S) (hW : sWF S) : ∃ I', f_X7_store [.ref h, .int (nI i), .ref a] I = some (.inl none, I') ∧ (∀ c, c < b + 9 * i ∨ b + 9 * i + 9 ≤ c → c ≠ h + 2 + 1 → I' c = I c) ∧ cR I' (b + 9 * i) S ∧ I' (h + 2 + 1) i = nI 1 ∧ (∀ j, j ≠ i → I' (h + 2 + 1) j = I (h + 2 + 1) j) := by
  have hat := s7_at (I := I) hh hi
  obtain ⟨I1, f1, f2, f3⟩ := s0_copy hB hA (by omega) hR hW
  obtain ⟨h1, h2, h3, h4, h5, h6, h7, h8⟩ := hh
  have k7 := h7.1
  have kb := hB.1
  refine ⟨xup I1 (h + 2 + 1) i (nI 1), ?_, fun c hc hc2 => by rw [xup_o hc2]; exact f2 c hc, f3.cg (fun c h9 h10 => by rw [xup_o (by omega)]), by rw [xup_s], fun j hj => by rw [xup_d hj, f2 _ (by omega)]⟩
  rw [e_X7_store]
  simp (disch := omega) only [q_X7_store_0, q_X7_store_1, q_X7_store_2, q_X7_store_5_n, q_X7_store_5, q_X7_store_6_n, q_X7_store_6, q_X7_store_7_n, q_X7_store_7, q_X7_store_10_n, q_X7_store_10, q_X7_store_11, q_X7_store_12, q_X7_store_15, q_X7_store_16, q_X7_store_19, q_X7_store_20, q_X7_store_21, q_X7_store_24, nI_add, pI_le, pI_lt, pI_eq, pI_neg, pI_nn, pI_le0, pI_gt0, pI_eq0, xbV_s, xbU_s, if_true, if_false, bI_eq0, Nat.reduceAdd, Nat.reduceSub, Nat.reduceEqDiff, Nat.reduceLeDiff, Nat.reduceLT, Bool.true_eq_false, Bool.false_eq_true, h1, h3, hat, kb, f1, s_set h7]
theorem s7_fetch {h n b i a : Nat} {S : cS} {I : xMem} (hh : xShf h n b) (hi : i < n) (hA : xCol a) (hB : xCol (b + 9 * i)) (hab : a + 9 ≤ b + 9 * i ∨ b + 9 * i + 9 ≤ a) (hR : cR I (b + 9 * i) S) (hW : sWF S) : ∃ I', f_X7_fetch [.ref h, .int (nI i), .ref a] I = some (.inl none, I') ∧ zG a 9 I I' ∧ cR I' a S := by
  have hat := s7_at (I := I) hh hi
  obtain ⟨I1, f1, f2, f3⟩ := s0_copy hA hB hab hR hW
  have h1 := hh.1
  have ka := hA.1
  refine ⟨I1, ?_, f2, f3⟩
  rw [e_X7_fetch]
  simp (disch := omega) only [q_X7_fetch_0, q_X7_fetch_1, q_X7_fetch_2, q_X7_fetch_5_n, q_X7_fetch_5, q_X7_fetch_6_n, q_X7_fetch_6, q_X7_fetch_7_n, q_X7_fetch_7, q_X7_fetch_10, q_X7_fetch_11_n, q_X7_fetch_11, q_X7_fetch_12, q_X7_fetch_15, nI_add, pI_le, pI_lt, pI_eq, pI_neg, pI_nn, pI_le0, pI_gt0, pI_eq0, xbV_s, xbU_s, if_true, if_false, bI_eq0, Nat.reduceAdd, Nat.reduceSub, Nat.reduceEqDiff, Nat.reduceLeDiff, Nat.reduceLT, Bool.true_eq_false, Bool.false_eq_true, h1, hat, ka, f1]
theorem s7_filled {h n b i x : Nat} {I : xMem} (hh : xShf h n b) (hi : i < n) (hx : I (h + 2 + 1) i = nI x) (hx1 : x ≤ 1) : f_X7_isFilled [.ref h, .int (nI i)] I = some (.inl (some (.int (nI x))), I) := by
  obtain ⟨h1, h2, h3, h4, h5, h6, h7, h8⟩ := hh
  have k7 := h7.1
  rw [e_X7_isFilled]
  by_cases e : x = 1
  · subst e
    simp (disch := omega) only [q_X7_isFilled_0, q_X7_isFilled_1, q_X7_isFilled_4, q_X7_isFilled_5, q_X7_isFilled_8, q_X7_isFilled_9, q_X7_isFilled_12, q_X7_isFilled_13, q_X7_isFilled_16, q_X7_isFilled_17_b, q_X7_isFilled_17_0, q_X7_isFilled_17_1, nI_add, pI_le, pI_lt, pI_eq, pI_neg, pI_nn, pI_le0, pI_gt0, pI_eq0, xbV_s, xbU_s, if_true, if_false, bI_eq0, Nat.reduceAdd, Nat.reduceSub, Nat.reduceEqDiff, Nat.reduceLeDiff, Nat.reduceLT, Bool.true_eq_false, Bool.false_eq_true, h1, h3, s_get h7, hx]
  · have e0 : x = 0 := by omega
    subst e0
    simp (disch := omega) only [q_X7_isFilled_0, q_X7_isFilled_1, q_X7_isFilled_4, q_X7_isFilled_5, q_X7_isFilled_8, q_X7_isFilled_9, q_X7_isFilled_12, q_X7_isFilled_13, q_X7_isFilled_16, q_X7_isFilled_17_b, q_X7_isFilled_17_0, q_X7_isFilled_17_1, nI_add, pI_le, pI_lt, pI_eq, pI_neg, pI_nn, pI_le0, pI_gt0, pI_eq0, xbV_s, xbU_s, if_true, if_false, bI_eq0, Nat.reduceAdd, Nat.reduceSub, Nat.reduceEqDiff, Nat.reduceLeDiff, Nat.reduceLT, Bool.true_eq_false, Bool.false_eq_true, h1, h3, s_get h7, hx]
def cH (I : xMem) (H : Nat → cS) (A : Nat) : Prop := I 173 2 = nI A ∧ A ≤ 14 ∧ ∃ n, n < 14 ∧ I 173 1 = nI n ∧ ∀ i, i < A → cR I (19 + 9 * ((n + 14 - A + i) % 14)) (H i)
theorem cH.cg {I I' : xMem} {H : Nat → cS} {A : Nat} (h : cH I H A) (e : ∀ c, 19 ≤ c → c < 145 → I' c = I c) (e2 : I' 173 = I 173) : cH I' H A := by
  obtain ⟨h1, h2, n, h3, h4, h5⟩ := h
  refine ⟨by rw [e2]; exact h1, h2, n, h3, by rw [e2]; exact h4, fun i hi => (h5 i hi).cg (fun c h6 h7 => e c (by omega) ?_)⟩
  have : (n + 14 - A + i) % 14 < 14 := Nat.mod_lt _ (by decide)
  omega
theorem x173 : xK 173 = 1 := by decide
theorem r173 : xR 173 0 = 174 := by decide
theorem x174 : xK 174 = 7 := by decide
theorem s1_remember {H : Nat → cS} {A : Nat} {S : cS} {I : xMem} (h : cR I 1 S) (hW : sWF S) (hH : cH I H A) : ∃ I', f_X1_remember [.ref 173, .ref 1] I = some (.inl none, I') ∧ (∀ c, c < 19 ∨ 145 ≤ c → c ≠ 173 → c ≠ 177 → I' c = I c) ∧ cH I' (hpH H A S) (hpA A) := by
  have x3 := x173
  have x4 := x174
  have x1 : xK 1 = 0 := by decide
  obtain ⟨h1, h2, n, h3, h4, h5⟩ := hH
  obtain ⟨I1, f1, f2, f3, f4, f5⟩ := s7_store (I := I) xShf_h h3 xCol_1 (xCol_h h3) (by omega) (by omega) h hW
  have e1 : I1 173 = I 173 := f2 173 (by omega) (by omega)
  have e3 : min 14 (A + 1) = hpA A := by unfold hpA; split <;> omega
  refine ⟨xup (xup I1 173 1 (nI ((n + 1) % 14))) 173 2 (nI (hpA A)), ?_, fun c hc h6 h7 => by rw [xup_o h6, xup_o h6]; exact f2 c (by omega) (by omega), ?_, hpA_le A, (n + 1) % 14, Nat.mod_lt _ (by decide), ?_, fun i hi => ?_⟩
  · have pm : (if 14 < A + 1 then nI 14 else nI (A + 1)) = nI (hpA A) := by
      rw [← e3]
      by_cases q : 14 < A + 1
      · rw [if_pos q, Nat.min_eq_left (by omega)]
      · rw [if_neg q, Nat.min_eq_right (by omega)]
    have n14 : ¬ nI 14 = 0 := by decide
    rw [e_X1_remember]
    simp (disch := first | omega | assumption) only [q_X1_remember_0, q_X1_remember_1, q_X1_remember_4, q_X1_remember_5, q_X1_remember_8, q_X1_remember_9, q_X1_remember_12, q_X1_remember_13, q_X1_remember_14, q_X1_remember_17, q_X1_remember_18, q_X1_remember_19, q_X1_remember_21, q_X1_remember_22, q_X1_remember_25, q_X1_remember_26, q_X1_remember_27, q_X1_remember_30, q_X1_remember_31, q_X1_remember_32, q_X1_remember_34, q_X1_remember_37, q_X1_remember_40, nI_add, pI_le, pI_lt, pI_eq, pI_neg, pI_nn, pI_le0, pI_gt0, pI_eq0, xbV_s, xbU_s, if_true, if_false, bI_eq0, Nat.reduceAdd, Nat.reduceSub, Nat.reduceEqDiff, Nat.reduceLeDiff, Nat.reduceLT, Bool.true_eq_false, Bool.false_eq_true, x3, r173, x4, h4, f1, e1, pk_rem, xup_d, h1, pm]
  · rw [xup_s]
  · rw [xup_d (by omega), xup_s]
  · have m1 : ((n + 1) % 14 + 14 - hpA A + i) % 14 < 14 := Nat.mod_lt _ (by decide)
    refine cR.cg (I := I1) ?_ (fun c h6 h7 => by rw [xup_o (by omega), xup_o (by omega)])
    unfold hpA at hi m1 ⊢
    unfold hpH
    by_cases q : A < 14
    · rw [if_pos q] at hi m1 ⊢
      rw [if_pos q]
      try dsimp only
      have e4 : ((n + 1) % 14 + 14 - (A + 1) + i) % 14 = (n + 14 - A + i) % 14 := by omega
      rw [e4]
      by_cases e : i = A
      · rw [if_pos e, show (n + 14 - A + i) % 14 = n by omega]
        exact f3
      · rw [if_neg e]
        refine (h5 i (by omega)).cg (fun c h6 h7 => f2 c ?_ (by omega))
        omega
    · rw [if_neg q] at hi m1 ⊢
      rw [if_neg q]
      try dsimp only
      have e5 : A = 14 := by omega
      by_cases e : i < 13
      · rw [if_pos e]
        have e4 : ((n + 1) % 14 + 14 - 14 + i) % 14 = (n + 14 - A + (i + 1)) % 14 := by omega
        rw [e4]
        refine (h5 (i + 1) (by omega)).cg (fun c h6 h7 => f2 c ?_ (by omega))
        omega
      · rw [if_neg e, show ((n + 1) % 14 + 14 - 14 + i) % 14 = n by omega]
        exact f3
theorem s1_takeBack {H : Nat → cS} {A : Nat} {I : xMem} (hH : cH I H A) (hA0 : 0 < A) (hW : sWF (H (A - 1))) : ∃ I', f_X1_takeBack [.ref 173, .ref 1] I = some (.inl (some (.int (nI (A - 1)))), I') ∧ (∀ c, 10 ≤ c → c ≠ 173 → I' c = I c) ∧ I' 0 = I 0 ∧ cR I' 1 (H (A - 1)) ∧ cH I' H (A - 1) := by
  have x3 := x173
  have x4 := x174
  have x1 : xK 1 = 0 := by decide
  obtain ⟨h1, h2, n, h3, h4, h5⟩ := hH
  have e0 : nI (n + 14) - nI 1 = nI (n + 13) := by rw [pI_sub (by omega)]; rfl
  have e9 : nI A - nI 1 = nI (A - 1) := pI_sub (by omega)
  have m0 : (n + 13) % 14 < 14 := Nat.mod_lt _ (by decide)
  have g := h5 (A - 1) (by omega)
  rw [show (n + 14 - A + (A - 1)) % 14 = (n + 13) % 14 by omega] at g
  obtain ⟨I1, f1, f2, f3⟩ := s7_fetch (I := xup I 173 1 (nI ((n + 13) % 14))) xShf_h m0 xCol_1 (xCol_h m0) (by omega) (g.cg (fun c h6 h7 => by rw [xup_o (by omega)])) hW
  have e1 : I1 173 = (xup I 173 1 (nI ((n + 13) % 14))) 173 := f2 173 (by omega)
  refine ⟨xup I1 173 2 (nI (A - 1)), ?_, fun c hc h6 => by rw [xup_o h6, f2 c (by omega), xup_o h6], by rw [xup_o (by omega), f2 0 (by omega), xup_o (by omega)], f3.cg (fun c h6 h7 => by rw [xup_o (by omega)]), ?_, by omega, (n + 13) % 14, m0, ?_, fun i hi => ?_⟩
  · have n14 : ¬ nI 14 = 0 := by decide
    rw [e_X1_takeBack]
    simp (disch := first | omega | assumption) only [q_X1_takeBack_0, q_X1_takeBack_1, q_X1_takeBack_2, q_X1_takeBack_5, q_X1_takeBack_7, q_X1_takeBack_8, q_X1_takeBack_9, q_X1_takeBack_10, q_X1_takeBack_12, q_X1_takeBack_13, q_X1_takeBack_16, q_X1_takeBack_17, q_X1_takeBack_20, q_X1_takeBack_21, q_X1_takeBack_24, q_X1_takeBack_25, q_X1_takeBack_28, q_X1_takeBack_29, q_X1_takeBack_30, q_X1_takeBack_33, q_X1_takeBack_34, q_X1_takeBack_35, q_X1_takeBack_38, q_X1_takeBack_39, q_X1_takeBack_42, nI_add, pI_le, pI_lt, pI_eq, pI_neg, pI_nn, pI_le0, pI_gt0, pI_eq0, xbV_s, xbU_s, if_true, if_false, bI_eq0, Nat.reduceAdd, Nat.reduceSub, Nat.reduceEqDiff, Nat.reduceLeDiff, Nat.reduceLT, Bool.true_eq_false, Bool.false_eq_true, x3, r173, x4, h4, e0, pk_rem, xup_s, f1, e1, xup_d, h1, e9]
  · rw [xup_s]
  · rw [xup_d (by omega), e1, xup_s]
  · have m1 : ((n + 13) % 14 + 14 - (A - 1) + i) % 14 < 14 := Nat.mod_lt _ (by decide)
    have := h5 i (by omega)
    rw [show ((n + 13) % 14 + 14 - (A - 1) + i) % 14 = (n + 14 - A + i) % 14 by omega] at m1 ⊢
    refine this.cg (fun c h6 h7 => ?_)
    rw [xup_o (by omega), f2 c (by omega), xup_o (by omega)]
theorem s1_forget {H : Nat → cS} {A : Nat} {I : xMem} (hH : cH I H A) : ∃ I', f_X1_forgetAll [.ref 173] I = some (.inl none, I') ∧ (∀ c, c ≠ 173 → I' c = I c) ∧ cH I' H 0 := by
  have x3 := x173
  obtain ⟨h1, h2, n, h3, h4, h5⟩ := hH
  refine ⟨xup I 173 2 (nI 0), ?_, fun c hc => by rw [xup_o hc], by rw [xup_s], by omega, n, h3, by rw [xup_d (by omega)]; exact h4, fun i hi => absurd hi (Nat.not_lt_zero _)⟩
  rw [e_X1_forgetAll]
  simp (disch := omega) only [q_X1_forgetAll_0, q_X1_forgetAll_1, q_X1_forgetAll_2, q_X1_forgetAll_5, nI_add, pI_le, pI_lt, pI_eq, pI_neg, pI_nn, pI_le0, pI_gt0, pI_eq0, xbV_s, xbU_s, if_true, if_false, bI_eq0, Nat.reduceAdd, Nat.reduceSub, Nat.reduceEqDiff, Nat.reduceLeDiff, Nat.reduceLT, Bool.true_eq_false, Bool.false_eq_true, x3]
end P31
