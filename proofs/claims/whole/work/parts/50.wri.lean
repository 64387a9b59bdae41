/-! ===== bits written: the class ===== -/
section P50
/-- the bits, how many -/
abbrev wO : Type := (Nat → Int32) × Nat
def xbt (x : Int32) (k : Nat) : Int32 := (x >>> (nI k &&& 31)) &&& nI 1
/-- k bits of x behind o, the highest first -/
def oW (x : Int32) : Nat → wO → wO
  | 0, o => o
  | k + 1, o => oW x k (fun j => if j = o.2 then xbt x k else o.1 j, o.2 + 1)
theorem oW_n {x : Int32} : ∀ {k : Nat} {o : wO}, (oW x k o).2 = o.2 + k
  | 0, _ => rfl
  | k + 1, o => by
    show (oW x k (fun j => if j = o.2 then xbt x k else o.1 j, o.2 + 1)).2 = o.2 + (k + 1)
    rw [oW_n]
    show o.2 + 1 + k = o.2 + (k + 1)
    omega
/-- k numbers of wd bits -/
def oL (f : Nat → Int32) (wd : Nat) : Nat → wO → wO
  | 0, o => o
  | k + 1, o => oW (f k) wd (oL f wd k o)
theorem oL_n {f : Nat → Int32} {wd : Nat} {o : wO} : ∀ {k : Nat}, (oL f wd k o).2 = o.2 + wd * k
  | 0 => rfl
  | k + 1 => by
    show (oW (f k) wd (oL f wd k o)).2 = o.2 + wd * (k + 1)
    rw [oW_n, oL_n, Nat.mul_succ]
    omega
/-- the words of the first k values -/
def oD (w : Nat → Nat) : Nat → wO → wO
  | 0, o => o
  | k + 1, o => if pFree w (w k) k = true then oW (nI (w k)) 10 (oD w k o) else oD w k o
theorem oD_n {w : Nat → Nat} {o : wO} : ∀ {k : Nat}, (oD w k o).2 = o.2 + 10 * pDiff w k
  | 0 => rfl
  | k + 1 => by
    unfold oD
    by_cases h : pFree w (w k) k = true
    · rw [if_pos h, oW_n, oD_n, pDiff_new w h]
      omega
    · rw [if_neg h, oD_n, pDiff_old w h]
/-- runs: from value i on (f values), in a run that began at s -/
def oR (w : Nat → Nat) (n : Nat) : Nat → Nat → Nat → wO → wO
  | 0, _, _, o => o
  | f + 1, i, s, o => if i + 1 = n ∨ ¬ w (i + 1) = w i then oR w n f (i + 1) (i + 1) (oW (nI (i + 1 - s)) 4 (oW (nI (w i)) 10 o)) else oR w n f (i + 1) s o
theorem oR_s (w : Nat → Nat) (n f i s : Nat) (o : wO) : oR w n (f + 1) i s o = if i + 1 = n ∨ ¬ w (i + 1) = w i then oR w n f (i + 1) (i + 1) (oW (nI (i + 1 - s)) 4 (oW (nI (w i)) 10 o)) else oR w n f (i + 1) s o := rfl
theorem oR_n {w : Nat → Nat} {n : Nat} : ∀ {f i s : Nat} {o : wO}, (oR w n f i s o).2 ≤ o.2 + 14 * f
  | 0, _, _, _ => Nat.le_refl _
  | f + 1, i, s, o => by
    rw [oR_s]
    split
    · have := oR_n (w := w) (n := n) (f := f) (i := i + 1) (s := i + 1) (o := oW (nI (i + 1 - s)) 4 (oW (nI (w i)) 10 o))
      rw [oW_n, oW_n] at this
      omega
    · have := oR_n (w := w) (n := n) (f := f) (i := i + 1) (s := s) (o := o)
      omega
/-- the code of a page -/
def pOut (w : Nat → Nat) (n c : Nat) : wO :=
  match c with
  | 0 => oL (fun k => nI (w k)) 10 n (oW (nI n) 4 (oW (nI 0) 3 (fun _ => 0, 0)))
  | 1 => oL (fun k => nI (pWord w (w k) n)) (pWd (pDiff w n - 1)) n (oD w n (oW (nI (pDiff w n)) 4 (oW (nI n) 4 (oW (nI 1) 3 (fun _ => 0, 0)))))
  | 2 => oR w n n 0 0 (oW (nI n) 4 (oW (nI 2) 3 (fun _ => 0, 0)))
  | 3 => oL (fun k => nI (w k) - nI (pMn w n)) (pWd (pMx w n - pMn w n)) n (oW (nI (pWd (pMx w n - pMn w n))) 4 (oW (nI (pMn w n)) 10 (oW (nI n) 4 (oW (nI 3) 3 (fun _ => 0, 0)))))
  | _ => oL (fun k => nI (w (k + 1)) - nI (w k)) (pStep w n) (n - 1) (oW (nI (pStep w n)) 4 (oW (nI (w 0)) 10 (oW (nI n) 4 (oW (nI 4) 3 (fun _ => 0, 0)))))
theorem x170 : xK 170 = 4 := by decide
theorem r170 : xR 170 0 = 171 := by decide
theorem w171 : xRow 171 179 := ⟨by decide, by decide, by decide, by decide, by decide⟩
def cB (I : xMem) (o : wO) : Prop := I 170 1 = nI o.2 ∧ ∀ j, j < o.2 → I 172 j = o.1 j
theorem s4_num_l {x : Int32} {wd : Nat} : ∀ k (o : wO) (I : xMem), o.2 + k ≤ 179 → k ≤ 12 → cB I o → ∃ I', xgo k_X4_writeNumber 4 [some (.ref 170), some (.int x), some (.int (nI wd)), some (.int (nI k - nI 1))] [] I = some (.inl none, I') ∧ zG 170 3 I I' ∧ cB I' (oW x k o) := by
  have k4 := x170
  have kr := w171.1
  intro k
  induction k with
  | zero =>
    intro o I hb hk h
    have e : nI 0 - nI 1 < 0 := by decide
    refine ⟨I, ?_, zG.rf, h⟩
    rw [q_X4_writeNumber_4]
    simp (disch := omega) only [q_X4_writeNumber_0, q_X4_writeNumber_1, q_X4_writeNumber_2, q_X4_writeNumber_3, q_X4_writeNumber_5, q_X4_writeNumber_8, q_X4_writeNumber_9, q_X4_writeNumber_12, q_X4_writeNumber_13, q_X4_writeNumber_16, q_X4_writeNumber_17, q_X4_writeNumber_18, q_X4_writeNumber_19, q_X4_writeNumber_20, q_X4_writeNumber_21, q_X4_writeNumber_24, q_X4_writeNumber_25, q_X4_writeNumber_26, q_X4_writeNumber_29, q_X4_writeNumber_30, q_X4_writeNumber_31, q_X4_writeNumber_34, q_X4_writeNumber_37, q_X4_writeNumber_40, nI_add, pI_le, pI_lt, pI_eq, pI_neg, pI_nn, pI_le0, pI_gt0, pI_eq0, xbV_s, xbU_s, if_true, if_false, bI_eq0, Nat.reduceAdd, Nat.reduceSub, Nat.reduceEqDiff, Nat.reduceLeDiff, Nat.reduceLT, Bool.true_eq_false, Bool.false_eq_true, e]
  | succ k ih =>
    intro o I hb hk h
    have e : nI (k + 1) - nI 1 = nI k := by rw [pI_sub (by omega)]; rfl
    have e2 : nI k + -1 = nI k - nI 1 := by rw [Int32.sub_eq_add_neg]; rfl
    have h1 := h.1
    obtain ⟨I', f1, f2, f3⟩ := ih (fun j => if j = o.2 then xbt x k else o.1 j, o.2 + 1) (xup (xup I 172 o.2 (xbt x k)) 170 1 (nI (o.2 + 1))) (by show o.2 + 1 + k ≤ 179; omega) (by omega) ⟨xup_s, fun j hj => by
      have hj : j < o.2 + 1 := hj
      show _ = if j = o.2 then xbt x k else o.1 j
      rw [xup_o (by omega)]
      by_cases q : j = o.2
      · rw [if_pos q, q, xup_s]
      · rw [if_neg q, xup_d q]
        exact h.2 j (by omega)⟩
    refine ⟨I', ?_, ((zG.rf.up (by omega) (by omega)).up (by omega) (by omega) : zG 170 3 I _).tr f2, f3⟩
    rw [q_X4_writeNumber_4]
    simp (disch := omega) only [q_X4_writeNumber_0, q_X4_writeNumber_1, q_X4_writeNumber_2, q_X4_writeNumber_3, q_X4_writeNumber_5, q_X4_writeNumber_8, q_X4_writeNumber_9, q_X4_writeNumber_12, q_X4_writeNumber_13, q_X4_writeNumber_16, q_X4_writeNumber_17, q_X4_writeNumber_18, q_X4_writeNumber_19, q_X4_writeNumber_20, q_X4_writeNumber_21, q_X4_writeNumber_24, q_X4_writeNumber_25, q_X4_writeNumber_26, q_X4_writeNumber_29, q_X4_writeNumber_30, q_X4_writeNumber_31, q_X4_writeNumber_34, q_X4_writeNumber_37, q_X4_writeNumber_40, nI_add, pI_le, pI_lt, pI_eq, pI_neg, pI_nn, pI_le0, pI_gt0, pI_eq0, xbV_s, xbU_s, if_true, if_false, bI_eq0, Nat.reduceAdd, Nat.reduceSub, Nat.reduceEqDiff, Nat.reduceLeDiff, Nat.reduceLT, Bool.true_eq_false, Bool.false_eq_true, e, k4, r170, kr, h1, s_set w171, xup_o, e2]
    exact f1
theorem s4_num {x : Int32} {k : Nat} {o : wO} {I : xMem} (hb : o.2 + k ≤ 179) (hk : k ≤ 12) (h : cB I o) : ∃ I', f_X4_writeNumber [.ref 170, .int x, .int (nI k)] I = some (.inl none, I') ∧ zG 170 3 I I' ∧ cB I' (oW x k o) := by
  rw [e_X4_writeNumber]
  simp only [q_X4_writeNumber_0, q_X4_writeNumber_1, q_X4_writeNumber_2, q_X4_writeNumber_3, q_X4_writeNumber_5, q_X4_writeNumber_8, q_X4_writeNumber_9, q_X4_writeNumber_12, q_X4_writeNumber_13, q_X4_writeNumber_16, q_X4_writeNumber_17, q_X4_writeNumber_18, q_X4_writeNumber_19, q_X4_writeNumber_20, q_X4_writeNumber_21, q_X4_writeNumber_24, q_X4_writeNumber_25, q_X4_writeNumber_26, q_X4_writeNumber_29, q_X4_writeNumber_30, q_X4_writeNumber_31, q_X4_writeNumber_34, q_X4_writeNumber_37, q_X4_writeNumber_40]
  exact s4_num_l k o I hb hk h
section PW
variable {S : cS} {p : Nat}
def wC (I : xMem) (S : cS) (p : Nat) : Prop := cR I 1 S ∧ cM I (1 + 7) (sw S p) (sl S p)
theorem wC.cg {I I' : xMem} (h : wC I S p) (hG : zG 170 3 I I') : wC I' S p := ⟨h.1.cg (fun c h1 h2 => hG c (by omega)), h.2.cg (hG _ (by omega)) (hG _ (by omega))⟩
theorem wC.val {I : xMem} (h : wC I S p) (hW : sWF S) (hp : p < sq S) {k : Nat} (hk : k < sl S p) : f_X0_valueAt [.ref 1, .int (nI (sF S p + k))] I = some (.inl (some (.int (nI (sw S p k)))), I) := s0_valueAt xCol_1 h.1 hW (by have := sF_in hW hp; omega)
theorem s4_plain_l (hW : sWF S) (hp : p < sq S) {o : wO} {I : xMem} (hb : o.2 + 10 * sl S p ≤ 179) : ∀ d k (I1 : xMem), k + d = sl S p → zG 170 3 I I1 → wC I1 S p → cB I1 (oL (fun k => nI (sw S p k)) 10 k o) → ∃ I', xgo k_X4_writePlain 3 [some (.ref 170), some (.ref 1), some (.int (nI (sF S p))), some (.int (nI (sl S p))), some (.int (nI k))] [] I1 = some (.inl none, I') ∧ zG 170 3 I I' ∧ cB I' (oL (fun k => nI (sw S p k)) 10 (sl S p) o) := by
  have k1 := x1
  have k4 := x170
  have hl := hW.2.2.1 p hp
  intro d
  induction d with
  | zero =>
    intro k I1 hk hG hC h
    have e : k = sl S p := by omega
    subst e
    refine ⟨I1, ?_, hG, h⟩
    rw [q_X4_writePlain_3]
    simp (disch := omega) only [q_X4_writePlain_0, q_X4_writePlain_1, q_X4_writePlain_5, q_X4_writePlain_6, q_X4_writePlain_9, q_X4_writePlain_10, q_X4_writePlain_11, q_X4_writePlain_12, q_X4_writePlain_14, q_X4_writePlain_15, q_X4_writePlain_18, q_X4_writePlain_20, q_X4_writePlain_23, q_X4_writePlain_26, q_X4_writePlain_29, nI_add, pI_le, pI_lt, pI_eq, pI_neg, pI_nn, pI_le0, pI_gt0, pI_eq0, xbV_s, xbU_s, if_true, if_false, bI_eq0, Nat.reduceAdd, Nat.reduceSub, Nat.reduceEqDiff, Nat.reduceLeDiff, Nat.reduceLT, Bool.true_eq_false, Bool.false_eq_true, Nat.le_refl]
  | succ d ih =>
    intro k I1 hk hG hC h
    have n1 : ¬ sl S p ≤ k := by omega
    have hv := hC.val hW hp (k := k) (by omega)
    obtain ⟨I2, g1, g2, g3⟩ := s4_num (x := nI (sw S p k)) (k := 10) (by rw [oL_n]; omega) (by omega) h
    obtain ⟨I', f1, f2, f3⟩ := ih (k + 1) I2 (by omega) (hG.tr g2) (hC.cg g2) g3
    refine ⟨I', ?_, f2, f3⟩
    rw [q_X4_writePlain_3]
    simp (disch := omega) only [q_X4_writePlain_0, q_X4_writePlain_1, q_X4_writePlain_5, q_X4_writePlain_6, q_X4_writePlain_9, q_X4_writePlain_10, q_X4_writePlain_11, q_X4_writePlain_12, q_X4_writePlain_14, q_X4_writePlain_15, q_X4_writePlain_18, q_X4_writePlain_20, q_X4_writePlain_23, q_X4_writePlain_26, q_X4_writePlain_29, nI_add, pI_le, pI_lt, pI_eq, pI_neg, pI_nn, pI_le0, pI_gt0, pI_eq0, xbV_s, xbU_s, if_true, if_false, bI_eq0, Nat.reduceAdd, Nat.reduceSub, Nat.reduceEqDiff, Nat.reduceLeDiff, Nat.reduceLT, Bool.true_eq_false, Bool.false_eq_true, n1, k1, k4, hv, g1]
    exact f1
theorem s4_words_a (hW : sWF S) (hp : p < sq S) {o : wO} {I : xMem} (hb : o.2 + 10 * pDiff (sw S p) (sl S p) ≤ 179) (l5 : Option Value) : ∀ d k (I1 : xMem), k + d = sl S p → zG 170 3 I I1 → wC I1 S p → cB I1 (oD (sw S p) k o) → ∃ I', xgo k_X4_writeWords 12 [some (.ref 170), some (.ref 1), some (.int (nI (sF S p))), some (.ref (1 + 7)), some (.int (nI (pDiff (sw S p) k))), l5] [] I1 = xgo k_X4_writeWords 42 [some (.ref 170), some (.ref 1), some (.int (nI (sF S p))), some (.ref (1 + 7)), some (.int (nI 0)), l5] [] I' ∧ zG 170 3 I I' ∧ wC I' S p ∧ cB I' (oD (sw S p) (sl S p) o) := by
  have k1 := x1
  have k8 : xK (1 + 7) = 2 := by decide
  have k4 := x170
  have hl := hW.2.2.1 p hp
  have hd := pDiff_le (sw S p) (sl S p)
  intro d
  induction d with
  | zero =>
    intro k I1 hk hG hC h
    have e : k = sl S p := by omega
    subst e
    have g := hC.2.1
    refine ⟨I1, ?_, hG, hC, h⟩
    rw [q_X4_writeWords_12]
    simp (disch := omega) only [q_X4_writeWords_14, q_X4_writeWords_15, q_X4_writeWords_18, q_X4_writeWords_21, q_X4_writeWords_22, q_X4_writeWords_23, q_X4_writeWords_25, q_X4_writeWords_28, q_X4_writeWords_30, q_X4_writeWords_33, q_X4_writeWords_36, q_X4_writeWords_39, q_X4_writeWords_40, nI_add, pI_le, pI_lt, pI_eq, pI_neg, pI_nn, pI_le0, pI_gt0, pI_eq0, xbV_s, xbU_s, if_true, if_false, bI_eq0, Nat.reduceAdd, Nat.reduceSub, Nat.reduceEqDiff, Nat.reduceLeDiff, Nat.reduceLT, Bool.true_eq_false, Bool.false_eq_true, k8, g, Nat.le_refl]
  | succ d ih =>
    intro k I1 hk hG hC h
    by_cases q : pFree (sw S p) (sw S p k) k = true
    · have e1 := pDiff_new (sw S p) q
      have e2 := pDiff_mono (sw S p) (n := k + 1) (m := sl S p) (by omega)
      have n1 : ¬ pDiff (sw S p) (sl S p) ≤ pDiff (sw S p) k := by omega
      have g := hC.2.1
      have hv : f_X2_wordAt [.ref (1 + 7), .int (nI (pDiff (sw S p) k))] I1 = some (.inl (some (.int (nI (sw S p k)))), I1) := by
        rw [s2_wordAt (xCol_1.2.2.2.2.2.2.2.2) (by omega), hC.2.2.2.2.2 k (by omega) q]
      obtain ⟨I2, g1, g2, g3⟩ := s4_num (x := nI (sw S p k)) (k := 10) (by rw [oD_n]; omega) (by omega) h
      obtain ⟨I', f1, f2, f3, f4⟩ := ih (k + 1) I2 (by omega) (hG.tr g2) (hC.cg g2) (by
        show cB I2 (if pFree (sw S p) (sw S p k) k = true then oW (nI (sw S p k)) 10 (oD (sw S p) k o) else oD (sw S p) k o)
        rw [if_pos q]
        exact g3)
      rw [e1] at f1
      refine ⟨I', ?_, f2, f3, f4⟩
      rw [q_X4_writeWords_12]
      simp (disch := omega) only [q_X4_writeWords_14, q_X4_writeWords_15, q_X4_writeWords_18, q_X4_writeWords_21, q_X4_writeWords_22, q_X4_writeWords_23, q_X4_writeWords_25, q_X4_writeWords_28, q_X4_writeWords_30, q_X4_writeWords_33, q_X4_writeWords_36, q_X4_writeWords_39, q_X4_writeWords_40, nI_add, pI_le, pI_lt, pI_eq, pI_neg, pI_nn, pI_le0, pI_gt0, pI_eq0, xbV_s, xbU_s, if_true, if_false, bI_eq0, Nat.reduceAdd, Nat.reduceSub, Nat.reduceEqDiff, Nat.reduceLeDiff, Nat.reduceLT, Bool.true_eq_false, Bool.false_eq_true, n1, k1, k8, k4, g, hv, g1]
      exact f1
    · have e1 := pDiff_old (sw S p) q
      obtain ⟨I', f1, f2, f3, f4⟩ := ih (k + 1) I1 (by omega) hG hC (by
        show cB I1 (if pFree (sw S p) (sw S p k) k = true then oW (nI (sw S p k)) 10 (oD (sw S p) k o) else oD (sw S p) k o)
        rw [if_neg q]
        exact h)
      rw [e1] at f1
      exact ⟨I', f1, f2, f3, f4⟩
theorem pFree_in {w : Nat → Nat} {n k : Nat} (hk : k < n) : pFree w (w k) n = false := by
  cases h : pFree w (w k) n with
  | false => rfl
  | true => exact absurd rfl (pFree_iff.mp h k hk)
theorem s4_words_b (hW : sWF S) (hp : p < sq S) {o : wO} {I : xMem} (hb : o.2 + 48 ≤ 179) : ∀ d k (I1 : xMem) (l5 : Option Value), k + d = sl S p → zG 170 3 I I1 → wC I1 S p → cB I1 (oL (fun k => nI (pWord (sw S p) (sw S p k) (sl S p))) (pWd (pDiff (sw S p) (sl S p) - 1)) k o) → ∃ I', xgo k_X4_writeWords 42 [some (.ref 170), some (.ref 1), some (.int (nI (sF S p))), some (.ref (1 + 7)), some (.int (nI k)), l5] [] I1 = some (.inl none, I') ∧ zG 170 3 I I' ∧ cB I' (oL (fun k => nI (pWord (sw S p) (sw S p k) (sl S p))) (pWd (pDiff (sw S p) (sl S p) - 1)) (sl S p) o) := by
  have k1 := x1
  have k8 : xK (1 + 7) = 2 := by decide
  have k4 := x170
  have hl := hW.2.2.1 p hp
  have hd := pDiff_le (sw S p) (sl S p)
  have hwd : pWd (pDiff (sw S p) (sl S p) - 1) ≤ 4 := pWd4 (by omega)
  intro d
  induction d with
  | zero =>
    intro k I1 l5 hk hG hC h
    have e : k = sl S p := by omega
    subst e
    have g := hC.2.2.1
    refine ⟨I1, ?_, hG, h⟩
    rw [q_X4_writeWords_42]
    simp (disch := omega) only [q_X4_writeWords_0, q_X4_writeWords_1, q_X4_writeWords_2, q_X4_writeWords_5, q_X4_writeWords_6, q_X4_writeWords_9, q_X4_writeWords_10, q_X4_writeWords_14, q_X4_writeWords_15, q_X4_writeWords_18, q_X4_writeWords_21, q_X4_writeWords_22, q_X4_writeWords_23, q_X4_writeWords_25, q_X4_writeWords_28, q_X4_writeWords_30, q_X4_writeWords_33, q_X4_writeWords_36, q_X4_writeWords_39, q_X4_writeWords_40, q_X4_writeWords_44, q_X4_writeWords_45, q_X4_writeWords_48, q_X4_writeWords_51, q_X4_writeWords_52, q_X4_writeWords_53, q_X4_writeWords_54, q_X4_writeWords_56, q_X4_writeWords_57, q_X4_writeWords_60, q_X4_writeWords_63, q_X4_writeWords_65, q_X4_writeWords_66, q_X4_writeWords_68, q_X4_writeWords_69, q_X4_writeWords_72, q_X4_writeWords_75, q_X4_writeWords_78, q_X4_writeWords_81, nI_add, pI_le, pI_lt, pI_eq, pI_neg, pI_nn, pI_le0, pI_gt0, pI_eq0, xbV_s, xbU_s, if_true, if_false, bI_eq0, Nat.reduceAdd, Nat.reduceSub, Nat.reduceEqDiff, Nat.reduceLeDiff, Nat.reduceLT, Bool.true_eq_false, Bool.false_eq_true, k8, g, Nat.le_refl]
  | succ d ih =>
    intro k I1 l5 hk hG hC h
    have n1 : ¬ sl S p ≤ k := by omega
    have g := hC.2.2.1
    have g7 := (hC.2.2.2.2.1 hl.1).2.2.2.2.1
    have hv := hC.val hW hp (k := k) (by omega)
    have hnum : f_X2_numberOfWord [.ref (1 + 7), .int (nI (sw S p k))] I1 = some (.inl (some (.int (nI (pWord (sw S p) (sw S p k) (sl S p))))), I1) := by
      rw [s2_num (xCol_1.2.2.2.2.2.2.2.2) hC.2 hl.2 (sw_le hW hp) (sw_le hW hp k (by omega))]
      unfold xWn
      rw [if_neg (by rw [pFree_in (show k < sl S p by omega)]; decide)]
    have hm : pWd (pDiff (sw S p) (sl S p) - 1) * k + pWd (pDiff (sw S p) (sl S p) - 1) ≤ 4 * 12 := by
      rw [← Nat.mul_succ]
      exact Nat.mul_le_mul hwd (by omega)
    obtain ⟨I2, g1, g2, g3⟩ := s4_num (x := nI (pWord (sw S p) (sw S p k) (sl S p))) (k := pWd (pDiff (sw S p) (sl S p) - 1)) (by rw [oL_n]; omega) (by omega) h
    obtain ⟨I', f1, f2, f3⟩ := ih (k + 1) I2 (some (.int (nI (pWord (sw S p) (sw S p k) (sl S p))))) (by omega) (hG.tr g2) (hC.cg g2) g3
    refine ⟨I', ?_, f2, f3⟩
    rw [q_X4_writeWords_42]
    simp (disch := omega) only [q_X4_writeWords_44, q_X4_writeWords_45, q_X4_writeWords_48, q_X4_writeWords_51, q_X4_writeWords_52, q_X4_writeWords_53, q_X4_writeWords_54, q_X4_writeWords_56, q_X4_writeWords_57, q_X4_writeWords_60, q_X4_writeWords_63, q_X4_writeWords_65, q_X4_writeWords_66, q_X4_writeWords_68, q_X4_writeWords_69, q_X4_writeWords_72, q_X4_writeWords_75, q_X4_writeWords_78, q_X4_writeWords_81, nI_add, pI_le, pI_lt, pI_eq, pI_neg, pI_nn, pI_le0, pI_gt0, pI_eq0, xbV_s, xbU_s, if_true, if_false, bI_eq0, Nat.reduceAdd, Nat.reduceSub, Nat.reduceEqDiff, Nat.reduceLeDiff, Nat.reduceLT, Bool.true_eq_false, Bool.false_eq_true, n1, k1, k8, k4, g, hv, hnum, g7, g1]
    exact f1
theorem s4_runs_l (hW : sWF S) (hp : p < sq S) {I : xMem} : ∀ f i s (o : wO) (I1 : xMem) (l6 : Option Value), i + f = sl S p → s ≤ i → o.2 + 14 * f ≤ 179 → zG 170 3 I I1 → wC I1 S p → cB I1 o → ∃ I', xgo k_X4_writeRuns 6 [some (.ref 170), some (.ref 1), some (.int (nI (sF S p))), some (.int (nI (sl S p))), some (.int (nI (sF S p + s))), some (.int (nI (sF S p + i))), l6] [] I1 = some (.inl none, I') ∧ zG 170 3 I I' ∧ cB I' (oR (sw S p) (sl S p) f i s o) := by
  have k1 := x1
  have k4 := x170
  have hl := hW.2.2.1 p hp
  have hF := sF_in hW hp
  have hn := sn_120 hW
  intro f
  induction f with
  | zero =>
    intro i s o I1 l6 hi hs hb hG hC h
    have e : i = sl S p := by omega
    subst e
    refine ⟨I1, ?_, hG, h⟩
    rw [q_X4_writeRuns_6]
    simp (disch := omega) only [q_X4_writeRuns_0, q_X4_writeRuns_1, q_X4_writeRuns_3, q_X4_writeRuns_4, q_X4_writeRuns_8, q_X4_writeRuns_9, q_X4_writeRuns_10, q_X4_writeRuns_11, q_X4_writeRuns_14, q_X4_writeRuns_15, q_X4_writeRuns_17, q_X4_writeRuns_20, q_X4_writeRuns_22, q_X4_writeRuns_24, q_X4_writeRuns_25, q_X4_writeRuns_26, q_X4_writeRuns_27, q_X4_writeRuns_28, q_X4_writeRuns_29, q_X4_writeRuns_32, q_X4_writeRuns_33, q_X4_writeRuns_35, q_X4_writeRuns_36, q_X4_writeRuns_37, q_X4_writeRuns_40, q_X4_writeRuns_42, q_X4_writeRuns_45, q_X4_writeRuns_46, q_X4_writeRuns_48, q_X4_writeRuns_50, q_X4_writeRuns_53, q_X4_writeRuns_54, q_X4_writeRuns_56, q_X4_writeRuns_57, q_X4_writeRuns_58, q_X4_writeRuns_60, q_X4_writeRuns_61, q_X4_writeRuns_62, q_X4_writeRuns_65, q_X4_writeRuns_67, q_X4_writeRuns_68, q_X4_writeRuns_69, q_X4_writeRuns_71, q_X4_writeRuns_74, q_X4_writeRuns_77, nI_add, pI_le, pI_lt, pI_eq, pI_neg, pI_nn, pI_le0, pI_gt0, pI_eq0, xbV_s, xbU_s, if_true, if_false, bI_eq0, Nat.reduceAdd, Nat.reduceSub, Nat.reduceEqDiff, Nat.reduceLeDiff, Nat.reduceLT, Bool.true_eq_false, Bool.false_eq_true, Nat.le_refl]
  | succ f ih =>
    intro i s o I1 l6 hi hs hb hG hC h
    have n1 : ¬ sF S p + sl S p ≤ sF S p + i := by omega
    have hv := hC.val hW hp (k := i) (by omega)
    have bi := sw_le hW hp i (by omega)
    have e0 : nI (sF S p + sl S p) - nI 1 = nI (sF S p + sl S p - 1) := pI_sub (by omega)
    have e9 : nI (sF S p + i + 1) - nI (sF S p + s) = nI (i + 1 - s) := by rw [pI_sub (by omega)]; congr 1; omega
    rw [oR_s]
    by_cases q : i + 1 = sl S p ∨ ¬ sw S p (i + 1) = sw S p i
    · rw [if_pos q]
      obtain ⟨I2, g1, g2, g3⟩ := s4_num (x := nI (sw S p i)) (k := 10) (by omega) (by omega) h
      obtain ⟨I3, j1, j2, j3⟩ := s4_num (x := nI (i + 1 - s)) (k := 4) (by rw [oW_n]; omega) (by omega) g3
      obtain ⟨I', f1, f2, f3⟩ := ih (i + 1) (i + 1) (oW (nI (i + 1 - s)) 4 (oW (nI (sw S p i)) 10 o)) I3 (some (.int (nI (sw S p i)))) (by omega) (by omega) (by rw [oW_n, oW_n]; omega) (hG.tr (g2.tr j2)) (hC.cg (g2.tr j2)) j3
      refine ⟨I', ?_, f2, f3⟩
      by_cases r : i + 1 = sl S p
      · have r1 : sF S p + i = sF S p + sl S p - 1 := by omega
        rw [q_X4_writeRuns_6]
        simp (disch := omega) only [q_X4_writeRuns_8, q_X4_writeRuns_9, q_X4_writeRuns_10, q_X4_writeRuns_11, q_X4_writeRuns_14, q_X4_writeRuns_15, q_X4_writeRuns_17, q_X4_writeRuns_20, q_X4_writeRuns_22, q_X4_writeRuns_24, q_X4_writeRuns_25, q_X4_writeRuns_26, q_X4_writeRuns_27, q_X4_writeRuns_28, q_X4_writeRuns_29, q_X4_writeRuns_32, q_X4_writeRuns_33, q_X4_writeRuns_35, q_X4_writeRuns_36, q_X4_writeRuns_37, q_X4_writeRuns_40, q_X4_writeRuns_42, q_X4_writeRuns_45, q_X4_writeRuns_46, q_X4_writeRuns_48, q_X4_writeRuns_50, q_X4_writeRuns_53, q_X4_writeRuns_54, q_X4_writeRuns_56, q_X4_writeRuns_57, q_X4_writeRuns_58, q_X4_writeRuns_60, q_X4_writeRuns_61, q_X4_writeRuns_62, q_X4_writeRuns_65, q_X4_writeRuns_67, q_X4_writeRuns_68, q_X4_writeRuns_69, q_X4_writeRuns_71, q_X4_writeRuns_74, nI_add, pI_le, pI_lt, pI_eq, pI_neg, pI_nn, pI_le0, pI_gt0, pI_eq0, xbV_s, xbU_s, if_true, if_false, bI_eq0, Nat.reduceAdd, Nat.reduceSub, Nat.reduceEqDiff, Nat.reduceLeDiff, Nat.reduceLT, Bool.true_eq_false, Bool.false_eq_true, n1, k1, k4, hv, e0, eq_true r1, e9, g1, j1]
        exact f1
      · have r1 : ¬ sF S p + i = sF S p + sl S p - 1 := by omega
        have r2 : ¬ sw S p (i + 1) = sw S p i := q.resolve_left r
        have hv2 : f_X0_valueAt [.ref 1, .int (nI (sF S p + i + 1))] I1 = some (.inl (some (.int (nI (sw S p (i + 1))))), I1) := hC.val hW hp (k := i + 1) (by omega)
        have bi2 := sw_le hW hp (i + 1) (by omega)
        rw [q_X4_writeRuns_6]
        simp (disch := omega) only [q_X4_writeRuns_8, q_X4_writeRuns_9, q_X4_writeRuns_10, q_X4_writeRuns_11, q_X4_writeRuns_14, q_X4_writeRuns_15, q_X4_writeRuns_17, q_X4_writeRuns_20, q_X4_writeRuns_22, q_X4_writeRuns_24, q_X4_writeRuns_25, q_X4_writeRuns_26, q_X4_writeRuns_27, q_X4_writeRuns_28, q_X4_writeRuns_29, q_X4_writeRuns_32, q_X4_writeRuns_33, q_X4_writeRuns_35, q_X4_writeRuns_36, q_X4_writeRuns_37, q_X4_writeRuns_40, q_X4_writeRuns_42, q_X4_writeRuns_45, q_X4_writeRuns_46, q_X4_writeRuns_48, q_X4_writeRuns_50, q_X4_writeRuns_53, q_X4_writeRuns_54, q_X4_writeRuns_56, q_X4_writeRuns_57, q_X4_writeRuns_58, q_X4_writeRuns_60, q_X4_writeRuns_61, q_X4_writeRuns_62, q_X4_writeRuns_65, q_X4_writeRuns_67, q_X4_writeRuns_68, q_X4_writeRuns_69, q_X4_writeRuns_71, q_X4_writeRuns_74, nI_add, pI_le, pI_lt, pI_eq, pI_neg, pI_nn, pI_le0, pI_gt0, pI_eq0, xbV_s, xbU_s, if_true, if_false, bI_eq0, Nat.reduceAdd, Nat.reduceSub, Nat.reduceEqDiff, Nat.reduceLeDiff, Nat.reduceLT, Bool.true_eq_false, Bool.false_eq_true, n1, k1, k4, hv, hv2, e0, r1, r2, e9, g1, j1]
        exact f1
    · rw [if_neg q]
      have r : ¬ i + 1 = sl S p := fun r => q (Or.inl r)
      have r2 : sw S p (i + 1) = sw S p i := Classical.byContradiction (fun r => q (Or.inr r))
      have r1 : ¬ sF S p + i = sF S p + sl S p - 1 := by omega
      have hv2 : f_X0_valueAt [.ref 1, .int (nI (sF S p + i + 1))] I1 = some (.inl (some (.int (nI (sw S p i)))), I1) := by
        rw [← r2]
        exact hC.val hW hp (k := i + 1) (by omega)
      obtain ⟨I', f1, f2, f3⟩ := ih (i + 1) s o I1 (some (.int (nI (sw S p i)))) (by omega) (by omega) (by omega) hG hC h
      refine ⟨I', ?_, f2, f3⟩
      rw [q_X4_writeRuns_6]
      simp (disch := omega) only [q_X4_writeRuns_8, q_X4_writeRuns_9, q_X4_writeRuns_10, q_X4_writeRuns_11, q_X4_writeRuns_14, q_X4_writeRuns_15, q_X4_writeRuns_17, q_X4_writeRuns_20, q_X4_writeRuns_22, q_X4_writeRuns_24, q_X4_writeRuns_25, q_X4_writeRuns_26, q_X4_writeRuns_27, q_X4_writeRuns_28, q_X4_writeRuns_29, q_X4_writeRuns_32, q_X4_writeRuns_33, q_X4_writeRuns_35, q_X4_writeRuns_36, q_X4_writeRuns_37, q_X4_writeRuns_40, q_X4_writeRuns_42, q_X4_writeRuns_45, q_X4_writeRuns_46, q_X4_writeRuns_48, q_X4_writeRuns_50, q_X4_writeRuns_53, q_X4_writeRuns_54, q_X4_writeRuns_56, q_X4_writeRuns_57, q_X4_writeRuns_58, q_X4_writeRuns_60, q_X4_writeRuns_61, q_X4_writeRuns_62, q_X4_writeRuns_65, q_X4_writeRuns_67, q_X4_writeRuns_68, q_X4_writeRuns_69, q_X4_writeRuns_71, q_X4_writeRuns_74, nI_add, pI_le, pI_lt, pI_eq, pI_neg, pI_nn, pI_le0, pI_gt0, pI_eq0, xbV_s, xbU_s, if_true, if_false, bI_eq0, Nat.reduceAdd, Nat.reduceSub, Nat.reduceEqDiff, Nat.reduceLeDiff, Nat.reduceLT, Bool.true_eq_false, Bool.false_eq_true, n1, k1, k4, hv, hv2, e0, r1]
      exact f1
theorem s4_small_l (hW : sWF S) (hp : p < sq S) {o : wO} {I : xMem} (hb : o.2 + 120 ≤ 179) : ∀ d k (I1 : xMem), k + d = sl S p → zG 170 3 I I1 → wC I1 S p → cB I1 (oL (fun k => nI (sw S p k) - nI (pMn (sw S p) (sl S p))) (pWd (pMx (sw S p) (sl S p) - pMn (sw S p) (sl S p))) k o) → ∃ I', xgo k_X4_writeSmall 22 [some (.ref 170), some (.ref 1), some (.int (nI (sF S p))), some (.ref (1 + 7)), some (.int (nI k))] [] I1 = some (.inl none, I') ∧ zG 170 3 I I' ∧ cB I' (oL (fun k => nI (sw S p k) - nI (pMn (sw S p) (sl S p))) (pWd (pMx (sw S p) (sl S p) - pMn (sw S p) (sl S p))) (sl S p) o) := by
  have k1 := x1
  have k8 : xK (1 + 7) = 2 := by decide
  have k4 := x170
  have hl := hW.2.2.1 p hp
  have b2 : pMx (sw S p) (sl S p) ≤ 1023 := pMx_le (sw_le hW hp)
  have hwd : pWd (pMx (sw S p) (sl S p) - pMn (sw S p) (sl S p)) ≤ 10 := pWd10 (by omega)
  intro d
  induction d with
  | zero =>
    intro k I1 hk hG hC h
    have e : k = sl S p := by omega
    subst e
    have g := hC.2.2.1
    refine ⟨I1, ?_, hG, h⟩
    rw [q_X4_writeSmall_22]
    simp (disch := omega) only [q_X4_writeSmall_0, q_X4_writeSmall_1, q_X4_writeSmall_2, q_X4_writeSmall_5, q_X4_writeSmall_7, q_X4_writeSmall_10, q_X4_writeSmall_11, q_X4_writeSmall_12, q_X4_writeSmall_15, q_X4_writeSmall_16, q_X4_writeSmall_19, q_X4_writeSmall_20, q_X4_writeSmall_24, q_X4_writeSmall_25, q_X4_writeSmall_28, q_X4_writeSmall_31, q_X4_writeSmall_32, q_X4_writeSmall_33, q_X4_writeSmall_34, q_X4_writeSmall_36, q_X4_writeSmall_37, q_X4_writeSmall_40, q_X4_writeSmall_41, q_X4_writeSmall_44, q_X4_writeSmall_45, q_X4_writeSmall_46, q_X4_writeSmall_49, q_X4_writeSmall_52, q_X4_writeSmall_55, q_X4_writeSmall_58, nI_add, pI_le, pI_lt, pI_eq, pI_neg, pI_nn, pI_le0, pI_gt0, pI_eq0, xbV_s, xbU_s, if_true, if_false, bI_eq0, Nat.reduceAdd, Nat.reduceSub, Nat.reduceEqDiff, Nat.reduceLeDiff, Nat.reduceLT, Bool.true_eq_false, Bool.false_eq_true, k8, g, Nat.le_refl]
  | succ d ih =>
    intro k I1 hk hG hC h
    have n1 : ¬ sl S p ≤ k := by omega
    have g := hC.2.2.1
    have g4 := (hC.2.2.2.2.1 hl.1).2.1
    have g8 := (hC.2.2.2.2.1 hl.1).2.2.2.2.2
    have hv := hC.val hW hp (k := k) (by omega)
    have hm : pWd (pMx (sw S p) (sl S p) - pMn (sw S p) (sl S p)) * k + pWd (pMx (sw S p) (sl S p) - pMn (sw S p) (sl S p)) ≤ 10 * 12 := by
      rw [← Nat.mul_succ]
      exact Nat.mul_le_mul hwd (by omega)
    obtain ⟨I2, g1, g2, g3⟩ := s4_num (x := nI (sw S p k) - nI (pMn (sw S p) (sl S p))) (k := pWd (pMx (sw S p) (sl S p) - pMn (sw S p) (sl S p))) (by rw [oL_n]; omega) (by omega) h
    obtain ⟨I', f1, f2, f3⟩ := ih (k + 1) I2 (by omega) (hG.tr g2) (hC.cg g2) g3
    refine ⟨I', ?_, f2, f3⟩
    rw [q_X4_writeSmall_22]
    simp (disch := omega) only [q_X4_writeSmall_0, q_X4_writeSmall_1, q_X4_writeSmall_2, q_X4_writeSmall_5, q_X4_writeSmall_7, q_X4_writeSmall_10, q_X4_writeSmall_11, q_X4_writeSmall_12, q_X4_writeSmall_15, q_X4_writeSmall_16, q_X4_writeSmall_19, q_X4_writeSmall_20, q_X4_writeSmall_24, q_X4_writeSmall_25, q_X4_writeSmall_28, q_X4_writeSmall_31, q_X4_writeSmall_32, q_X4_writeSmall_33, q_X4_writeSmall_34, q_X4_writeSmall_36, q_X4_writeSmall_37, q_X4_writeSmall_40, q_X4_writeSmall_41, q_X4_writeSmall_44, q_X4_writeSmall_45, q_X4_writeSmall_46, q_X4_writeSmall_49, q_X4_writeSmall_52, q_X4_writeSmall_55, q_X4_writeSmall_58, nI_add, pI_le, pI_lt, pI_eq, pI_neg, pI_nn, pI_le0, pI_gt0, pI_eq0, xbV_s, xbU_s, if_true, if_false, bI_eq0, Nat.reduceAdd, Nat.reduceSub, Nat.reduceEqDiff, Nat.reduceLeDiff, Nat.reduceLT, Bool.true_eq_false, Bool.false_eq_true, n1, k1, k8, k4, g, g4, g8, hv, g1]
    exact f1
theorem s4_steps_l (hW : sWF S) (hp : p < sq S) {o : wO} {I : xMem} (hb : o.2 + 121 ≤ 179) : ∀ d k (I1 : xMem), k + 1 + d = sl S p → zG 170 3 I I1 → wC I1 S p → cB I1 (oL (fun k => nI (sw S p (k + 1)) - nI (sw S p k)) (pStep (sw S p) (sl S p)) k o) → ∃ I', xgo k_X4_writeSteps 25 [some (.ref 170), some (.ref 1), some (.int (nI (sF S p))), some (.ref (1 + 7)), some (.int (nI (sF S p + (k + 1))))] [] I1 = some (.inl none, I') ∧ zG 170 3 I I' ∧ cB I' (oL (fun k => nI (sw S p (k + 1)) - nI (sw S p k)) (pStep (sw S p) (sl S p)) (sl S p - 1) o) := by
  have k1 := x1
  have k8 : xK (1 + 7) = 2 := by decide
  have k4 := x170
  have hl := hW.2.2.1 p hp
  have hF := sF_in hW hp
  have hn := sn_120 hW
  have hwd : pStep (sw S p) (sl S p) ≤ 11 := pStep_le (sw_le hW hp)
  intro d
  induction d with
  | zero =>
    intro k I1 hk hG hC h
    have e : k = sl S p - 1 := by omega
    have g := hC.2.2.1
    have n1 : sF S p + sl S p ≤ sF S p + (k + 1) := by omega
    refine ⟨I1, ?_, hG, by rw [e] at h; exact h⟩
    rw [q_X4_writeSteps_25]
    simp (disch := omega) only [q_X4_writeSteps_0, q_X4_writeSteps_1, q_X4_writeSteps_2, q_X4_writeSteps_3, q_X4_writeSteps_6, q_X4_writeSteps_8, q_X4_writeSteps_11, q_X4_writeSteps_12, q_X4_writeSteps_13, q_X4_writeSteps_16, q_X4_writeSteps_17, q_X4_writeSteps_20, q_X4_writeSteps_21, q_X4_writeSteps_22, q_X4_writeSteps_23, q_X4_writeSteps_27, q_X4_writeSteps_28, q_X4_writeSteps_29, q_X4_writeSteps_32, q_X4_writeSteps_33, q_X4_writeSteps_36, q_X4_writeSteps_37, q_X4_writeSteps_38, q_X4_writeSteps_40, q_X4_writeSteps_43, q_X4_writeSteps_44, q_X4_writeSteps_46, q_X4_writeSteps_47, q_X4_writeSteps_48, q_X4_writeSteps_51, q_X4_writeSteps_52, q_X4_writeSteps_53, q_X4_writeSteps_56, q_X4_writeSteps_59, q_X4_writeSteps_62, q_X4_writeSteps_65, nI_add, pI_le, pI_lt, pI_eq, pI_neg, pI_nn, pI_le0, pI_gt0, pI_eq0, xbV_s, xbU_s, if_true, if_false, bI_eq0, Nat.reduceAdd, Nat.reduceSub, Nat.reduceEqDiff, Nat.reduceLeDiff, Nat.reduceLT, Bool.true_eq_false, Bool.false_eq_true, k8, g, n1]
  | succ d ih =>
    intro k I1 hk hG hC h
    have n1 : ¬ sF S p + sl S p ≤ sF S p + (k + 1) := by omega
    have g := hC.2.2.1
    have g9 := hC.2.2.2.1
    have hv := hC.val hW hp (k := k + 1) (by omega)
    have hv2 := hC.val hW hp (k := k) (by omega)
    have e0 : nI (sF S p + (k + 1)) - nI 1 = nI (sF S p + k) := by rw [pI_sub (by omega)]; rfl
    have hm : pStep (sw S p) (sl S p) * k + pStep (sw S p) (sl S p) ≤ 11 * 11 := by
      rw [← Nat.mul_succ]
      exact Nat.mul_le_mul hwd (by omega)
    obtain ⟨I2, g1, g2, g3⟩ := s4_num (x := nI (sw S p (k + 1)) - nI (sw S p k)) (k := pStep (sw S p) (sl S p)) (by rw [oL_n]; omega) (by omega) h
    obtain ⟨I', f1, f2, f3⟩ := ih (k + 1) I2 (by omega) (hG.tr g2) (hC.cg g2) g3
    refine ⟨I', ?_, f2, f3⟩
    rw [q_X4_writeSteps_25]
    simp (disch := omega) only [q_X4_writeSteps_0, q_X4_writeSteps_1, q_X4_writeSteps_2, q_X4_writeSteps_3, q_X4_writeSteps_6, q_X4_writeSteps_8, q_X4_writeSteps_11, q_X4_writeSteps_12, q_X4_writeSteps_13, q_X4_writeSteps_16, q_X4_writeSteps_17, q_X4_writeSteps_20, q_X4_writeSteps_21, q_X4_writeSteps_22, q_X4_writeSteps_23, q_X4_writeSteps_27, q_X4_writeSteps_28, q_X4_writeSteps_29, q_X4_writeSteps_32, q_X4_writeSteps_33, q_X4_writeSteps_36, q_X4_writeSteps_37, q_X4_writeSteps_38, q_X4_writeSteps_40, q_X4_writeSteps_43, q_X4_writeSteps_44, q_X4_writeSteps_46, q_X4_writeSteps_47, q_X4_writeSteps_48, q_X4_writeSteps_51, q_X4_writeSteps_52, q_X4_writeSteps_53, q_X4_writeSteps_56, q_X4_writeSteps_59, q_X4_writeSteps_62, q_X4_writeSteps_65, nI_add, pI_le, pI_lt, pI_eq, pI_neg, pI_nn, pI_le0, pI_gt0, pI_eq0, xbV_s, xbU_s, if_true, if_false, bI_eq0, Nat.reduceAdd, Nat.reduceSub, Nat.reduceEqDiff, Nat.reduceLeDiff, Nat.reduceLT, Bool.true_eq_false, Bool.false_eq_true, n1, k1, k8, k4, g, g9, hv, hv2, e0, g1]
    exact f1
end PW
end P50
