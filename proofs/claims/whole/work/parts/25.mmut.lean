/-! ===== the reference: actions on a row ===== -/
section P25
theorem xup_s {I : xMem} {a k : Nat} {x : Int32} : xup I a k x a k = x := by rw [xup_self]; unfold upd; rw [if_pos rfl]
theorem xup_d {I : xMem} {a j k : Nat} {x : Int32} (h : j ≠ k) : xup I a k x a j = I a j := by rw [xup_self]; unfold upd; rw [if_neg h]
theorem xup_o {I : xMem} {a b k : Nat} {x : Int32} (h : b ≠ a) : xup I a k x b = I b := xup_ne I k x h
/-- the other rows are as they were -/
def xO (m : Nat) (I I' : xMem) : Prop := ∀ b, b ≠ m → I' b = I b
theorem xO.rf {m : Nat} {I : xMem} : xO m I I := fun _ _ => rfl
theorem xO.up {m k : Nat} {x : Int32} {I I' : xMem} (h : xO m I I') : xO m I (xup I' m k x) := fun b hb => by rw [xup_o hb]; exact h b hb
theorem xO.tr {m : Nat} {I I' I'' : xMem} (h : xO m I I') (h' : xO m I' I'') : xO m I I'' := fun b hb => (h' b hb).trans (h b hb)
/-- a state's row, piece by piece -/
def mX (I : xMem) (m q lim Nl : Nat) (l : Nat → Nat) (Np : Nat) (pn : Nat → Nat) (n : Nat) (v : Nat → Nat) : Prop := I m 0 = nI q ∧ I m 1 = nI lim ∧ (∀ p, p < Nl → I m (2 + p) = nI (l p)) ∧ (∀ p, p < Np → I m (12 + p) = nI (pn p)) ∧ (∀ j, j < n → I m (22 + j) = nI (v j))
theorem mX.of {I : xMem} {m : Nat} {S : cS} (h : mR I m S) : mX I m (sq S) (sm S) (sq S) (sl S) (sq S) (sp S) (sn S) (sv S) := h.2.2
theorem mX.to {I : xMem} {m : Nat} {S : cS} (h1 : xK m = 10) (h2 : xL m = 142) (h : mX I m (sq S) (sm S) (sq S) (sl S) (sq S) (sp S) (sn S) (sv S)) : mR I m S := ⟨h1, h2, h⟩
section PX
variable {I : xMem} {m q lim Nl Np n : Nat} {l pn v : Nat → Nat}
theorem mX_q (h : mX I m q lim Nl l Np pn n v) (x : Nat) : mX (xup I m 0 (nI x)) m x lim Nl l Np pn n v := by
  obtain ⟨h1, h2, h3, h4, h5⟩ := h
  refine ⟨xup_s, ?_, fun p hp => ?_, fun p hp => ?_, fun j hj => ?_⟩
  · rw [xup_d (by omega)]; exact h2
  · rw [xup_d (by omega)]; exact h3 p hp
  · rw [xup_d (by omega)]; exact h4 p hp
  · rw [xup_d (by omega)]; exact h5 j hj
theorem mX_lim (h : mX I m q lim Nl l Np pn n v) (x : Nat) : mX (xup I m 1 (nI x)) m q x Nl l Np pn n v := by
  obtain ⟨h1, h2, h3, h4, h5⟩ := h
  refine ⟨?_, xup_s, fun p hp => ?_, fun p hp => ?_, fun j hj => ?_⟩
  · rw [xup_d (by omega)]; exact h1
  · rw [xup_d (by omega)]; exact h3 p hp
  · rw [xup_d (by omega)]; exact h4 p hp
  · rw [xup_d (by omega)]; exact h5 j hj
theorem mX_l (h : mX I m q lim Nl l Np pn n v) {p : Nat} (N' x : Nat) (hp : p < 10) (hN : ∀ j, j < N' → j ≠ p → j < Nl) (hN' : N' ≤ 10) : mX (xup I m (2 + p) (nI x)) m q lim N' (nup l p x) Np pn n v := by
  obtain ⟨h1, h2, h3, h4, h5⟩ := h
  refine ⟨?_, ?_, fun j hj => ?_, fun j hj => ?_, fun j hj => ?_⟩
  · rw [xup_d (by omega)]; exact h1
  · rw [xup_d (by omega)]; exact h2
  · unfold nup
    by_cases e : j = p
    · subst e; rw [if_pos rfl, xup_s]
    · rw [if_neg e, xup_d (by omega)]; exact h3 j (hN j hj e)
  · rw [xup_d (by omega)]; exact h4 j hj
  · rw [xup_d (by omega)]; exact h5 j hj
theorem mX_p (h : mX I m q lim Nl l Np pn n v) {p : Nat} (N' x : Nat) (hp : p < 10) (hN : ∀ j, j < N' → j ≠ p → j < Np) (hN' : N' ≤ 10) (hl : Nl ≤ 10) : mX (xup I m (12 + p) (nI x)) m q lim Nl l N' (nup pn p x) n v := by
  obtain ⟨h1, h2, h3, h4, h5⟩ := h
  refine ⟨?_, ?_, fun j hj => ?_, fun j hj => ?_, fun j hj => ?_⟩
  · rw [xup_d (by omega)]; exact h1
  · rw [xup_d (by omega)]; exact h2
  · rw [xup_d (by omega)]; exact h3 j hj
  · unfold nup
    by_cases e : j = p
    · subst e; rw [if_pos rfl, xup_s]
    · rw [if_neg e, xup_d (by omega)]; exact h4 j (hN j hj e)
  · rw [xup_d (by omega)]; exact h5 j hj
theorem mX_v (h : mX I m q lim Nl l Np pn n v) {i : Nat} (n' x : Nat) (hn : ∀ j, j < n' → j ≠ i → j < n) (hl : Nl ≤ 10) (hp : Np ≤ 10) : mX (xup I m (22 + i) (nI x)) m q lim Nl l Np pn n' (nup v i x) := by
  obtain ⟨h1, h2, h3, h4, h5⟩ := h
  refine ⟨?_, ?_, fun j hj => ?_, fun j hj => ?_, fun j hj => ?_⟩
  · rw [xup_d (by omega)]; exact h1
  · rw [xup_d (by omega)]; exact h2
  · rw [xup_d (by omega)]; exact h3 j hj
  · rw [xup_d (by omega)]; exact h4 j hj
  · unfold nup
    by_cases e : j = i
    · subst e; rw [if_pos rfl, xup_s]
    · rw [if_neg e, xup_d (by omega)]; exact h5 j (hn j hj e)
theorem mX_cg (h : mX I m q lim Nl l Np pn n v) {Nl' Np' n' : Nat} {l' pn' v' : Nat → Nat} (h1 : ∀ j, j < Nl' → j < Nl ∧ l' j = l j) (h2 : ∀ j, j < Np' → j < Np ∧ pn' j = pn j) (h3 : ∀ j, j < n' → j < n ∧ v' j = v j) : mX I m q lim Nl' l' Np' pn' n' v' := by
  obtain ⟨a1, a2, a3, a4, a5⟩ := h
  exact ⟨a1, a2, fun j hj => by rw [(h1 j hj).2]; exact a3 j (h1 j hj).1, fun j hj => by rw [(h2 j hj).2]; exact a4 j (h2 j hj).1, fun j hj => by rw [(h3 j hj).2]; exact a5 j (h3 j hj).1⟩
end PX
theorem s9_hasRoom {m : Nat} {S : cS} {I : xMem} (h : mR I m S) (hW : sWF S) : f_X9_hasRoom [.ref m] I = some (.inl (some (.int (bI (sHasRoom S)))), I) := by
  obtain ⟨h1, h2, h3, h4, h5, h6, h7⟩ := h
  have hq := hW.1
  have hm := hW.2.1
  rw [e_X9_hasRoom]
  by_cases q : sq S = 0
  · have e : nI 0 - nI 1 < 0 := by decide
    have e2 : sHasRoom S = false := by
      cases hb : sHasRoom S with
      | false => rfl
      | true => exact absurd (sHasRoom_iff.mp hb).1 (by omega)
    rw [e2, bI_f]
    simp (disch := omega) only [q_X9_hasRoom_0, q_X9_hasRoom_1, q_X9_hasRoom_2, q_X9_hasRoom_3, q_X9_hasRoom_4, q_X9_hasRoom_5, q_X9_hasRoom_6, q_X9_hasRoom_7, q_X9_hasRoom_10, q_X9_hasRoom_11, q_X9_hasRoom_12, q_X9_hasRoom_13, q_X9_hasRoom_14, q_X9_hasRoom_15, q_X9_hasRoom_16, q_X9_hasRoom_17, q_X9_hasRoom_18, q_X9_hasRoom_21, q_X9_hasRoom_22, q_X9_hasRoom_25, q_X9_hasRoom_26_b, q_X9_hasRoom_26_0, q_X9_hasRoom_26_1, nI_add, pI_le, pI_lt, pI_eq, pI_neg, pI_nn, pI_le0, pI_gt0, pI_eq0, xbV_s, xbU_s, if_true, if_false, bI_eq0, Nat.reduceAdd, Nat.reduceSub, Nat.reduceEqDiff, Nat.reduceLeDiff, Nat.reduceLT, Bool.true_eq_false, Bool.false_eq_true, h1, h2, h3, q, e]
  · have hl := hW.2.2.1 (sq S - 1) (by omega)
    have h8 := h5 (sq S - 1) (by omega)
    by_cases r : sm S ≤ sl S (sq S - 1)
    · have e2 : sHasRoom S = false := by
        cases hb : sHasRoom S with
        | false => rfl
        | true => exact absurd (sHasRoom_iff.mp hb).2 (by omega)
      rw [e2, bI_f]
      simp (disch := omega) only [q_X9_hasRoom_0, q_X9_hasRoom_1, q_X9_hasRoom_2, q_X9_hasRoom_3, q_X9_hasRoom_4, q_X9_hasRoom_5, q_X9_hasRoom_6, q_X9_hasRoom_7, q_X9_hasRoom_10, q_X9_hasRoom_11, q_X9_hasRoom_12, q_X9_hasRoom_13, q_X9_hasRoom_14, q_X9_hasRoom_15, q_X9_hasRoom_16, q_X9_hasRoom_17, q_X9_hasRoom_18, q_X9_hasRoom_21, q_X9_hasRoom_22, q_X9_hasRoom_25, q_X9_hasRoom_26_b, q_X9_hasRoom_26_0, q_X9_hasRoom_26_1, nI_add, pI_le, pI_lt, pI_eq, pI_neg, pI_nn, pI_le0, pI_gt0, pI_eq0, xbV_s, xbU_s, if_true, if_false, bI_eq0, Nat.reduceAdd, Nat.reduceSub, Nat.reduceEqDiff, Nat.reduceLeDiff, Nat.reduceLT, Bool.true_eq_false, Bool.false_eq_true, h1, h2, h3, h4, pI_sub, h8, r]
    · have e2 : sHasRoom S = true := sHasRoom_iff.mpr ⟨by omega, by omega⟩
      rw [e2, bI_t]
      simp (disch := omega) only [q_X9_hasRoom_0, q_X9_hasRoom_1, q_X9_hasRoom_2, q_X9_hasRoom_3, q_X9_hasRoom_4, q_X9_hasRoom_5, q_X9_hasRoom_6, q_X9_hasRoom_7, q_X9_hasRoom_10, q_X9_hasRoom_11, q_X9_hasRoom_12, q_X9_hasRoom_13, q_X9_hasRoom_14, q_X9_hasRoom_15, q_X9_hasRoom_16, q_X9_hasRoom_17, q_X9_hasRoom_18, q_X9_hasRoom_21, q_X9_hasRoom_22, q_X9_hasRoom_25, q_X9_hasRoom_26_b, q_X9_hasRoom_26_0, q_X9_hasRoom_26_1, nI_add, pI_le, pI_lt, pI_eq, pI_neg, pI_nn, pI_le0, pI_gt0, pI_eq0, xbV_s, xbU_s, if_true, if_false, bI_eq0, Nat.reduceAdd, Nat.reduceSub, Nat.reduceEqDiff, Nat.reduceLeDiff, Nat.reduceLT, Bool.true_eq_false, Bool.false_eq_true, h1, h2, h3, h4, pI_sub, h8, r]
theorem s9_canAdd {m : Nat} {S : cS} {I : xMem} (h : mR I m S) (hW : sWF S) : f_X9_canAdd [.ref m] I = some (.inl (some (.int (bI (sCanAdd S)))), I) := by
  have hr := s9_hasRoom h hW
  obtain ⟨h1, h2, h3, h4, h5, h6, h7⟩ := h
  have hq := hW.1
  rw [e_X9_canAdd]
  unfold sCanAdd
  cases hb : sHasRoom S with
  | true => simp (disch := omega) only [q_X9_canAdd_0, q_X9_canAdd_1, q_X9_canAdd_4, q_X9_canAdd_7, q_X9_canAdd_8, q_X9_canAdd_9, q_X9_canAdd_10, q_X9_canAdd_12, q_X9_canAdd_15, q_X9_canAdd_16, q_X9_canAdd_19, q_X9_canAdd_20_b, q_X9_canAdd_20_0, q_X9_canAdd_20_1, nI_add, pI_le, pI_lt, pI_eq, pI_neg, pI_nn, pI_le0, pI_gt0, pI_eq0, xbV_s, xbU_s, if_true, if_false, bI_eq0, Nat.reduceAdd, Nat.reduceSub, Nat.reduceEqDiff, Nat.reduceLeDiff, Nat.reduceLT, Bool.true_eq_false, Bool.false_eq_true, hr, hb, Bool.true_or, Bool.true_eq_false, bI_t]
  | false =>
    by_cases r : 10 ≤ sq S
    · rw [decide_eq_false (by omega)]
      simp (disch := omega) only [q_X9_canAdd_0, q_X9_canAdd_1, q_X9_canAdd_4, q_X9_canAdd_7, q_X9_canAdd_8, q_X9_canAdd_9, q_X9_canAdd_10, q_X9_canAdd_12, q_X9_canAdd_15, q_X9_canAdd_16, q_X9_canAdd_19, q_X9_canAdd_20_b, q_X9_canAdd_20_0, q_X9_canAdd_20_1, nI_add, pI_le, pI_lt, pI_eq, pI_neg, pI_nn, pI_le0, pI_gt0, pI_eq0, xbV_s, xbU_s, if_true, if_false, bI_eq0, Nat.reduceAdd, Nat.reduceSub, Nat.reduceEqDiff, Nat.reduceLeDiff, Nat.reduceLT, Bool.true_eq_false, Bool.false_eq_true, hr, hb, h1, h2, h3, r, Bool.or_false, bI_f]
    · rw [decide_eq_true (by omega)]
      simp (disch := omega) only [q_X9_canAdd_0, q_X9_canAdd_1, q_X9_canAdd_4, q_X9_canAdd_7, q_X9_canAdd_8, q_X9_canAdd_9, q_X9_canAdd_10, q_X9_canAdd_12, q_X9_canAdd_15, q_X9_canAdd_16, q_X9_canAdd_19, q_X9_canAdd_20_b, q_X9_canAdd_20_0, q_X9_canAdd_20_1, nI_add, pI_le, pI_lt, pI_eq, pI_neg, pI_nn, pI_le0, pI_gt0, pI_eq0, xbV_s, xbU_s, if_true, if_false, bI_eq0, Nat.reduceAdd, Nat.reduceSub, Nat.reduceEqDiff, Nat.reduceLeDiff, Nat.reduceLT, Bool.true_eq_false, Bool.false_eq_true, hr, hb, h1, h2, h3, r, Bool.or_true, bI_t]
theorem s9_addOn {m v : Nat} {S : cS} {I : xMem} (h : mR I m S) (hW : sWF S) (hc : sCanAdd S = true) : ∃ I', f_X9_addOn [.ref m, .int (nI v)] I = some (.inl (some (.int (nI (sq (sAdd S v) - 1)))), I') ∧ xO m I I' ∧ mR I' m (sAdd S v) := by
  have hval := s9_values h hW
  have h0 := h
  obtain ⟨h1, h2, h3, h4, h5, h6, h7⟩ := h
  have hq := hW.1
  have hn := sn_120 hW
  have hn2 : sn S < 120 := by
    have a := sF_12 hW (Nat.le_refl (sq S))
    have b := hW.2.2.2.1
    rcases sCanAdd_iff.mp hc with r | r
    · obtain ⟨r1, r2⟩ := sHasRoom_iff.mp r
      have c := sF_12 hW (p := sq S - 1) (by omega)
      have d := sF_s S (sq S - 1)
      have e := hW.2.1.2
      rw [show sq S - 1 + 1 = sq S by omega] at d
      omega
    · omega
  have hX1 := mX_v (mX.of h0) (i := sn S) (sn S + 1) v (fun j hj hne => by omega) hq hq
  have hR1 : mR (xup I m (22 + sn S) (nI v)) m S := mX.to h1 h2 (mX_cg hX1 (fun j hj => ⟨hj, rfl⟩) (fun j hj => ⟨hj, rfl⟩) (fun j hj => ⟨by omega, by unfold nup; rw [if_neg (by omega)]⟩))
  have hr := s9_hasRoom hR1 hW
  have hg0 := hR1.2.2.1
  rw [e_X9_addOn]
  unfold sAdd
  cases hb : sHasRoom S with
  | true =>
    obtain ⟨r1, r2⟩ := sHasRoom_iff.mp hb
    have hl := hW.2.2.1 (sq S - 1) (by omega)
    have hg1 := hR1.2.2.2.2.1 (sq S - 1) (by omega)
    have e9 : 2 + sq S - 1 = 2 + (sq S - 1) := by omega
    rw [if_pos rfl]
    refine ⟨xup (xup I m (22 + sn S) (nI v)) m (2 + (sq S - 1)) (nI (sl S (sq S - 1) + 1)), ?_, xO.rf.up.up, ?_⟩
    · simp (disch := omega) only [q_X9_addOn_0, q_X9_addOn_1, q_X9_addOn_3, q_X9_addOn_4, q_X9_addOn_7, q_X9_addOn_8, q_X9_addOn_9, q_X9_addOn_10, q_X9_addOn_11, q_X9_addOn_14, q_X9_addOn_17, q_X9_addOn_18, q_X9_addOn_19, q_X9_addOn_20, q_X9_addOn_21, q_X9_addOn_22, q_X9_addOn_23, q_X9_addOn_24, q_X9_addOn_25, q_X9_addOn_26, q_X9_addOn_28, q_X9_addOn_29, q_X9_addOn_30, q_X9_addOn_31, q_X9_addOn_32, q_X9_addOn_33, q_X9_addOn_34, q_X9_addOn_35, q_X9_addOn_36, q_X9_addOn_37, q_X9_addOn_38, q_X9_addOn_39, q_X9_addOn_40, q_X9_addOn_41, q_X9_addOn_42, q_X9_addOn_43, q_X9_addOn_44, q_X9_addOn_45, q_X9_addOn_46, q_X9_addOn_47, q_X9_addOn_48, q_X9_addOn_49, q_X9_addOn_50, q_X9_addOn_51, q_X9_addOn_52, q_X9_addOn_53, q_X9_addOn_54, q_X9_addOn_55, q_X9_addOn_56, q_X9_addOn_57, q_X9_addOn_58, q_X9_addOn_59, nI_add, pI_le, pI_lt, pI_eq, pI_neg, pI_nn, pI_le0, pI_gt0, pI_eq0, xbV_s, xbU_s, if_true, if_false, bI_eq0, Nat.reduceAdd, Nat.reduceSub, Nat.reduceEqDiff, Nat.reduceLeDiff, Nat.reduceLT, Bool.true_eq_false, Bool.false_eq_true, h1, h2, hval, hr, hb, hg0, hg1, e9, pI_sub, Bool.true_eq_false, xup_d (I := xup I m (22 + sn S) (nI v))]
    · exact mX.to h1 h2 (mX_l hX1 (sq S) _ (by omega) (fun j hj hne => by omega) (by omega))
  | false =>
    have r1 : sq S < 10 := by
      rcases sCanAdd_iff.mp hc with q | q
      · rw [hb] at q; cases q
      · exact q
    have e1 : 2 + (sq S + 1) - 1 = 2 + sq S := by omega
    have e2 : sq S + 1 - 1 = sq S := by omega
    rw [if_neg (by decide)]
    refine ⟨xup (xup (xup (xup (xup I m (22 + sn S) (nI v)) m (2 + sq S) (nI 0)) m (12 + sq S) (nI 0)) m 0 (nI (sq S + 1))) m (2 + sq S) (nI (0 + 1)), ?_, xO.rf.up.up.up.up.up, ?_⟩
    · simp (disch := omega) only [q_X9_addOn_0, q_X9_addOn_1, q_X9_addOn_3, q_X9_addOn_4, q_X9_addOn_7, q_X9_addOn_8, q_X9_addOn_9, q_X9_addOn_10, q_X9_addOn_11, q_X9_addOn_14, q_X9_addOn_17, q_X9_addOn_18, q_X9_addOn_19, q_X9_addOn_20, q_X9_addOn_21, q_X9_addOn_22, q_X9_addOn_23, q_X9_addOn_24, q_X9_addOn_25, q_X9_addOn_26, q_X9_addOn_28, q_X9_addOn_29, q_X9_addOn_30, q_X9_addOn_31, q_X9_addOn_32, q_X9_addOn_33, q_X9_addOn_34, q_X9_addOn_35, q_X9_addOn_36, q_X9_addOn_37, q_X9_addOn_38, q_X9_addOn_39, q_X9_addOn_40, q_X9_addOn_41, q_X9_addOn_42, q_X9_addOn_43, q_X9_addOn_44, q_X9_addOn_45, q_X9_addOn_46, q_X9_addOn_47, q_X9_addOn_48, q_X9_addOn_49, q_X9_addOn_50, q_X9_addOn_51, q_X9_addOn_52, q_X9_addOn_53, q_X9_addOn_54, q_X9_addOn_55, q_X9_addOn_56, q_X9_addOn_57, q_X9_addOn_58, q_X9_addOn_59, nI_add, pI_le, pI_lt, pI_eq, pI_neg, pI_nn, pI_le0, pI_gt0, pI_eq0, xbV_s, xbU_s, if_true, if_false, bI_eq0, Nat.reduceAdd, Nat.reduceSub, Nat.reduceEqDiff, Nat.reduceLeDiff, Nat.reduceLT, Bool.true_eq_false, Bool.false_eq_true, h1, h2, hval, hr, hb, h3, e1, e2, pI_sub, xup_d, xup_s]
    · refine mX.to h1 h2 (mX_cg (mX_l (mX_q (mX_p (mX_l hX1 (p := sq S) (sq S + 1) 0 (by omega) (fun j hj hne => by omega) (by omega)) (p := sq S) (sq S + 1) 0 (by omega) (fun j hj hne => by omega) (by omega) (by omega)) (sq S + 1)) (p := sq S) (sq S + 1) 1 (by omega) (fun j hj hne => hj) (by omega)) (fun j hj => ⟨hj, ?_⟩) (fun j hj => ⟨hj, rfl⟩) (fun j hj => ⟨hj, rfl⟩))
      show nup (sl S) (sq S) 1 j = nup (nup (sl S) (sq S) 0) (sq S) 1 j
      unfold nup
      split <;> rfl
theorem nrm_step {f : Nat → Nat} {p k j : Nat} (h : p ≤ k) : (if j < k + 1 then nrm f p j else f j) = nup (fun j => if j < k then nrm f p j else f j) k (f (k + 1)) j := by
  unfold nup
  by_cases a : j = k
  · subst a
    rw [if_pos rfl, if_pos (by omega)]
    unfold nrm
    rw [if_neg (by omega)]
  · rw [if_neg a]
    dsimp only
    by_cases b : j < k
    · rw [if_pos (by omega), if_pos b]
    · rw [if_neg (by omega), if_neg b]
theorem nrm_start {f : Nat → Nat} {p j : Nat} : (if j < p then nrm f p j else f j) = f j := by
  by_cases b : j < p
  · rw [if_pos b]; unfold nrm; rw [if_pos b]
  · rw [if_neg b]
theorem s9_cutPage_l {m p : Nat} {q lim Nl Np n : Nat} {l pn v : Nat → Nat} {I : xMem} (h1 : xK m = 10) (h2 : xL m = 142) (hq : q < 10) (hp : p ≤ q) : ∀ d k (I' : xMem), k + d = q → p ≤ k → xO m I I' → mX I' m q lim (q + 1) (fun j => if j < k then nrm l p j else l j) (q + 1) (fun j => if j < k then nrm pn p j else pn j) n v → ∃ I'', xgo k_X9_cutPage 9 [some (.ref m), some (.int (nI p)), some (.int (nI k))] [] I' = some (.inl none, I'') ∧ xO m I I'' ∧ mX I'' m q lim q (nrm l p) q (nrm pn p) n v := by
  intro d
  induction d with
  | zero =>
    intro k I' hk hpk hO hX
    have e : k = q := by omega
    subst e
    refine ⟨I', ?_, hO, mX_cg hX (fun j hj => ⟨by omega, by rw [if_pos hj]⟩) (fun j hj => ⟨by omega, by rw [if_pos hj]⟩) (fun j hj => ⟨hj, rfl⟩)⟩
    rw [q_X9_cutPage_9]
    simp (disch := omega) only [q_X9_cutPage_0, q_X9_cutPage_1, q_X9_cutPage_2, q_X9_cutPage_3, q_X9_cutPage_4, q_X9_cutPage_5, q_X9_cutPage_6, q_X9_cutPage_7, q_X9_cutPage_8, q_X9_cutPage_10, q_X9_cutPage_11, q_X9_cutPage_12, q_X9_cutPage_13, q_X9_cutPage_16, q_X9_cutPage_17, q_X9_cutPage_18, q_X9_cutPage_19, q_X9_cutPage_20, q_X9_cutPage_21, q_X9_cutPage_22, q_X9_cutPage_23, q_X9_cutPage_24, q_X9_cutPage_25, q_X9_cutPage_26, q_X9_cutPage_27, q_X9_cutPage_28, q_X9_cutPage_29, q_X9_cutPage_31, q_X9_cutPage_32, q_X9_cutPage_33, q_X9_cutPage_34, q_X9_cutPage_36, q_X9_cutPage_37, q_X9_cutPage_38, q_X9_cutPage_39, q_X9_cutPage_40, q_X9_cutPage_41, q_X9_cutPage_42, q_X9_cutPage_45, q_X9_cutPage_48, nI_add, pI_le, pI_lt, pI_eq, pI_neg, pI_nn, pI_le0, pI_gt0, pI_eq0, xbV_s, xbU_s, if_true, if_false, bI_eq0, Nat.reduceAdd, Nat.reduceSub, Nat.reduceEqDiff, Nat.reduceLeDiff, Nat.reduceLT, Bool.true_eq_false, Bool.false_eq_true, h1, h2, hX.1, Nat.le_refl]
  | succ d ih =>
    intro k I' hk hpk hO hX
    have g1 := hX.2.2.1 (k + 1) (by omega)
    have g2 := hX.2.2.2.1 (k + 1) (by omega)
    dsimp only at g1 g2
    rw [if_neg (show ¬ k + 1 < k by omega)] at g1 g2
    have e1 : 2 + (k + 1) = 2 + k + 1 := by omega
    have e2 : 12 + (k + 1) = 12 + k + 1 := by omega
    rw [e1] at g1
    rw [e2] at g2
    have hn9 : ¬ q ≤ k := by omega
    have hX2 := mX_p (mX_l hX (p := k) (q + 1) (l (k + 1)) (by omega) (fun j hj _ => hj) (by omega)) (p := k) (q + 1) (pn (k + 1)) (by omega) (fun j hj _ => hj) (by omega) (by omega)
    obtain ⟨I'', h3, h4, h5⟩ := ih (k + 1) (xup (xup I' m (2 + k) (nI (l (k + 1)))) m (12 + k) (nI (pn (k + 1)))) (by omega) (by omega) hO.up.up (mX_cg hX2 (fun j hj => ⟨hj, nrm_step hpk⟩) (fun j hj => ⟨hj, nrm_step hpk⟩) (fun j hj => ⟨hj, rfl⟩))
    refine ⟨I'', ?_, h4, h5⟩
    rw [q_X9_cutPage_9]
    simp (disch := omega) only [q_X9_cutPage_0, q_X9_cutPage_1, q_X9_cutPage_2, q_X9_cutPage_3, q_X9_cutPage_4, q_X9_cutPage_5, q_X9_cutPage_6, q_X9_cutPage_7, q_X9_cutPage_8, q_X9_cutPage_10, q_X9_cutPage_11, q_X9_cutPage_12, q_X9_cutPage_13, q_X9_cutPage_16, q_X9_cutPage_17, q_X9_cutPage_18, q_X9_cutPage_19, q_X9_cutPage_20, q_X9_cutPage_21, q_X9_cutPage_22, q_X9_cutPage_23, q_X9_cutPage_24, q_X9_cutPage_25, q_X9_cutPage_26, q_X9_cutPage_27, q_X9_cutPage_28, q_X9_cutPage_29, q_X9_cutPage_31, q_X9_cutPage_32, q_X9_cutPage_33, q_X9_cutPage_34, q_X9_cutPage_36, q_X9_cutPage_37, q_X9_cutPage_38, q_X9_cutPage_39, q_X9_cutPage_40, q_X9_cutPage_41, q_X9_cutPage_42, q_X9_cutPage_45, q_X9_cutPage_48, nI_add, pI_le, pI_lt, pI_eq, pI_neg, pI_nn, pI_le0, pI_gt0, pI_eq0, xbV_s, xbU_s, if_true, if_false, bI_eq0, Nat.reduceAdd, Nat.reduceSub, Nat.reduceEqDiff, Nat.reduceLeDiff, Nat.reduceLT, Bool.true_eq_false, Bool.false_eq_true, h1, h2, hX.1, hn9, g1, g2, xup_d]
    exact h3
/-- the page p goes: of q + 1 pages -/
theorem s9_cutPage {m p : Nat} {q lim n : Nat} {l pn v : Nat → Nat} {I : xMem} (h1 : xK m = 10) (h2 : xL m = 142) (hq : q < 10) (hp : p ≤ q) (hX : mX I m (q + 1) lim (q + 1) l (q + 1) pn n v) : ∃ I', f_X9_cutPage [.ref m, .int (nI p)] I = some (.inl none, I') ∧ xO m I I' ∧ mX I' m q lim q (nrm l p) q (nrm pn p) n v := by
  have hX1 := mX_q hX q
  obtain ⟨I', h3, h4, h5⟩ := s9_cutPage_l (Nl := 0) (Np := 0) (l := l) (pn := pn) (v := v) (lim := lim) (n := n) (I := I) h1 h2 hq hp (q - p) p (xup I m 0 (nI q)) (by omega) (Nat.le_refl _) xO.rf.up (mX_cg hX1 (fun j hj => ⟨hj, nrm_start⟩) (fun j hj => ⟨hj, nrm_start⟩) (fun j hj => ⟨hj, rfl⟩))
  refine ⟨I', ?_, h4, h5⟩
  have e : nI (q + 1) - nI 1 = nI q := by rw [pI_sub (by omega)]; rfl
  rw [e_X9_cutPage]
  simp (disch := omega) only [q_X9_cutPage_0, q_X9_cutPage_1, q_X9_cutPage_2, q_X9_cutPage_3, q_X9_cutPage_4, q_X9_cutPage_5, q_X9_cutPage_6, q_X9_cutPage_7, q_X9_cutPage_8, q_X9_cutPage_10, q_X9_cutPage_11, q_X9_cutPage_12, q_X9_cutPage_13, q_X9_cutPage_16, q_X9_cutPage_17, q_X9_cutPage_18, q_X9_cutPage_19, q_X9_cutPage_20, q_X9_cutPage_21, q_X9_cutPage_22, q_X9_cutPage_23, q_X9_cutPage_24, q_X9_cutPage_25, q_X9_cutPage_26, q_X9_cutPage_27, q_X9_cutPage_28, q_X9_cutPage_29, q_X9_cutPage_31, q_X9_cutPage_32, q_X9_cutPage_33, q_X9_cutPage_34, q_X9_cutPage_36, q_X9_cutPage_37, q_X9_cutPage_38, q_X9_cutPage_39, q_X9_cutPage_40, q_X9_cutPage_41, q_X9_cutPage_42, q_X9_cutPage_45, q_X9_cutPage_48, nI_add, pI_le, pI_lt, pI_eq, pI_neg, pI_nn, pI_le0, pI_gt0, pI_eq0, xbV_s, xbU_s, if_true, if_false, bI_eq0, Nat.reduceAdd, Nat.reduceSub, Nat.reduceEqDiff, Nat.reduceLeDiff, Nat.reduceLT, Bool.true_eq_false, Bool.false_eq_true, h1, h2, hX.1, e]
  exact h3
end P25
