/-! ===== taking the page ===== -/
section P49
section PA9
variable {α : aS}
theorem op_tk_l {S : cS} {I : xMem} {n : Nat} {w : Nat → Nat} (hq : sq S ≤ 10) (hn : n ≤ 12) (hn0 : sn S + n ≤ 120) : ∀ d k (I1 : xMem), k + d = n → xO 191 I I1 → I 189 15 = nI n → (∀ j, j < n → I 198 j = nI (w j)) → mX I1 191 (sq S) (sm S) (sq S) (sl S) (sq S) (sp S) (sn S + k) (fun j => if j < sn S then sv S j else w (j - sn S)) → ∃ I', xgo k_X9_take 46 [some (.ref 189), some (.int (nI (sn S))), some (.int (nI k))] [] I1 = xgo k_X9_take 77 [some (.ref 189), some (.int (nI (sn S))), some (.int (nI n))] [] I' ∧ xO 191 I I' ∧ mX I' 191 (sq S) (sm S) (sq S) (sl S) (sq S) (sp S) (sn S + n) (fun j => if j < sn S then sv S j else w (j - sn S)) := by
  have k9 := x189
  have k91 := x191
  have l91 := l191
  have k98 := x198
  have l98 := l198
  intro d
  induction d with
  | zero =>
    intro k I1 hk hO h15 hw hX
    have e : k = n := by omega
    subst e
    have g : I1 189 15 = nI k := by rw [hO 189 (by omega)]; exact h15
    refine ⟨I1, ?_, hO, hX⟩
    rw [q_X9_take_46]
    simp (disch := omega) only [q_X9_take_47, q_X9_take_48, q_X9_take_51, q_X9_take_54, q_X9_take_55, q_X9_take_58, q_X9_take_60, q_X9_take_61, q_X9_take_62, q_X9_take_63, q_X9_take_64, q_X9_take_65, q_X9_take_68, q_X9_take_69, q_X9_take_70, q_X9_take_71, q_X9_take_74, nI_add, pI_le, pI_lt, pI_eq, pI_neg, pI_nn, pI_le0, pI_gt0, pI_eq0, xbV_s, xbU_s, if_true, if_false, bI_eq0, Nat.reduceAdd, Nat.reduceSub, Nat.reduceEqDiff, Nat.reduceLeDiff, Nat.reduceLT, Bool.true_eq_false, Bool.false_eq_true, k9, g, Nat.le_refl]
  | succ d ih =>
    intro k I1 hk hO h15 hw hX
    have n1 : ¬ n ≤ k := by omega
    have g : I1 189 15 = nI n := by rw [hO 189 (by omega)]; exact h15
    have g2 : I1 198 k = nI (w k) := by rw [hO 198 (by omega)]; exact hw k (by omega)
    have hX2 := mX_v hX (i := sn S + k) (sn S + k + 1) (w k) (fun j hj hne => by omega) hq hq
    obtain ⟨I', f1, f2, f3⟩ := ih (k + 1) (xup I1 191 (22 + (sn S + k)) (nI (w k))) (by omega) hO.up h15 hw (mX_cg hX2 (fun j hj => ⟨hj, rfl⟩) (fun j hj => ⟨hj, rfl⟩) (fun j hj => ⟨hj, by
      unfold nup
      by_cases e : j = sn S + k
      · rw [if_pos e, if_neg (by omega), show j - sn S = k by omega]
      · rw [if_neg e]⟩))
    refine ⟨I', ?_, f2, f3⟩
    rw [q_X9_take_46]
    simp (disch := omega) only [q_X9_take_47, q_X9_take_48, q_X9_take_51, q_X9_take_54, q_X9_take_55, q_X9_take_58, q_X9_take_60, q_X9_take_61, q_X9_take_62, q_X9_take_63, q_X9_take_64, q_X9_take_65, q_X9_take_68, q_X9_take_69, q_X9_take_70, q_X9_take_71, q_X9_take_74, nI_add, pI_le, pI_lt, pI_eq, pI_neg, pI_nn, pI_le0, pI_gt0, pI_eq0, xbV_s, xbU_s, if_true, if_false, bI_eq0, Nat.reduceAdd, Nat.reduceSub, Nat.reduceEqDiff, Nat.reduceLeDiff, Nat.reduceLT, Bool.true_eq_false, Bool.false_eq_true, n1, k9, k91, l91, k98, l98, r9_4, r9_13, g, g2, show 22 + sn S + k = 22 + (sn S + k) from Nat.add_assoc _ _ _]
    exact f1
end PA9
end P49
