/-! ===== what would be best ===== -/
section P36
/-- of b, b+1, .. b+t the first with the least f -/
def am (f : Nat → Nat) (b : Nat) : Nat → Nat
  | 0 => b
  | t + 1 => if f (b + t + 1) < f (am f b t) then b + t + 1 else am f b t
theorem am_s (f : Nat → Nat) (b t : Nat) : am f b (t + 1) = if f (b + t + 1) < f (am f b t) then b + t + 1 else am f b t := rfl
theorem am_le (f : Nat → Nat) (b : Nat) : ∀ t, b ≤ am f b t ∧ am f b t ≤ b + t
  | 0 => ⟨Nat.le_refl _, Nat.le_refl _⟩
  | t + 1 => by
    have := am_le f b t
    unfold am
    split <;> omega
theorem sPt_le {S : cS} (hW : sWF S) {p k : Nat} (hp : p < sq S) (h2 : k ≤ sl S p) : sPt S p k ≤ 378 := by
  have hl := hW.2.2.1 p hp
  have hi := sF_in hW hp
  unfold sPt
  have a := pPin_le (w := sw S p) (n := k) (by omega) (fun j hj => sw_le hW hp j (by omega)) (sp S p)
  have b := pPin_le (w := fun j => sv S (sF S p + k + j)) (n := sl S p - k) (by omega) (fun j hj => hW.2.2.2.2.1 _ (by omega)) (sp S p)
  omega
section PB
variable {S : cS} {I : xMem}
theorem op_bc_c {p : Nat} (hW : sWF S) (hp : p < sq S) : ∀ d s (I1 : xMem) (l : Option Value), s + 2 + d = sl S p → zG (1 + 7) 2 I I1 → cR I1 1 S → ∃ I', xgo k_X8_bestCut 40 [some (.ref 0), some (.int (nI p)), some (.int (nI (am (sPt S p) 1 s))), some (.int (nI (sPt S p (am (sPt S p) 1 s)))), some (.int (nI (sl S p))), some (.int (nI (s + 2))), l] [] I1 = some (.inl (some (.int (nI (am (sPt S p) 1 (sl S p - 2))))), I') ∧ zG (1 + 7) 2 I I' := by
  have k0 := x0
  have k1 := x1
  have hl := hW.2.2.1 p hp
  intro d
  induction d with
  | zero =>
    intro s I1 l hs hG h
    have e : s = sl S p - 2 := by omega
    have n1 : sl S p ≤ s + 2 := by omega
    refine ⟨I1, ?_, hG⟩
    rw [q_X8_bestCut_40]
    simp (disch := omega) only [q_X8_bestCut_0, q_X8_bestCut_1, q_X8_bestCut_4, q_X8_bestCut_5, q_X8_bestCut_8, q_X8_bestCut_11, q_X8_bestCut_21, q_X8_bestCut_24, q_X8_bestCut_25, q_X8_bestCut_26, q_X8_bestCut_27, q_X8_bestCut_28, q_X8_bestCut_31, q_X8_bestCut_32, q_X8_bestCut_35, q_X8_bestCut_37, q_X8_bestCut_38, q_X8_bestCut_42, q_X8_bestCut_44, q_X8_bestCut_47, q_X8_bestCut_48, q_X8_bestCut_51, q_X8_bestCut_52, q_X8_bestCut_54, q_X8_bestCut_57, q_X8_bestCut_59, q_X8_bestCut_61, q_X8_bestCut_62, q_X8_bestCut_65, q_X8_bestCut_67, q_X8_bestCut_68, q_X8_bestCut_71, q_X8_bestCut_73, q_X8_bestCut_74, q_X8_bestCut_76, q_X8_bestCut_77, q_X8_bestCut_80, q_X8_bestCut_83, q_X8_bestCut_84, nI_add, pI_le, pI_lt, pI_eq, pI_neg, pI_nn, pI_le0, pI_gt0, pI_eq0, xbV_s, xbU_s, if_true, if_false, bI_eq0, Nat.reduceAdd, Nat.reduceSub, Nat.reduceEqDiff, Nat.reduceLeDiff, Nat.reduceLT, Bool.true_eq_false, Bool.false_eq_true, n1]
    rw [e]
  | succ d ih =>
    intro s I1 l hs hG h
    have n1 : ¬ sl S p ≤ s + 2 := by omega
    have n2 : ¬ s + 2 = 1 := by omega
    obtain ⟨I2, f1, f2, f3⟩ := s0_parts (k := s + 2) xCol_1 h hW hp (by omega) (by omega)
    have b1 := am_le (sPt S p) 1 s
    have b2 := sPt_le hW hp (k := s + 2) (by omega)
    have b3 := sPt_le hW hp (k := am (sPt S p) 1 s) (by omega)
    obtain ⟨I', g1, g2⟩ := ih (s + 1) I2 (some (.int (nI (sPt S p (s + 2))))) (by omega) (hG.tr f2) f3
    refine ⟨I', ?_, g2⟩
    rw [am_s, show 1 + s + 1 = s + 2 by omega] at g1
    rw [q_X8_bestCut_40]
    by_cases q : sPt S p (am (sPt S p) 1 s) ≤ sPt S p (s + 2)
    · rw [if_neg (by omega)] at g1
      simp (disch := omega) only [q_X8_bestCut_0, q_X8_bestCut_1, q_X8_bestCut_4, q_X8_bestCut_5, q_X8_bestCut_8, q_X8_bestCut_11, q_X8_bestCut_21, q_X8_bestCut_24, q_X8_bestCut_25, q_X8_bestCut_26, q_X8_bestCut_27, q_X8_bestCut_28, q_X8_bestCut_31, q_X8_bestCut_32, q_X8_bestCut_35, q_X8_bestCut_37, q_X8_bestCut_38, q_X8_bestCut_42, q_X8_bestCut_44, q_X8_bestCut_47, q_X8_bestCut_48, q_X8_bestCut_51, q_X8_bestCut_52, q_X8_bestCut_54, q_X8_bestCut_57, q_X8_bestCut_59, q_X8_bestCut_61, q_X8_bestCut_62, q_X8_bestCut_65, q_X8_bestCut_67, q_X8_bestCut_68, q_X8_bestCut_71, q_X8_bestCut_73, q_X8_bestCut_74, q_X8_bestCut_76, q_X8_bestCut_77, q_X8_bestCut_80, q_X8_bestCut_83, q_X8_bestCut_84, nI_add, pI_le, pI_lt, pI_eq, pI_neg, pI_nn, pI_le0, pI_gt0, pI_eq0, xbV_s, xbU_s, if_true, if_false, bI_eq0, Nat.reduceAdd, Nat.reduceSub, Nat.reduceEqDiff, Nat.reduceLeDiff, Nat.reduceLT, Bool.true_eq_false, Bool.false_eq_true, n1, n2, k0, k1, r0_0, f1, q]
      exact g1
    · rw [if_pos (by omega)] at g1
      simp (disch := omega) only [q_X8_bestCut_0, q_X8_bestCut_1, q_X8_bestCut_4, q_X8_bestCut_5, q_X8_bestCut_8, q_X8_bestCut_11, q_X8_bestCut_21, q_X8_bestCut_24, q_X8_bestCut_25, q_X8_bestCut_26, q_X8_bestCut_27, q_X8_bestCut_28, q_X8_bestCut_31, q_X8_bestCut_32, q_X8_bestCut_35, q_X8_bestCut_37, q_X8_bestCut_38, q_X8_bestCut_42, q_X8_bestCut_44, q_X8_bestCut_47, q_X8_bestCut_48, q_X8_bestCut_51, q_X8_bestCut_52, q_X8_bestCut_54, q_X8_bestCut_57, q_X8_bestCut_59, q_X8_bestCut_61, q_X8_bestCut_62, q_X8_bestCut_65, q_X8_bestCut_67, q_X8_bestCut_68, q_X8_bestCut_71, q_X8_bestCut_73, q_X8_bestCut_74, q_X8_bestCut_76, q_X8_bestCut_77, q_X8_bestCut_80, q_X8_bestCut_83, q_X8_bestCut_84, nI_add, pI_le, pI_lt, pI_eq, pI_neg, pI_nn, pI_le0, pI_gt0, pI_eq0, xbV_s, xbU_s, if_true, if_false, bI_eq0, Nat.reduceAdd, Nat.reduceSub, Nat.reduceEqDiff, Nat.reduceLeDiff, Nat.reduceLT, Bool.true_eq_false, Bool.false_eq_true, n1, n2, k0, k1, r0_0, f1, q]
      exact g1
theorem s9_pt1 {p k : Nat} (h : mR I 191 S) (hW : sWF S) (hp : p < sq S) (h1 : 1 ≤ k) (h2 : k < sl S p) : f_X9_pinnedSize [.ref 191, .int (nI (22 + sF S p)), .int (nI k), .int (nI (sp S p))] I = some (.inl (some (.int (nI (pPin (sw S p) k (sp S p))))), I) := by
  have hl := hW.2.2.1 p hp
  exact s9_pinned ((h.page hW hp).pre (by omega)) h1 (by omega) (hW.2.2.2.2.2 p hp)
theorem s9_pt2 {p k : Nat} (h : mR I 191 S) (hW : sWF S) (hp : p < sq S) (h1 : 1 ≤ k) (h2 : k < sl S p) : f_X9_pinnedSize [.ref 191, .int (nI (22 + sF S p + k)), .int (nI (sl S p - k)), .int (nI (sp S p))] I = some (.inl (some (.int (nI (pPin (fun j => sv S (sF S p + k + j)) (sl S p - k) (sp S p))))), I) := by
  have hl := hW.2.2.1 p hp
  have hi := sF_in hW hp
  have hn := sn_120 hW
  have e : mW I 191 (22 + sF S p + k) (sl S p - k) (fun j => sv S (sF S p + k + j)) := by
    refine ⟨h.1, by rw [h.2.1]; omega, by rw [h.2.1]; decide, fun j hj => ?_, fun j hj => hW.2.2.2.2.1 _ (by omega)⟩
    have := h.2.2.2.2.2.2 (sF S p + k + j) (by omega)
    rw [show 22 + sF S p + k + j = 22 + (sF S p + k + j) by omega]
    exact this
  exact s9_pinned e (by omega) (by omega) (hW.2.2.2.2.2 p hp)
theorem op_bc_m {p : Nat} (hW : sWF S) (hp : p < sq S) (h : mR I 191 S) : ∀ d s (l : Option Value), s + 2 + d = sl S p → xgo k_X9_bestCut 58 [some (.ref 189), some (.int (nI p)), some (.int (nI (22 + sF S p))), some (.int (nI (sl S p))), some (.int (nI (am (sPt S p) 1 s))), some (.int (nI (sPt S p (am (sPt S p) 1 s)))), some (.int (nI (s + 2))), l] [] I = some (.inl (some (.int (nI (am (sPt S p) 1 (sl S p - 2))))), I) := by
  have k9 := x189
  have k91 := x191
  have l91 := l191
  have hl := hW.2.2.1 p hp
  have hi := sF_in hW hp
  have hn := sn_120 hW
  have hq := hW.1
  have g := h.2.2.2.2.2.1 p hp
  intro d
  induction d with
  | zero =>
    intro s l hs
    have e : s = sl S p - 2 := by omega
    have n1 : sl S p ≤ s + 2 := by omega
    rw [q_X9_bestCut_58]
    simp (disch := omega) only [q_X9_bestCut_0, q_X9_bestCut_1, q_X9_bestCut_2, q_X9_bestCut_5, q_X9_bestCut_6, q_X9_bestCut_9, q_X9_bestCut_12, q_X9_bestCut_13, q_X9_bestCut_16, q_X9_bestCut_17, q_X9_bestCut_20, q_X9_bestCut_23, q_X9_bestCut_24, q_X9_bestCut_25, q_X9_bestCut_27, q_X9_bestCut_28, q_X9_bestCut_31, q_X9_bestCut_32, q_X9_bestCut_35, q_X9_bestCut_36, q_X9_bestCut_37, q_X9_bestCut_38, q_X9_bestCut_41, q_X9_bestCut_42, q_X9_bestCut_43, q_X9_bestCut_44, q_X9_bestCut_45, q_X9_bestCut_46, q_X9_bestCut_49, q_X9_bestCut_51, q_X9_bestCut_53, q_X9_bestCut_55, q_X9_bestCut_56, q_X9_bestCut_60, q_X9_bestCut_61, q_X9_bestCut_64, q_X9_bestCut_65, q_X9_bestCut_68, q_X9_bestCut_69, q_X9_bestCut_71, q_X9_bestCut_72, q_X9_bestCut_75, q_X9_bestCut_77, q_X9_bestCut_78, q_X9_bestCut_79, q_X9_bestCut_80, q_X9_bestCut_83, q_X9_bestCut_84, q_X9_bestCut_87, q_X9_bestCut_88, q_X9_bestCut_90, q_X9_bestCut_91, q_X9_bestCut_92, q_X9_bestCut_94, q_X9_bestCut_95, q_X9_bestCut_96, q_X9_bestCut_99, q_X9_bestCut_101, q_X9_bestCut_102, q_X9_bestCut_103, q_X9_bestCut_104, q_X9_bestCut_107, q_X9_bestCut_108, q_X9_bestCut_110, q_X9_bestCut_112, q_X9_bestCut_114, q_X9_bestCut_117, q_X9_bestCut_119, q_X9_bestCut_122, q_X9_bestCut_124, q_X9_bestCut_126, q_X9_bestCut_128, q_X9_bestCut_130, q_X9_bestCut_133, q_X9_bestCut_135, q_X9_bestCut_138, q_X9_bestCut_141, q_X9_bestCut_143, nI_add, pI_le, pI_lt, pI_eq, pI_neg, pI_nn, pI_le0, pI_gt0, pI_eq0, xbV_s, xbU_s, if_true, if_false, bI_eq0, Nat.reduceAdd, Nat.reduceSub, Nat.reduceEqDiff, Nat.reduceLeDiff, Nat.reduceLT, Bool.true_eq_false, Bool.false_eq_true, n1]
    rw [e]
  | succ d ih =>
    intro s l hs
    have n1 : ¬ sl S p ≤ s + 2 := by omega
    have b1 := am_le (sPt S p) 1 s
    have b2 := sPt_le hW hp (k := s + 2) (by omega)
    have b3 := sPt_le hW hp (k := am (sPt S p) 1 s) (by omega)
    have e1 : nI (sl S p) - nI (s + 2) = nI (sl S p - (s + 2)) := pI_sub (by omega)
    have eP : pPin (sw S p) (s + 2) (sp S p) + pPin (fun j => sv S (sF S p + (s + 2) + j)) (sl S p - (s + 2)) (sp S p) = sPt S p (s + 2) := rfl
    have ih := ih (s + 1) (some (.int (nI (sPt S p (s + 2))))) (by omega)
    rw [am_s, show 1 + s + 1 = s + 2 by omega] at ih
    rw [q_X9_bestCut_58]
    by_cases q : sPt S p (am (sPt S p) 1 s) ≤ sPt S p (s + 2)
    · rw [if_neg (by omega)] at ih
      simp (disch := omega) only [q_X9_bestCut_0, q_X9_bestCut_1, q_X9_bestCut_2, q_X9_bestCut_5, q_X9_bestCut_6, q_X9_bestCut_9, q_X9_bestCut_12, q_X9_bestCut_13, q_X9_bestCut_16, q_X9_bestCut_17, q_X9_bestCut_20, q_X9_bestCut_23, q_X9_bestCut_24, q_X9_bestCut_25, q_X9_bestCut_27, q_X9_bestCut_28, q_X9_bestCut_31, q_X9_bestCut_32, q_X9_bestCut_35, q_X9_bestCut_36, q_X9_bestCut_37, q_X9_bestCut_38, q_X9_bestCut_41, q_X9_bestCut_42, q_X9_bestCut_43, q_X9_bestCut_44, q_X9_bestCut_45, q_X9_bestCut_46, q_X9_bestCut_49, q_X9_bestCut_51, q_X9_bestCut_53, q_X9_bestCut_55, q_X9_bestCut_56, q_X9_bestCut_60, q_X9_bestCut_61, q_X9_bestCut_64, q_X9_bestCut_65, q_X9_bestCut_68, q_X9_bestCut_69, q_X9_bestCut_71, q_X9_bestCut_72, q_X9_bestCut_75, q_X9_bestCut_77, q_X9_bestCut_78, q_X9_bestCut_79, q_X9_bestCut_80, q_X9_bestCut_83, q_X9_bestCut_84, q_X9_bestCut_87, q_X9_bestCut_88, q_X9_bestCut_90, q_X9_bestCut_91, q_X9_bestCut_92, q_X9_bestCut_94, q_X9_bestCut_95, q_X9_bestCut_96, q_X9_bestCut_99, q_X9_bestCut_101, q_X9_bestCut_102, q_X9_bestCut_103, q_X9_bestCut_104, q_X9_bestCut_107, q_X9_bestCut_108, q_X9_bestCut_110, q_X9_bestCut_112, q_X9_bestCut_114, q_X9_bestCut_117, q_X9_bestCut_119, q_X9_bestCut_122, q_X9_bestCut_124, q_X9_bestCut_126, q_X9_bestCut_128, q_X9_bestCut_130, q_X9_bestCut_133, q_X9_bestCut_135, q_X9_bestCut_138, q_X9_bestCut_141, q_X9_bestCut_143, nI_add, pI_le, pI_lt, pI_eq, pI_neg, pI_nn, pI_le0, pI_gt0, pI_eq0, xbV_s, xbU_s, if_true, if_false, bI_eq0, Nat.reduceAdd, Nat.reduceSub, Nat.reduceEqDiff, Nat.reduceLeDiff, Nat.reduceLT, Bool.true_eq_false, Bool.false_eq_true, n1, k9, k91, l91, r9_4, g, s9_pt1 h hW hp (by omega : 1 ≤ s + 2) (by omega), e1, s9_pt2 h hW hp (by omega : 1 ≤ s + 2) (by omega), eP, q, s9_less, Nat.min_eq_left q]
      exact ih
    · rw [if_pos (by omega)] at ih
      simp (disch := omega) only [q_X9_bestCut_0, q_X9_bestCut_1, q_X9_bestCut_2, q_X9_bestCut_5, q_X9_bestCut_6, q_X9_bestCut_9, q_X9_bestCut_12, q_X9_bestCut_13, q_X9_bestCut_16, q_X9_bestCut_17, q_X9_bestCut_20, q_X9_bestCut_23, q_X9_bestCut_24, q_X9_bestCut_25, q_X9_bestCut_27, q_X9_bestCut_28, q_X9_bestCut_31, q_X9_bestCut_32, q_X9_bestCut_35, q_X9_bestCut_36, q_X9_bestCut_37, q_X9_bestCut_38, q_X9_bestCut_41, q_X9_bestCut_42, q_X9_bestCut_43, q_X9_bestCut_44, q_X9_bestCut_45, q_X9_bestCut_46, q_X9_bestCut_49, q_X9_bestCut_51, q_X9_bestCut_53, q_X9_bestCut_55, q_X9_bestCut_56, q_X9_bestCut_60, q_X9_bestCut_61, q_X9_bestCut_64, q_X9_bestCut_65, q_X9_bestCut_68, q_X9_bestCut_69, q_X9_bestCut_71, q_X9_bestCut_72, q_X9_bestCut_75, q_X9_bestCut_77, q_X9_bestCut_78, q_X9_bestCut_79, q_X9_bestCut_80, q_X9_bestCut_83, q_X9_bestCut_84, q_X9_bestCut_87, q_X9_bestCut_88, q_X9_bestCut_90, q_X9_bestCut_91, q_X9_bestCut_92, q_X9_bestCut_94, q_X9_bestCut_95, q_X9_bestCut_96, q_X9_bestCut_99, q_X9_bestCut_101, q_X9_bestCut_102, q_X9_bestCut_103, q_X9_bestCut_104, q_X9_bestCut_107, q_X9_bestCut_108, q_X9_bestCut_110, q_X9_bestCut_112, q_X9_bestCut_114, q_X9_bestCut_117, q_X9_bestCut_119, q_X9_bestCut_122, q_X9_bestCut_124, q_X9_bestCut_126, q_X9_bestCut_128, q_X9_bestCut_130, q_X9_bestCut_133, q_X9_bestCut_135, q_X9_bestCut_138, q_X9_bestCut_141, q_X9_bestCut_143, nI_add, pI_le, pI_lt, pI_eq, pI_neg, pI_nn, pI_le0, pI_gt0, pI_eq0, xbV_s, xbU_s, if_true, if_false, bI_eq0, Nat.reduceAdd, Nat.reduceSub, Nat.reduceEqDiff, Nat.reduceLeDiff, Nat.reduceLT, Bool.true_eq_false, Bool.false_eq_true, n1, k9, k91, l91, r9_4, g, s9_pt1 h hW hp (by omega : 1 ≤ s + 2) (by omega), e1, s9_pt2 h hW hp (by omega : 1 ≤ s + 2) (by omega), eP, q, s9_less, Nat.min_eq_right (show sPt S p (s + 2) ≤ sPt S p (am (sPt S p) 1 s) by omega)]
      exact ih
end PB
section PO2
variable {α : aS}
theorem op_bestCut (x : Int32) : Agree f_X8_bestCut f_X9_bestCut [.int x] [3] α := Agree.wf fun hw => by
  have k0 := x0
  have k1 := x1
  have k9 := x189
  have k91 := x191
  have l91 := l191
  have hW := hw.1
  have hq := hW.1
  cases hx : xLt x (sq (zS α)) with
  | false =>
    refine Agree.no 1 (by omega) (by decide) (fun I hI => ?_) (fun I hI => ?_)
    · show f_X8_bestCut [.ref 0, .int x] I = some (.inr 3, I)
      rw [e_X8_bestCut]
      simp (disch := omega) only [q_X8_bestCut_0, q_X8_bestCut_1, q_X8_bestCut_4, q_X8_bestCut_5, q_X8_bestCut_8, q_X8_bestCut_11, q_X8_bestCut_21, q_X8_bestCut_24, q_X8_bestCut_25, q_X8_bestCut_26, q_X8_bestCut_27, q_X8_bestCut_28, q_X8_bestCut_31, q_X8_bestCut_32, q_X8_bestCut_35, q_X8_bestCut_37, q_X8_bestCut_38, q_X8_bestCut_42, q_X8_bestCut_44, q_X8_bestCut_47, q_X8_bestCut_48, q_X8_bestCut_51, q_X8_bestCut_52, q_X8_bestCut_54, q_X8_bestCut_57, q_X8_bestCut_59, q_X8_bestCut_61, q_X8_bestCut_62, q_X8_bestCut_65, q_X8_bestCut_67, q_X8_bestCut_68, q_X8_bestCut_71, q_X8_bestCut_73, q_X8_bestCut_74, q_X8_bestCut_76, q_X8_bestCut_77, q_X8_bestCut_80, q_X8_bestCut_83, q_X8_bestCut_84, nI_add, pI_le, pI_lt, pI_eq, pI_neg, pI_nn, pI_le0, pI_gt0, pI_eq0, xbV_s, xbU_s, if_true, if_false, bI_eq0, Nat.reduceAdd, Nat.reduceSub, Nat.reduceEqDiff, Nat.reduceLeDiff, Nat.reduceLT, Bool.true_eq_false, Bool.false_eq_true, k0, k1, r0_0, s0_hasPage xCol_1 hI.2.1 hW, hx]
    · rw [e_X9_bestCut]
      simp (disch := omega) only [q_X9_bestCut_0, q_X9_bestCut_1, q_X9_bestCut_2, q_X9_bestCut_5, q_X9_bestCut_6, q_X9_bestCut_9, q_X9_bestCut_12, q_X9_bestCut_13, q_X9_bestCut_16, q_X9_bestCut_17, q_X9_bestCut_20, q_X9_bestCut_23, q_X9_bestCut_24, q_X9_bestCut_25, q_X9_bestCut_27, q_X9_bestCut_28, q_X9_bestCut_31, q_X9_bestCut_32, q_X9_bestCut_35, q_X9_bestCut_36, q_X9_bestCut_37, q_X9_bestCut_38, q_X9_bestCut_41, q_X9_bestCut_42, q_X9_bestCut_43, q_X9_bestCut_44, q_X9_bestCut_45, q_X9_bestCut_46, q_X9_bestCut_49, q_X9_bestCut_51, q_X9_bestCut_53, q_X9_bestCut_55, q_X9_bestCut_56, q_X9_bestCut_60, q_X9_bestCut_61, q_X9_bestCut_64, q_X9_bestCut_65, q_X9_bestCut_68, q_X9_bestCut_69, q_X9_bestCut_71, q_X9_bestCut_72, q_X9_bestCut_75, q_X9_bestCut_77, q_X9_bestCut_78, q_X9_bestCut_79, q_X9_bestCut_80, q_X9_bestCut_83, q_X9_bestCut_84, q_X9_bestCut_87, q_X9_bestCut_88, q_X9_bestCut_90, q_X9_bestCut_91, q_X9_bestCut_92, q_X9_bestCut_94, q_X9_bestCut_95, q_X9_bestCut_96, q_X9_bestCut_99, q_X9_bestCut_101, q_X9_bestCut_102, q_X9_bestCut_103, q_X9_bestCut_104, q_X9_bestCut_107, q_X9_bestCut_108, q_X9_bestCut_110, q_X9_bestCut_112, q_X9_bestCut_114, q_X9_bestCut_117, q_X9_bestCut_119, q_X9_bestCut_122, q_X9_bestCut_124, q_X9_bestCut_126, q_X9_bestCut_128, q_X9_bestCut_130, q_X9_bestCut_133, q_X9_bestCut_135, q_X9_bestCut_138, q_X9_bestCut_141, q_X9_bestCut_143, nI_add, pI_le, pI_lt, pI_eq, pI_neg, pI_nn, pI_le0, pI_gt0, pI_eq0, xbV_s, xbU_s, if_true, if_false, bI_eq0, Nat.reduceAdd, Nat.reduceSub, Nat.reduceEqDiff, Nat.reduceLeDiff, Nat.reduceLT, Bool.true_eq_false, Bool.false_eq_true, k9, r9_4, s9_isPage hI.2.1 hW, hx, s9_rf1]
  | true =>
    obtain ⟨p, hp, rfl⟩ := xLt_ex hx (by omega)
    have hl := hW.2.2.1 p hp
    have hi := sF_in hW hp
    have hn := sn_120 hW
    by_cases r : sl (zS α) p = 1
    · refine Agree.rd (-9999) (fun I hI => ⟨I, ?_, zG.rf⟩) (fun I hI hI' => ?_)
      · rw [e_X8_bestCut]
        simp (disch := omega) only [q_X8_bestCut_0, q_X8_bestCut_1, q_X8_bestCut_4, q_X8_bestCut_5, q_X8_bestCut_8, q_X8_bestCut_11, q_X8_bestCut_21, q_X8_bestCut_24, q_X8_bestCut_25, q_X8_bestCut_26, q_X8_bestCut_27, q_X8_bestCut_28, q_X8_bestCut_31, q_X8_bestCut_32, q_X8_bestCut_35, q_X8_bestCut_37, q_X8_bestCut_38, q_X8_bestCut_42, q_X8_bestCut_44, q_X8_bestCut_47, q_X8_bestCut_48, q_X8_bestCut_51, q_X8_bestCut_52, q_X8_bestCut_54, q_X8_bestCut_57, q_X8_bestCut_59, q_X8_bestCut_61, q_X8_bestCut_62, q_X8_bestCut_65, q_X8_bestCut_67, q_X8_bestCut_68, q_X8_bestCut_71, q_X8_bestCut_73, q_X8_bestCut_74, q_X8_bestCut_76, q_X8_bestCut_77, q_X8_bestCut_80, q_X8_bestCut_83, q_X8_bestCut_84, nI_add, pI_le, pI_lt, pI_eq, pI_neg, pI_nn, pI_le0, pI_gt0, pI_eq0, xbV_s, xbU_s, if_true, if_false, bI_eq0, Nat.reduceAdd, Nat.reduceSub, Nat.reduceEqDiff, Nat.reduceLeDiff, Nat.reduceLT, Bool.true_eq_false, Bool.false_eq_true, k0, k1, r0_0, s0_hasPage xCol_1 hI.2.1 hW, hx, s0_lengthOf xCol_1 hI.2.1 hW hp, r]
        rw [q_X8_bestCut_40]
        simp (disch := omega) only [q_X8_bestCut_0, q_X8_bestCut_1, q_X8_bestCut_4, q_X8_bestCut_5, q_X8_bestCut_8, q_X8_bestCut_11, q_X8_bestCut_21, q_X8_bestCut_24, q_X8_bestCut_25, q_X8_bestCut_26, q_X8_bestCut_27, q_X8_bestCut_28, q_X8_bestCut_31, q_X8_bestCut_32, q_X8_bestCut_35, q_X8_bestCut_37, q_X8_bestCut_38, q_X8_bestCut_42, q_X8_bestCut_44, q_X8_bestCut_47, q_X8_bestCut_48, q_X8_bestCut_51, q_X8_bestCut_52, q_X8_bestCut_54, q_X8_bestCut_57, q_X8_bestCut_59, q_X8_bestCut_61, q_X8_bestCut_62, q_X8_bestCut_65, q_X8_bestCut_67, q_X8_bestCut_68, q_X8_bestCut_71, q_X8_bestCut_73, q_X8_bestCut_74, q_X8_bestCut_76, q_X8_bestCut_77, q_X8_bestCut_80, q_X8_bestCut_83, q_X8_bestCut_84, nI_add, pI_le, pI_lt, pI_eq, pI_neg, pI_nn, pI_le0, pI_gt0, pI_eq0, xbV_s, xbU_s, if_true, if_false, bI_eq0, Nat.reduceAdd, Nat.reduceSub, Nat.reduceEqDiff, Nat.reduceLeDiff, Nat.reduceLT, Bool.true_eq_false, Bool.false_eq_true, Nat.le_refl]
      · have g := hI'.2.1.2.2.2.2.1 p hp
        rw [e_X9_bestCut]
        simp (disch := omega) only [q_X9_bestCut_0, q_X9_bestCut_1, q_X9_bestCut_2, q_X9_bestCut_5, q_X9_bestCut_6, q_X9_bestCut_9, q_X9_bestCut_12, q_X9_bestCut_13, q_X9_bestCut_16, q_X9_bestCut_17, q_X9_bestCut_20, q_X9_bestCut_23, q_X9_bestCut_24, q_X9_bestCut_25, q_X9_bestCut_27, q_X9_bestCut_28, q_X9_bestCut_31, q_X9_bestCut_32, q_X9_bestCut_35, q_X9_bestCut_36, q_X9_bestCut_37, q_X9_bestCut_38, q_X9_bestCut_41, q_X9_bestCut_42, q_X9_bestCut_43, q_X9_bestCut_44, q_X9_bestCut_45, q_X9_bestCut_46, q_X9_bestCut_49, q_X9_bestCut_51, q_X9_bestCut_53, q_X9_bestCut_55, q_X9_bestCut_56, q_X9_bestCut_60, q_X9_bestCut_61, q_X9_bestCut_64, q_X9_bestCut_65, q_X9_bestCut_68, q_X9_bestCut_69, q_X9_bestCut_71, q_X9_bestCut_72, q_X9_bestCut_75, q_X9_bestCut_77, q_X9_bestCut_78, q_X9_bestCut_79, q_X9_bestCut_80, q_X9_bestCut_83, q_X9_bestCut_84, q_X9_bestCut_87, q_X9_bestCut_88, q_X9_bestCut_90, q_X9_bestCut_91, q_X9_bestCut_92, q_X9_bestCut_94, q_X9_bestCut_95, q_X9_bestCut_96, q_X9_bestCut_99, q_X9_bestCut_101, q_X9_bestCut_102, q_X9_bestCut_103, q_X9_bestCut_104, q_X9_bestCut_107, q_X9_bestCut_108, q_X9_bestCut_110, q_X9_bestCut_112, q_X9_bestCut_114, q_X9_bestCut_117, q_X9_bestCut_119, q_X9_bestCut_122, q_X9_bestCut_124, q_X9_bestCut_126, q_X9_bestCut_128, q_X9_bestCut_130, q_X9_bestCut_133, q_X9_bestCut_135, q_X9_bestCut_138, q_X9_bestCut_141, q_X9_bestCut_143, nI_add, pI_le, pI_lt, pI_eq, pI_neg, pI_nn, pI_le0, pI_gt0, pI_eq0, xbV_s, xbU_s, if_true, if_false, bI_eq0, Nat.reduceAdd, Nat.reduceSub, Nat.reduceEqDiff, Nat.reduceLeDiff, Nat.reduceLT, Bool.true_eq_false, Bool.false_eq_true, k9, k91, l91, r9_4, s9_isPage hI.2.1 hW, hx, s9_rf0, s9_first hI'.2.1 hW (Nat.le_of_lt hp), g, r]
        rw [q_X9_bestCut_58]
        simp (disch := omega) only [q_X9_bestCut_0, q_X9_bestCut_1, q_X9_bestCut_2, q_X9_bestCut_5, q_X9_bestCut_6, q_X9_bestCut_9, q_X9_bestCut_12, q_X9_bestCut_13, q_X9_bestCut_16, q_X9_bestCut_17, q_X9_bestCut_20, q_X9_bestCut_23, q_X9_bestCut_24, q_X9_bestCut_25, q_X9_bestCut_27, q_X9_bestCut_28, q_X9_bestCut_31, q_X9_bestCut_32, q_X9_bestCut_35, q_X9_bestCut_36, q_X9_bestCut_37, q_X9_bestCut_38, q_X9_bestCut_41, q_X9_bestCut_42, q_X9_bestCut_43, q_X9_bestCut_44, q_X9_bestCut_45, q_X9_bestCut_46, q_X9_bestCut_49, q_X9_bestCut_51, q_X9_bestCut_53, q_X9_bestCut_55, q_X9_bestCut_56, q_X9_bestCut_60, q_X9_bestCut_61, q_X9_bestCut_64, q_X9_bestCut_65, q_X9_bestCut_68, q_X9_bestCut_69, q_X9_bestCut_71, q_X9_bestCut_72, q_X9_bestCut_75, q_X9_bestCut_77, q_X9_bestCut_78, q_X9_bestCut_79, q_X9_bestCut_80, q_X9_bestCut_83, q_X9_bestCut_84, q_X9_bestCut_87, q_X9_bestCut_88, q_X9_bestCut_90, q_X9_bestCut_91, q_X9_bestCut_92, q_X9_bestCut_94, q_X9_bestCut_95, q_X9_bestCut_96, q_X9_bestCut_99, q_X9_bestCut_101, q_X9_bestCut_102, q_X9_bestCut_103, q_X9_bestCut_104, q_X9_bestCut_107, q_X9_bestCut_108, q_X9_bestCut_110, q_X9_bestCut_112, q_X9_bestCut_114, q_X9_bestCut_117, q_X9_bestCut_119, q_X9_bestCut_122, q_X9_bestCut_124, q_X9_bestCut_126, q_X9_bestCut_128, q_X9_bestCut_130, q_X9_bestCut_133, q_X9_bestCut_135, q_X9_bestCut_138, q_X9_bestCut_141, q_X9_bestCut_143, nI_add, pI_le, pI_lt, pI_eq, pI_neg, pI_nn, pI_le0, pI_gt0, pI_eq0, xbV_s, xbU_s, if_true, if_false, bI_eq0, Nat.reduceAdd, Nat.reduceSub, Nat.reduceEqDiff, Nat.reduceLeDiff, Nat.reduceLT, Bool.true_eq_false, Bool.false_eq_true, Nat.le_refl]
    · have n1 : ¬ sl (zS α) p ≤ 1 := by omega
      have b2 := sPt_le hW hp (k := 1) (by omega)
      refine Agree.rd (nI (am (sPt (zS α) p) 1 (sl (zS α) p - 2))) (fun I hI => ?_) (fun I hI hI' => ?_)
      · obtain ⟨I2, f1, f2, f3⟩ := s0_parts (k := 1) xCol_1 hI.2.1 hW hp (by omega) (by omega)
        obtain ⟨I', g1, g2⟩ := op_bc_c (I := I) hW hp (sl (zS α) p - 2) 0 I2 (some (.int (nI (sPt (zS α) p 1)))) (by omega) f2 f3
        refine ⟨I', ?_, g2⟩
        rw [e_X8_bestCut]
        simp (disch := omega) only [q_X8_bestCut_0, q_X8_bestCut_1, q_X8_bestCut_4, q_X8_bestCut_5, q_X8_bestCut_8, q_X8_bestCut_11, q_X8_bestCut_21, q_X8_bestCut_24, q_X8_bestCut_25, q_X8_bestCut_26, q_X8_bestCut_27, q_X8_bestCut_28, q_X8_bestCut_31, q_X8_bestCut_32, q_X8_bestCut_35, q_X8_bestCut_37, q_X8_bestCut_38, q_X8_bestCut_42, q_X8_bestCut_44, q_X8_bestCut_47, q_X8_bestCut_48, q_X8_bestCut_51, q_X8_bestCut_52, q_X8_bestCut_54, q_X8_bestCut_57, q_X8_bestCut_59, q_X8_bestCut_61, q_X8_bestCut_62, q_X8_bestCut_65, q_X8_bestCut_67, q_X8_bestCut_68, q_X8_bestCut_71, q_X8_bestCut_73, q_X8_bestCut_74, q_X8_bestCut_76, q_X8_bestCut_77, q_X8_bestCut_80, q_X8_bestCut_83, q_X8_bestCut_84, nI_add, pI_le, pI_lt, pI_eq, pI_neg, pI_nn, pI_le0, pI_gt0, pI_eq0, xbV_s, xbU_s, if_true, if_false, bI_eq0, Nat.reduceAdd, Nat.reduceSub, Nat.reduceEqDiff, Nat.reduceLeDiff, Nat.reduceLT, Bool.true_eq_false, Bool.false_eq_true, k0, k1, r0_0, s0_hasPage xCol_1 hI.2.1 hW, hx, s0_lengthOf xCol_1 hI.2.1 hW hp]
        rw [q_X8_bestCut_40]
        simp (disch := omega) only [q_X8_bestCut_0, q_X8_bestCut_1, q_X8_bestCut_4, q_X8_bestCut_5, q_X8_bestCut_8, q_X8_bestCut_11, q_X8_bestCut_21, q_X8_bestCut_24, q_X8_bestCut_25, q_X8_bestCut_26, q_X8_bestCut_27, q_X8_bestCut_28, q_X8_bestCut_31, q_X8_bestCut_32, q_X8_bestCut_35, q_X8_bestCut_37, q_X8_bestCut_38, q_X8_bestCut_42, q_X8_bestCut_44, q_X8_bestCut_47, q_X8_bestCut_48, q_X8_bestCut_51, q_X8_bestCut_52, q_X8_bestCut_54, q_X8_bestCut_57, q_X8_bestCut_59, q_X8_bestCut_61, q_X8_bestCut_62, q_X8_bestCut_65, q_X8_bestCut_67, q_X8_bestCut_68, q_X8_bestCut_71, q_X8_bestCut_73, q_X8_bestCut_74, q_X8_bestCut_76, q_X8_bestCut_77, q_X8_bestCut_80, q_X8_bestCut_83, q_X8_bestCut_84, nI_add, pI_le, pI_lt, pI_eq, pI_neg, pI_nn, pI_le0, pI_gt0, pI_eq0, xbV_s, xbU_s, if_true, if_false, bI_eq0, Nat.reduceAdd, Nat.reduceSub, Nat.reduceEqDiff, Nat.reduceLeDiff, Nat.reduceLT, Bool.true_eq_false, Bool.false_eq_true, n1, k0, k1, r0_0, f1]
        exact g1
      · have g := hI'.2.1.2.2.2.2.1 p hp
        have gp := hI'.2.1.2.2.2.2.2.1 p hp
        have e1 : nI (sl (zS α) p) - nI 1 = nI (sl (zS α) p - 1) := pI_sub (by omega)
        have eP : pPin (sw (zS α) p) 1 (sp (zS α) p) + pPin (fun j => sv (zS α) (sF (zS α) p + 1 + j)) (sl (zS α) p - 1) (sp (zS α) p) = sPt (zS α) p 1 := rfl
        have n2 : ¬ 1000000 ≤ sPt (zS α) p 1 := by omega
        have ih := op_bc_m hW hp hI'.2.1 (sl (zS α) p - 2) 0 (some (.int (nI (sPt (zS α) p 1)))) (by omega)
        rw [e_X9_bestCut]
        simp (disch := omega) only [q_X9_bestCut_0, q_X9_bestCut_1, q_X9_bestCut_2, q_X9_bestCut_5, q_X9_bestCut_6, q_X9_bestCut_9, q_X9_bestCut_12, q_X9_bestCut_13, q_X9_bestCut_16, q_X9_bestCut_17, q_X9_bestCut_20, q_X9_bestCut_23, q_X9_bestCut_24, q_X9_bestCut_25, q_X9_bestCut_27, q_X9_bestCut_28, q_X9_bestCut_31, q_X9_bestCut_32, q_X9_bestCut_35, q_X9_bestCut_36, q_X9_bestCut_37, q_X9_bestCut_38, q_X9_bestCut_41, q_X9_bestCut_42, q_X9_bestCut_43, q_X9_bestCut_44, q_X9_bestCut_45, q_X9_bestCut_46, q_X9_bestCut_49, q_X9_bestCut_51, q_X9_bestCut_53, q_X9_bestCut_55, q_X9_bestCut_56, q_X9_bestCut_60, q_X9_bestCut_61, q_X9_bestCut_64, q_X9_bestCut_65, q_X9_bestCut_68, q_X9_bestCut_69, q_X9_bestCut_71, q_X9_bestCut_72, q_X9_bestCut_75, q_X9_bestCut_77, q_X9_bestCut_78, q_X9_bestCut_79, q_X9_bestCut_80, q_X9_bestCut_83, q_X9_bestCut_84, q_X9_bestCut_87, q_X9_bestCut_88, q_X9_bestCut_90, q_X9_bestCut_91, q_X9_bestCut_92, q_X9_bestCut_94, q_X9_bestCut_95, q_X9_bestCut_96, q_X9_bestCut_99, q_X9_bestCut_101, q_X9_bestCut_102, q_X9_bestCut_103, q_X9_bestCut_104, q_X9_bestCut_107, q_X9_bestCut_108, q_X9_bestCut_110, q_X9_bestCut_112, q_X9_bestCut_114, q_X9_bestCut_117, q_X9_bestCut_119, q_X9_bestCut_122, q_X9_bestCut_124, q_X9_bestCut_126, q_X9_bestCut_128, q_X9_bestCut_130, q_X9_bestCut_133, q_X9_bestCut_135, q_X9_bestCut_138, q_X9_bestCut_141, q_X9_bestCut_143, nI_add, pI_le, pI_lt, pI_eq, pI_neg, pI_nn, pI_le0, pI_gt0, pI_eq0, xbV_s, xbU_s, if_true, if_false, bI_eq0, Nat.reduceAdd, Nat.reduceSub, Nat.reduceEqDiff, Nat.reduceLeDiff, Nat.reduceLT, Bool.true_eq_false, Bool.false_eq_true, k9, k91, l91, r9_4, s9_isPage hI.2.1 hW, hx, s9_rf0, s9_first hI'.2.1 hW (Nat.le_of_lt hp), g]
        rw [q_X9_bestCut_58]
        simp (disch := omega) only [q_X9_bestCut_0, q_X9_bestCut_1, q_X9_bestCut_2, q_X9_bestCut_5, q_X9_bestCut_6, q_X9_bestCut_9, q_X9_bestCut_12, q_X9_bestCut_13, q_X9_bestCut_16, q_X9_bestCut_17, q_X9_bestCut_20, q_X9_bestCut_23, q_X9_bestCut_24, q_X9_bestCut_25, q_X9_bestCut_27, q_X9_bestCut_28, q_X9_bestCut_31, q_X9_bestCut_32, q_X9_bestCut_35, q_X9_bestCut_36, q_X9_bestCut_37, q_X9_bestCut_38, q_X9_bestCut_41, q_X9_bestCut_42, q_X9_bestCut_43, q_X9_bestCut_44, q_X9_bestCut_45, q_X9_bestCut_46, q_X9_bestCut_49, q_X9_bestCut_51, q_X9_bestCut_53, q_X9_bestCut_55, q_X9_bestCut_56, q_X9_bestCut_60, q_X9_bestCut_61, q_X9_bestCut_64, q_X9_bestCut_65, q_X9_bestCut_68, q_X9_bestCut_69, q_X9_bestCut_71, q_X9_bestCut_72, q_X9_bestCut_75, q_X9_bestCut_77, q_X9_bestCut_78, q_X9_bestCut_79, q_X9_bestCut_80, q_X9_bestCut_83, q_X9_bestCut_84, q_X9_bestCut_87, q_X9_bestCut_88, q_X9_bestCut_90, q_X9_bestCut_91, q_X9_bestCut_92, q_X9_bestCut_94, q_X9_bestCut_95, q_X9_bestCut_96, q_X9_bestCut_99, q_X9_bestCut_101, q_X9_bestCut_102, q_X9_bestCut_103, q_X9_bestCut_104, q_X9_bestCut_107, q_X9_bestCut_108, q_X9_bestCut_110, q_X9_bestCut_112, q_X9_bestCut_114, q_X9_bestCut_117, q_X9_bestCut_119, q_X9_bestCut_122, q_X9_bestCut_124, q_X9_bestCut_126, q_X9_bestCut_128, q_X9_bestCut_130, q_X9_bestCut_133, q_X9_bestCut_135, q_X9_bestCut_138, q_X9_bestCut_141, q_X9_bestCut_143, nI_add, pI_le, pI_lt, pI_eq, pI_neg, pI_nn, pI_le0, pI_gt0, pI_eq0, xbV_s, xbU_s, if_true, if_false, bI_eq0, Nat.reduceAdd, Nat.reduceSub, Nat.reduceEqDiff, Nat.reduceLeDiff, Nat.reduceLT, Bool.true_eq_false, Bool.false_eq_true, n1, k9, k91, l91, r9_4, gp, s9_pt1 hI'.2.1 hW hp (Nat.le_refl 1) (by omega), e1, s9_pt2 hI'.2.1 hW hp (Nat.le_refl 1) (by omega), eP, n2, s9_less, Nat.min_eq_right (show sPt (zS α) p 1 ≤ 1000000 by omega)]
        exact ih
end PO2
/-! the page with one value more -/
def sNx (S : cS) (p v : Nat) : Nat := pPin (nup (sw S p) (sl S p) v) (sl S p + 1) (sp S p)
theorem sNx_w {S : cS} (hW : sWF S) {p v : Nat} (hp : p < sq S) (hv : v ≤ 1023) : ∀ j, j < sl S p + 1 → nup (sw S p) (sl S p) v j ≤ 1023 := by
  intro j hj
  unfold nup
  split
  · exact hv
  · exact sw_le hW hp j (by omega)
theorem sNx_le {S : cS} (hW : sWF S) {p v : Nat} (hp : p < sq S) (h12 : sl S p < 12) (hv : v ≤ 1023) : sNx S p v ≤ 189 := pPin_le (by omega) (sNx_w hW hp hv) _
theorem cM.cw {I : xMem} {b k : Nat} {w u : Nat → Nat} (h : cM I b w k) (e : ∀ j, j < k → u j = w j) : cM I b u k := by
  have e' : ∀ j, j < k → w j = u j := fun j hj => (e j hj).symm
  obtain ⟨h1, h2, h9, h3, h4⟩ := h
  refine ⟨by rw [pDiff_congr e]; exact h1, h2, by rw [pStep_congr e]; exact h9, fun h0 => ?_, fun j hj hf => ?_⟩
  · obtain ⟨g3, g4, g5, g6, g7, g8⟩ := h3 h0
    rw [pDiff_congr e, pMn_congr e, pMx_congr e, pRuns_congr e, e (k - 1) (by omega)]
    exact ⟨g3, g4, g5, g6, g7, g8⟩
  · rw [e j hj] at hf ⊢
    rw [pFree_congr (fun i hi => e i (by omega))] at hf
    rw [pDiff_congr (fun i hi => e i (by omega))]
    exact h4 j hj hf
theorem xMes183 : xMes 183 := ⟨by decide, by decide, by decide, by decide⟩
theorem r0_7 : xR 0 7 = 183 := by decide
theorem x183 : xK 183 = 2 := by decide
theorem x8 : xK (1 + 7) = 2 := by decide
section PB2
variable {S : cS} {I : xMem}
/-- one try of the class -/
theorem s8_try {p v : Nat} (hW : sWF S) (hp : p < sq S) (h12 : sl S p < 12) (hv : v ≤ 1023) (hM : cM I (1 + 7) (sw S p) (sl S p)) : ∃ I1 I2, f_X2_copyFrom [.ref 183, .ref (1 + 7)] I = some (.inl none, I1) ∧ f_X2_include [.ref 183, .int (nI v)] I1 = some (.inl none, I2) ∧ zG 183 2 I I2 ∧ f_X2_sizeWhen [.ref 183, .int (xpn (sp S p))] I2 = some (.inl (some (.int (nI (sNx S p v)))), I2) := by
  have hl := hW.2.2.1 p hp
  have hpin := hW.2.2.2.2.2 p hp
  obtain ⟨I1, f1, f2, f3⟩ := s2_copy xMes183 (xCol_1.2.2.2.2.2.2.2.2) (by omega) hM (by omega) hl.1
  have f4 := f3.cw (u := nup (sw S p) (sl S p) v) (fun j hj => by unfold nup; rw [if_neg (by omega)])
  obtain ⟨I2, g1, g2, g3⟩ := s2_include xMes183 f4 h12 (fun j hj => sNx_w hW hp hv j (by omega))
  rw [show nup (sw S p) (sl S p) v (sl S p) = v by unfold nup; rw [if_pos rfl]] at g1
  exact ⟨I1, I2, f1, g1, f2.tr g2, s2_size xMes183 g3 (by omega) (by omega) (sNx_w hW hp hv) hpin⟩
theorem op_bn_c {p : Nat} (hW : sWF S) (hp : p < sq S) (h12 : sl S p < 12) : ∀ d s (I1 : xMem) (l : Option Value), s + 1 + d = 1024 → zG 183 2 I I1 → cR I1 1 S → cM I1 (1 + 7) (sw S p) (sl S p) → ∃ I', xgo k_X8_bestNext 55 [some (.ref 0), some (.int (nI p)), some (.ref (1 + 7)), some (.int (nI (am (sNx S p) 0 s))), some (.int (nI (sNx S p (am (sNx S p) 0 s)))), some (.int (nI (s + 1))), l] [] I1 = some (.inl (some (.int (nI (am (sNx S p) 0 1023)))), I') ∧ zG 183 2 I I' := by
  have k0 := x0
  have k1 := x1
  have k8 := x8
  have k83 := x183
  have hl := hW.2.2.1 p hp
  intro d
  induction d with
  | zero =>
    intro s I1 l hs hG h hM
    have e : s = 1023 := by omega
    subst e
    have n1 : 1023 < 1023 + 1 := by omega
    refine ⟨I1, ?_, hG⟩
    rw [q_X8_bestNext_55]
    simp (disch := omega) only [q_X8_bestNext_0, q_X8_bestNext_1, q_X8_bestNext_4, q_X8_bestNext_5, q_X8_bestNext_8, q_X8_bestNext_11, q_X8_bestNext_21, q_X8_bestNext_22, q_X8_bestNext_25, q_X8_bestNext_26, q_X8_bestNext_29, q_X8_bestNext_31, q_X8_bestNext_34, q_X8_bestNext_37, q_X8_bestNext_38, q_X8_bestNext_39, q_X8_bestNext_42, q_X8_bestNext_43, q_X8_bestNext_46, q_X8_bestNext_47, q_X8_bestNext_48, q_X8_bestNext_49, q_X8_bestNext_50, q_X8_bestNext_52, q_X8_bestNext_53, q_X8_bestNext_57, q_X8_bestNext_60, q_X8_bestNext_63, q_X8_bestNext_64, q_X8_bestNext_67, q_X8_bestNext_68, q_X8_bestNext_71, q_X8_bestNext_72, q_X8_bestNext_75, q_X8_bestNext_77, q_X8_bestNext_80, q_X8_bestNext_81, q_X8_bestNext_84, q_X8_bestNext_85, q_X8_bestNext_88, q_X8_bestNext_89, q_X8_bestNext_92, q_X8_bestNext_95, q_X8_bestNext_97, q_X8_bestNext_99, q_X8_bestNext_102, q_X8_bestNext_104, q_X8_bestNext_106, q_X8_bestNext_109, q_X8_bestNext_111, q_X8_bestNext_112, q_X8_bestNext_114, q_X8_bestNext_116, q_X8_bestNext_119, q_X8_bestNext_122, q_X8_bestNext_123, nI_add, pI_le, pI_lt, pI_eq, pI_neg, pI_nn, pI_le0, pI_gt0, pI_eq0, xbV_s, xbU_s, if_true, if_false, bI_eq0, Nat.reduceAdd, Nat.reduceSub, Nat.reduceEqDiff, Nat.reduceLeDiff, Nat.reduceLT, Bool.true_eq_false, Bool.false_eq_true]
  | succ d ih =>
    intro s I1 l hs hG h hM
    have n1 : ¬ 1023 < s + 1 := by omega
    have n2 : ¬ s + 1 = 0 := by omega
    obtain ⟨I2, I3, f1, f2, f3, f4⟩ := s8_try (v := s + 1) hW hp h12 (by omega) hM
    have b1 := am_le (sNx S p) 0 s
    have b2 := sNx_le hW hp h12 (v := s + 1) (by omega)
    have b3 := sNx_le hW hp h12 (v := am (sNx S p) 0 s) (by omega)
    have h3 : cR I3 1 S := h.cg (fun c h6 h7 => f3 c (by omega))
    obtain ⟨I', g1, g2⟩ := ih (s + 1) I3 (some (.int (nI (sNx S p (s + 1))))) (by omega) (hG.tr f3) h3 (hM.cg (f3 _ (by omega)) (f3 _ (by omega)))
    refine ⟨I', ?_, g2⟩
    rw [am_s, show 0 + s + 1 = s + 1 by omega] at g1
    rw [q_X8_bestNext_55]
    by_cases q : sNx S p (am (sNx S p) 0 s) ≤ sNx S p (s + 1)
    · rw [if_neg (by omega)] at g1
      simp (disch := omega) only [q_X8_bestNext_0, q_X8_bestNext_1, q_X8_bestNext_4, q_X8_bestNext_5, q_X8_bestNext_8, q_X8_bestNext_11, q_X8_bestNext_21, q_X8_bestNext_22, q_X8_bestNext_25, q_X8_bestNext_26, q_X8_bestNext_29, q_X8_bestNext_31, q_X8_bestNext_34, q_X8_bestNext_37, q_X8_bestNext_38, q_X8_bestNext_39, q_X8_bestNext_42, q_X8_bestNext_43, q_X8_bestNext_46, q_X8_bestNext_47, q_X8_bestNext_48, q_X8_bestNext_49, q_X8_bestNext_50, q_X8_bestNext_52, q_X8_bestNext_53, q_X8_bestNext_57, q_X8_bestNext_60, q_X8_bestNext_63, q_X8_bestNext_64, q_X8_bestNext_67, q_X8_bestNext_68, q_X8_bestNext_71, q_X8_bestNext_72, q_X8_bestNext_75, q_X8_bestNext_77, q_X8_bestNext_80, q_X8_bestNext_81, q_X8_bestNext_84, q_X8_bestNext_85, q_X8_bestNext_88, q_X8_bestNext_89, q_X8_bestNext_92, q_X8_bestNext_95, q_X8_bestNext_97, q_X8_bestNext_99, q_X8_bestNext_102, q_X8_bestNext_104, q_X8_bestNext_106, q_X8_bestNext_109, q_X8_bestNext_111, q_X8_bestNext_112, q_X8_bestNext_114, q_X8_bestNext_116, q_X8_bestNext_119, q_X8_bestNext_122, q_X8_bestNext_123, nI_add, pI_le, pI_lt, pI_eq, pI_neg, pI_nn, pI_le0, pI_gt0, pI_eq0, xbV_s, xbU_s, if_true, if_false, bI_eq0, Nat.reduceAdd, Nat.reduceSub, Nat.reduceEqDiff, Nat.reduceLeDiff, Nat.reduceLT, Bool.true_eq_false, Bool.false_eq_true, n1, n2, k0, k1, k8, k83, r0_0, r0_7, f1, f2, s0_pinOf xCol_1 h3 hW hp, f4, q]
      exact g1
    · rw [if_pos (by omega)] at g1
      simp (disch := omega) only [q_X8_bestNext_0, q_X8_bestNext_1, q_X8_bestNext_4, q_X8_bestNext_5, q_X8_bestNext_8, q_X8_bestNext_11, q_X8_bestNext_21, q_X8_bestNext_22, q_X8_bestNext_25, q_X8_bestNext_26, q_X8_bestNext_29, q_X8_bestNext_31, q_X8_bestNext_34, q_X8_bestNext_37, q_X8_bestNext_38, q_X8_bestNext_39, q_X8_bestNext_42, q_X8_bestNext_43, q_X8_bestNext_46, q_X8_bestNext_47, q_X8_bestNext_48, q_X8_bestNext_49, q_X8_bestNext_50, q_X8_bestNext_52, q_X8_bestNext_53, q_X8_bestNext_57, q_X8_bestNext_60, q_X8_bestNext_63, q_X8_bestNext_64, q_X8_bestNext_67, q_X8_bestNext_68, q_X8_bestNext_71, q_X8_bestNext_72, q_X8_bestNext_75, q_X8_bestNext_77, q_X8_bestNext_80, q_X8_bestNext_81, q_X8_bestNext_84, q_X8_bestNext_85, q_X8_bestNext_88, q_X8_bestNext_89, q_X8_bestNext_92, q_X8_bestNext_95, q_X8_bestNext_97, q_X8_bestNext_99, q_X8_bestNext_102, q_X8_bestNext_104, q_X8_bestNext_106, q_X8_bestNext_109, q_X8_bestNext_111, q_X8_bestNext_112, q_X8_bestNext_114, q_X8_bestNext_116, q_X8_bestNext_119, q_X8_bestNext_122, q_X8_bestNext_123, nI_add, pI_le, pI_lt, pI_eq, pI_neg, pI_nn, pI_le0, pI_gt0, pI_eq0, xbV_s, xbU_s, if_true, if_false, bI_eq0, Nat.reduceAdd, Nat.reduceSub, Nat.reduceEqDiff, Nat.reduceLeDiff, Nat.reduceLT, Bool.true_eq_false, Bool.false_eq_true, n1, n2, k0, k1, k8, k83, r0_0, r0_7, f1, f2, s0_pinOf xCol_1 h3 hW hp, f4, q]
      exact g1
theorem op_bn_cp {p : Nat} (hW : sWF S) (hp : p < sq S) (h : mR I 191 S) : ∀ d k (I1 : xMem), k + d = sl S p → xO 193 I I1 → (∀ j, j < k → I1 193 j = nI (sw S p j)) → ∃ I', xgo k_X9_bestNext 59 [some (.ref 189), some (.int (nI p)), some (.int (nI (22 + sF S p))), some (.int (nI (sl S p))), some (.int (nI k)), none, none, none] [] I1 = xgo k_X9_bestNext 99 [some (.ref 189), some (.int (nI p)), some (.int (nI (22 + sF S p))), some (.int (nI (sl S p))), some (.int (-9999)), some (.int (nI 1000000)), some (.int (nI 0)), none] [] I' ∧ xO 193 I I' ∧ (∀ j, j < sl S p → I' 193 j = nI (sw S p j)) := by
  have k9 := x189
  have k91 := x191
  have l91 := l191
  have k93 := x193
  have l93 := l193
  have hl := hW.2.2.1 p hp
  have hi := sF_in hW hp
  have hn := sn_120 hW
  intro d
  induction d with
  | zero =>
    intro k I1 hk hO hj
    have e : k = sl S p := by omega
    refine ⟨I1, ?_, hO, fun j hj' => hj j (by omega)⟩
    rw [e, q_X9_bestNext_59]
    simp (disch := omega) only [q_X9_bestNext_61, q_X9_bestNext_62, q_X9_bestNext_65, q_X9_bestNext_66, q_X9_bestNext_69, q_X9_bestNext_71, q_X9_bestNext_72, q_X9_bestNext_75, q_X9_bestNext_76, q_X9_bestNext_78, q_X9_bestNext_79, q_X9_bestNext_80, q_X9_bestNext_81, q_X9_bestNext_84, q_X9_bestNext_87, q_X9_bestNext_90, q_X9_bestNext_92, q_X9_bestNext_94, q_X9_bestNext_96, q_X9_bestNext_97, nI_add, pI_le, pI_lt, pI_eq, pI_neg, pI_nn, pI_le0, pI_gt0, pI_eq0, xbV_s, xbU_s, if_true, if_false, bI_eq0, Nat.reduceAdd, Nat.reduceSub, Nat.reduceEqDiff, Nat.reduceLeDiff, Nat.reduceLT, Bool.true_eq_false, Bool.false_eq_true, Nat.le_refl]
  | succ d ih =>
    intro k I1 hk hO hj
    have n1 : ¬ sl S p ≤ k := by omega
    have e1 : I1 191 = I 191 := hO 191 (by omega)
    have g := h.2.2.2.2.2.2 (sF S p + k) (by omega)
    rw [show 22 + (sF S p + k) = 22 + sF S p + k by omega] at g
    obtain ⟨I', f1, f2, f3⟩ := ih (k + 1) (xup I1 193 k (nI (sw S p k))) (by omega) hO.up (fun j hj' => by
      by_cases e : j = k
      · subst e; rw [xup_s]
      · rw [xup_d e]; exact hj j (by omega))
    refine ⟨I', ?_, f2, f3⟩
    rw [q_X9_bestNext_59]
    simp (disch := omega) only [q_X9_bestNext_61, q_X9_bestNext_62, q_X9_bestNext_65, q_X9_bestNext_66, q_X9_bestNext_69, q_X9_bestNext_71, q_X9_bestNext_72, q_X9_bestNext_75, q_X9_bestNext_76, q_X9_bestNext_78, q_X9_bestNext_79, q_X9_bestNext_80, q_X9_bestNext_81, q_X9_bestNext_84, q_X9_bestNext_87, q_X9_bestNext_90, q_X9_bestNext_92, q_X9_bestNext_94, q_X9_bestNext_96, q_X9_bestNext_97, nI_add, pI_le, pI_lt, pI_eq, pI_neg, pI_nn, pI_le0, pI_gt0, pI_eq0, xbV_s, xbU_s, if_true, if_false, bI_eq0, Nat.reduceAdd, Nat.reduceSub, Nat.reduceEqDiff, Nat.reduceLeDiff, Nat.reduceLT, Bool.true_eq_false, Bool.false_eq_true, n1, k9, k91, l91, k93, l93, r9_4, r9_6, e1, g]
    exact f1
theorem op_bn_ms {p v : Nat} (hW : sWF S) (hp : p < sq S) (h12 : sl S p < 12) (hv : v ≤ 1023) (hO : ∀ j, j < sl S p → I 193 j = nI (sw S p j)) : f_X9_pinnedSize [.ref 193, .int (nI 0), .int (nI (sl S p + 1)), .int (nI (sp S p))] (xup I 193 (sl S p) (nI v)) = some (.inl (some (.int (nI (sNx S p v)))), xup I 193 (sl S p) (nI v)) := by
  have e : mW (xup I 193 (sl S p) (nI v)) 193 0 (sl S p + 1) (nup (sw S p) (sl S p) v) := by
    refine ⟨x193, by rw [l193]; omega, by rw [l193]; decide, fun j hj => ?_, sNx_w hW hp hv⟩
    rw [Nat.zero_add]
    unfold nup
    by_cases e : j = sl S p
    · rw [if_pos e, e, xup_s]
    · rw [if_neg e, xup_d e]; exact hO j (by omega)
  exact s9_pinned e (by omega) (by omega) (hW.2.2.2.2.2 p hp)
theorem op_bn_m {p : Nat} (hW : sWF S) (hp : p < sq S) (h12 : sl S p < 12) : ∀ d s (I1 : xMem) (l : Option Value), s + 1 + d = 1024 → xO 193 I I1 → mR I1 191 S → (∀ j, j < sl S p → I1 193 j = nI (sw S p j)) → ∃ I', xgo k_X9_bestNext 99 [some (.ref 189), some (.int (nI p)), some (.int (nI (22 + sF S p))), some (.int (nI (sl S p))), some (.int (nI (am (sNx S p) 0 s))), some (.int (nI (sNx S p (am (sNx S p) 0 s)))), some (.int (nI (s + 1))), l] [] I1 = some (.inl (some (.int (nI (am (sNx S p) 0 1023)))), I') ∧ xO 193 I I' := by
  have k9 := x189
  have k91 := x191
  have l91 := l191
  have k93 := x193
  have l93 := l193
  have hl := hW.2.2.1 p hp
  have hq := hW.1
  intro d
  induction d with
  | zero =>
    intro s I1 l hs hO h hj
    have e : s = 1023 := by omega
    subst e
    refine ⟨I1, ?_, hO⟩
    rw [q_X9_bestNext_99]
    simp (disch := omega) only [q_X9_bestNext_0, q_X9_bestNext_1, q_X9_bestNext_2, q_X9_bestNext_5, q_X9_bestNext_6, q_X9_bestNext_9, q_X9_bestNext_12, q_X9_bestNext_13, q_X9_bestNext_16, q_X9_bestNext_17, q_X9_bestNext_20, q_X9_bestNext_23, q_X9_bestNext_24, q_X9_bestNext_25, q_X9_bestNext_27, q_X9_bestNext_28, q_X9_bestNext_31, q_X9_bestNext_32, q_X9_bestNext_35, q_X9_bestNext_36, q_X9_bestNext_37, q_X9_bestNext_38, q_X9_bestNext_41, q_X9_bestNext_42, q_X9_bestNext_43, q_X9_bestNext_44, q_X9_bestNext_45, q_X9_bestNext_46, q_X9_bestNext_47, q_X9_bestNext_49, q_X9_bestNext_52, q_X9_bestNext_55, q_X9_bestNext_56, q_X9_bestNext_57, q_X9_bestNext_61, q_X9_bestNext_62, q_X9_bestNext_65, q_X9_bestNext_66, q_X9_bestNext_69, q_X9_bestNext_71, q_X9_bestNext_72, q_X9_bestNext_75, q_X9_bestNext_76, q_X9_bestNext_78, q_X9_bestNext_79, q_X9_bestNext_80, q_X9_bestNext_81, q_X9_bestNext_84, q_X9_bestNext_87, q_X9_bestNext_90, q_X9_bestNext_92, q_X9_bestNext_94, q_X9_bestNext_96, q_X9_bestNext_97, q_X9_bestNext_101, q_X9_bestNext_104, q_X9_bestNext_107, q_X9_bestNext_108, q_X9_bestNext_111, q_X9_bestNext_112, q_X9_bestNext_114, q_X9_bestNext_115, q_X9_bestNext_116, q_X9_bestNext_119, q_X9_bestNext_120, q_X9_bestNext_121, q_X9_bestNext_122, q_X9_bestNext_123, q_X9_bestNext_124, q_X9_bestNext_127, q_X9_bestNext_129, q_X9_bestNext_130, q_X9_bestNext_131, q_X9_bestNext_132, q_X9_bestNext_135, q_X9_bestNext_137, q_X9_bestNext_139, q_X9_bestNext_141, q_X9_bestNext_144, q_X9_bestNext_146, q_X9_bestNext_149, q_X9_bestNext_151, q_X9_bestNext_153, q_X9_bestNext_155, q_X9_bestNext_157, q_X9_bestNext_160, q_X9_bestNext_162, q_X9_bestNext_165, q_X9_bestNext_168, q_X9_bestNext_170, nI_add, pI_le, pI_lt, pI_eq, pI_neg, pI_nn, pI_le0, pI_gt0, pI_eq0, xbV_s, xbU_s, if_true, if_false, bI_eq0, Nat.reduceAdd, Nat.reduceSub, Nat.reduceEqDiff, Nat.reduceLeDiff, Nat.reduceLT, Bool.true_eq_false, Bool.false_eq_true]
  | succ d ih =>
    intro s I1 l hs hO h hj
    have n1 : ¬ 1023 < s + 1 := by omega
    have b1 := am_le (sNx S p) 0 s
    have b2 := sNx_le hW hp h12 (v := s + 1) (by omega)
    have b3 := sNx_le hW hp h12 (v := am (sNx S p) 0 s) (by omega)
    have hs1 := op_bn_ms (I := I1) (v := s + 1) hW hp h12 (by omega) hj
    have g := h.2.2.2.2.2.1 p hp
    obtain ⟨I', f1, f2⟩ := ih (s + 1) (xup I1 193 (sl S p) (nI (s + 1))) (some (.int (nI (sNx S p (s + 1))))) (by omega) hO.up (h.cg (xup_o (by omega))) (fun j hj' => by rw [xup_d (by omega)]; exact hj j hj')
    refine ⟨I', ?_, f2⟩
    rw [am_s, show 0 + s + 1 = s + 1 by omega] at f1
    rw [q_X9_bestNext_99]
    by_cases q : sNx S p (am (sNx S p) 0 s) ≤ sNx S p (s + 1)
    · rw [if_neg (by omega)] at f1
      simp (disch := omega) only [q_X9_bestNext_0, q_X9_bestNext_1, q_X9_bestNext_2, q_X9_bestNext_5, q_X9_bestNext_6, q_X9_bestNext_9, q_X9_bestNext_12, q_X9_bestNext_13, q_X9_bestNext_16, q_X9_bestNext_17, q_X9_bestNext_20, q_X9_bestNext_23, q_X9_bestNext_24, q_X9_bestNext_25, q_X9_bestNext_27, q_X9_bestNext_28, q_X9_bestNext_31, q_X9_bestNext_32, q_X9_bestNext_35, q_X9_bestNext_36, q_X9_bestNext_37, q_X9_bestNext_38, q_X9_bestNext_41, q_X9_bestNext_42, q_X9_bestNext_43, q_X9_bestNext_44, q_X9_bestNext_45, q_X9_bestNext_46, q_X9_bestNext_47, q_X9_bestNext_49, q_X9_bestNext_52, q_X9_bestNext_55, q_X9_bestNext_56, q_X9_bestNext_57, q_X9_bestNext_61, q_X9_bestNext_62, q_X9_bestNext_65, q_X9_bestNext_66, q_X9_bestNext_69, q_X9_bestNext_71, q_X9_bestNext_72, q_X9_bestNext_75, q_X9_bestNext_76, q_X9_bestNext_78, q_X9_bestNext_79, q_X9_bestNext_80, q_X9_bestNext_81, q_X9_bestNext_84, q_X9_bestNext_87, q_X9_bestNext_90, q_X9_bestNext_92, q_X9_bestNext_94, q_X9_bestNext_96, q_X9_bestNext_97, q_X9_bestNext_101, q_X9_bestNext_104, q_X9_bestNext_107, q_X9_bestNext_108, q_X9_bestNext_111, q_X9_bestNext_112, q_X9_bestNext_114, q_X9_bestNext_115, q_X9_bestNext_116, q_X9_bestNext_119, q_X9_bestNext_120, q_X9_bestNext_121, q_X9_bestNext_122, q_X9_bestNext_123, q_X9_bestNext_124, q_X9_bestNext_127, q_X9_bestNext_129, q_X9_bestNext_130, q_X9_bestNext_131, q_X9_bestNext_132, q_X9_bestNext_135, q_X9_bestNext_137, q_X9_bestNext_139, q_X9_bestNext_141, q_X9_bestNext_144, q_X9_bestNext_146, q_X9_bestNext_149, q_X9_bestNext_151, q_X9_bestNext_153, q_X9_bestNext_155, q_X9_bestNext_157, q_X9_bestNext_160, q_X9_bestNext_162, q_X9_bestNext_165, q_X9_bestNext_168, q_X9_bestNext_170, nI_add, pI_le, pI_lt, pI_eq, pI_neg, pI_nn, pI_le0, pI_gt0, pI_eq0, xbV_s, xbU_s, if_true, if_false, bI_eq0, Nat.reduceAdd, Nat.reduceSub, Nat.reduceEqDiff, Nat.reduceLeDiff, Nat.reduceLT, Bool.true_eq_false, Bool.false_eq_true, n1, k9, k91, l91, k93, l93, r9_4, r9_6, xup_o, g, hs1, q, s9_less, Nat.min_eq_left q]
      exact f1
    · rw [if_pos (by omega)] at f1
      simp (disch := omega) only [q_X9_bestNext_0, q_X9_bestNext_1, q_X9_bestNext_2, q_X9_bestNext_5, q_X9_bestNext_6, q_X9_bestNext_9, q_X9_bestNext_12, q_X9_bestNext_13, q_X9_bestNext_16, q_X9_bestNext_17, q_X9_bestNext_20, q_X9_bestNext_23, q_X9_bestNext_24, q_X9_bestNext_25, q_X9_bestNext_27, q_X9_bestNext_28, q_X9_bestNext_31, q_X9_bestNext_32, q_X9_bestNext_35, q_X9_bestNext_36, q_X9_bestNext_37, q_X9_bestNext_38, q_X9_bestNext_41, q_X9_bestNext_42, q_X9_bestNext_43, q_X9_bestNext_44, q_X9_bestNext_45, q_X9_bestNext_46, q_X9_bestNext_47, q_X9_bestNext_49, q_X9_bestNext_52, q_X9_bestNext_55, q_X9_bestNext_56, q_X9_bestNext_57, q_X9_bestNext_61, q_X9_bestNext_62, q_X9_bestNext_65, q_X9_bestNext_66, q_X9_bestNext_69, q_X9_bestNext_71, q_X9_bestNext_72, q_X9_bestNext_75, q_X9_bestNext_76, q_X9_bestNext_78, q_X9_bestNext_79, q_X9_bestNext_80, q_X9_bestNext_81, q_X9_bestNext_84, q_X9_bestNext_87, q_X9_bestNext_90, q_X9_bestNext_92, q_X9_bestNext_94, q_X9_bestNext_96, q_X9_bestNext_97, q_X9_bestNext_101, q_X9_bestNext_104, q_X9_bestNext_107, q_X9_bestNext_108, q_X9_bestNext_111, q_X9_bestNext_112, q_X9_bestNext_114, q_X9_bestNext_115, q_X9_bestNext_116, q_X9_bestNext_119, q_X9_bestNext_120, q_X9_bestNext_121, q_X9_bestNext_122, q_X9_bestNext_123, q_X9_bestNext_124, q_X9_bestNext_127, q_X9_bestNext_129, q_X9_bestNext_130, q_X9_bestNext_131, q_X9_bestNext_132, q_X9_bestNext_135, q_X9_bestNext_137, q_X9_bestNext_139, q_X9_bestNext_141, q_X9_bestNext_144, q_X9_bestNext_146, q_X9_bestNext_149, q_X9_bestNext_151, q_X9_bestNext_153, q_X9_bestNext_155, q_X9_bestNext_157, q_X9_bestNext_160, q_X9_bestNext_162, q_X9_bestNext_165, q_X9_bestNext_168, q_X9_bestNext_170, nI_add, pI_le, pI_lt, pI_eq, pI_neg, pI_nn, pI_le0, pI_gt0, pI_eq0, xbV_s, xbU_s, if_true, if_false, bI_eq0, Nat.reduceAdd, Nat.reduceSub, Nat.reduceEqDiff, Nat.reduceLeDiff, Nat.reduceLT, Bool.true_eq_false, Bool.false_eq_true, n1, k9, k91, l91, k93, l93, r9_4, r9_6, xup_o, g, hs1, q, s9_less, Nat.min_eq_right (show sNx S p (s + 1) ≤ sNx S p (am (sNx S p) 0 s) by omega)]
      exact f1
end PB2
section PO3
variable {α : aS}
theorem op_bestNext (x : Int32) : Agree f_X8_bestNext f_X9_bestNext [.int x] [3] α := Agree.wf fun hw => by
  have k0 := x0
  have k1 := x1
  have k8 := x8
  have k83 := x183
  have k9 := x189
  have k91 := x191
  have l91 := l191
  have k93 := x193
  have l93 := l193
  have hW := hw.1
  have hq := hW.1
  cases hx : xLt x (sq (zS α)) with
  | false =>
    refine Agree.no 1 (by omega) (by decide) (fun I hI => ?_) (fun I hI => ?_)
    · show f_X8_bestNext [.ref 0, .int x] I = some (.inr 3, I)
      rw [e_X8_bestNext]
      simp (disch := omega) only [q_X8_bestNext_0, q_X8_bestNext_1, q_X8_bestNext_4, q_X8_bestNext_5, q_X8_bestNext_8, q_X8_bestNext_11, q_X8_bestNext_21, q_X8_bestNext_22, q_X8_bestNext_25, q_X8_bestNext_26, q_X8_bestNext_29, q_X8_bestNext_31, q_X8_bestNext_34, q_X8_bestNext_37, q_X8_bestNext_38, q_X8_bestNext_39, q_X8_bestNext_42, q_X8_bestNext_43, q_X8_bestNext_46, q_X8_bestNext_47, q_X8_bestNext_48, q_X8_bestNext_49, q_X8_bestNext_50, q_X8_bestNext_52, q_X8_bestNext_53, q_X8_bestNext_57, q_X8_bestNext_60, q_X8_bestNext_63, q_X8_bestNext_64, q_X8_bestNext_67, q_X8_bestNext_68, q_X8_bestNext_71, q_X8_bestNext_72, q_X8_bestNext_75, q_X8_bestNext_77, q_X8_bestNext_80, q_X8_bestNext_81, q_X8_bestNext_84, q_X8_bestNext_85, q_X8_bestNext_88, q_X8_bestNext_89, q_X8_bestNext_92, q_X8_bestNext_95, q_X8_bestNext_97, q_X8_bestNext_99, q_X8_bestNext_102, q_X8_bestNext_104, q_X8_bestNext_106, q_X8_bestNext_109, q_X8_bestNext_111, q_X8_bestNext_112, q_X8_bestNext_114, q_X8_bestNext_116, q_X8_bestNext_119, q_X8_bestNext_122, q_X8_bestNext_123, nI_add, pI_le, pI_lt, pI_eq, pI_neg, pI_nn, pI_le0, pI_gt0, pI_eq0, xbV_s, xbU_s, if_true, if_false, bI_eq0, Nat.reduceAdd, Nat.reduceSub, Nat.reduceEqDiff, Nat.reduceLeDiff, Nat.reduceLT, Bool.true_eq_false, Bool.false_eq_true, k0, k1, r0_0, s0_hasPage xCol_1 hI.2.1 hW, hx]
    · rw [e_X9_bestNext]
      simp (disch := omega) only [q_X9_bestNext_0, q_X9_bestNext_1, q_X9_bestNext_2, q_X9_bestNext_5, q_X9_bestNext_6, q_X9_bestNext_9, q_X9_bestNext_12, q_X9_bestNext_13, q_X9_bestNext_16, q_X9_bestNext_17, q_X9_bestNext_20, q_X9_bestNext_23, q_X9_bestNext_24, q_X9_bestNext_25, q_X9_bestNext_27, q_X9_bestNext_28, q_X9_bestNext_31, q_X9_bestNext_32, q_X9_bestNext_35, q_X9_bestNext_36, q_X9_bestNext_37, q_X9_bestNext_38, q_X9_bestNext_41, q_X9_bestNext_42, q_X9_bestNext_43, q_X9_bestNext_44, q_X9_bestNext_45, q_X9_bestNext_46, q_X9_bestNext_47, q_X9_bestNext_49, q_X9_bestNext_52, q_X9_bestNext_55, q_X9_bestNext_56, q_X9_bestNext_57, q_X9_bestNext_61, q_X9_bestNext_62, q_X9_bestNext_65, q_X9_bestNext_66, q_X9_bestNext_69, q_X9_bestNext_71, q_X9_bestNext_72, q_X9_bestNext_75, q_X9_bestNext_76, q_X9_bestNext_78, q_X9_bestNext_79, q_X9_bestNext_80, q_X9_bestNext_81, q_X9_bestNext_84, q_X9_bestNext_87, q_X9_bestNext_90, q_X9_bestNext_92, q_X9_bestNext_94, q_X9_bestNext_96, q_X9_bestNext_97, q_X9_bestNext_101, q_X9_bestNext_104, q_X9_bestNext_107, q_X9_bestNext_108, q_X9_bestNext_111, q_X9_bestNext_112, q_X9_bestNext_114, q_X9_bestNext_115, q_X9_bestNext_116, q_X9_bestNext_119, q_X9_bestNext_120, q_X9_bestNext_121, q_X9_bestNext_122, q_X9_bestNext_123, q_X9_bestNext_124, q_X9_bestNext_127, q_X9_bestNext_129, q_X9_bestNext_130, q_X9_bestNext_131, q_X9_bestNext_132, q_X9_bestNext_135, q_X9_bestNext_137, q_X9_bestNext_139, q_X9_bestNext_141, q_X9_bestNext_144, q_X9_bestNext_146, q_X9_bestNext_149, q_X9_bestNext_151, q_X9_bestNext_153, q_X9_bestNext_155, q_X9_bestNext_157, q_X9_bestNext_160, q_X9_bestNext_162, q_X9_bestNext_165, q_X9_bestNext_168, q_X9_bestNext_170, nI_add, pI_le, pI_lt, pI_eq, pI_neg, pI_nn, pI_le0, pI_gt0, pI_eq0, xbV_s, xbU_s, if_true, if_false, bI_eq0, Nat.reduceAdd, Nat.reduceSub, Nat.reduceEqDiff, Nat.reduceLeDiff, Nat.reduceLT, Bool.true_eq_false, Bool.false_eq_true, k9, r9_4, s9_isPage hI.2.1 hW, hx, s9_rf1]
  | true =>
    obtain ⟨p, hp, rfl⟩ := xLt_ex hx (by omega)
    have hl := hW.2.2.1 p hp
    have hi := sF_in hW hp
    have hn := sn_120 hW
    by_cases r : sl (zS α) p = 12
    · refine Agree.rd (-9999) (fun I hI => ⟨I, ?_, zG.rf⟩) (fun I hI hI' => ?_)
      · rw [e_X8_bestNext]
        simp (disch := omega) only [q_X8_bestNext_0, q_X8_bestNext_1, q_X8_bestNext_4, q_X8_bestNext_5, q_X8_bestNext_8, q_X8_bestNext_11, q_X8_bestNext_21, q_X8_bestNext_22, q_X8_bestNext_25, q_X8_bestNext_26, q_X8_bestNext_29, q_X8_bestNext_31, q_X8_bestNext_34, q_X8_bestNext_37, q_X8_bestNext_38, q_X8_bestNext_39, q_X8_bestNext_42, q_X8_bestNext_43, q_X8_bestNext_46, q_X8_bestNext_47, q_X8_bestNext_48, q_X8_bestNext_49, q_X8_bestNext_50, q_X8_bestNext_52, q_X8_bestNext_53, q_X8_bestNext_57, q_X8_bestNext_60, q_X8_bestNext_63, q_X8_bestNext_64, q_X8_bestNext_67, q_X8_bestNext_68, q_X8_bestNext_71, q_X8_bestNext_72, q_X8_bestNext_75, q_X8_bestNext_77, q_X8_bestNext_80, q_X8_bestNext_81, q_X8_bestNext_84, q_X8_bestNext_85, q_X8_bestNext_88, q_X8_bestNext_89, q_X8_bestNext_92, q_X8_bestNext_95, q_X8_bestNext_97, q_X8_bestNext_99, q_X8_bestNext_102, q_X8_bestNext_104, q_X8_bestNext_106, q_X8_bestNext_109, q_X8_bestNext_111, q_X8_bestNext_112, q_X8_bestNext_114, q_X8_bestNext_116, q_X8_bestNext_119, q_X8_bestNext_122, q_X8_bestNext_123, nI_add, pI_le, pI_lt, pI_eq, pI_neg, pI_nn, pI_le0, pI_gt0, pI_eq0, xbV_s, xbU_s, if_true, if_false, bI_eq0, Nat.reduceAdd, Nat.reduceSub, Nat.reduceEqDiff, Nat.reduceLeDiff, Nat.reduceLT, Bool.true_eq_false, Bool.false_eq_true, k0, k1, r0_0, s0_hasPage xCol_1 hI.2.1 hW, hx, s0_lengthOf xCol_1 hI.2.1 hW hp, r, Nat.lt_irrefl]
      · have g := hI'.2.1.2.2.2.2.1 p hp
        rw [e_X9_bestNext]
        simp (disch := omega) only [q_X9_bestNext_0, q_X9_bestNext_1, q_X9_bestNext_2, q_X9_bestNext_5, q_X9_bestNext_6, q_X9_bestNext_9, q_X9_bestNext_12, q_X9_bestNext_13, q_X9_bestNext_16, q_X9_bestNext_17, q_X9_bestNext_20, q_X9_bestNext_23, q_X9_bestNext_24, q_X9_bestNext_25, q_X9_bestNext_27, q_X9_bestNext_28, q_X9_bestNext_31, q_X9_bestNext_32, q_X9_bestNext_35, q_X9_bestNext_36, q_X9_bestNext_37, q_X9_bestNext_38, q_X9_bestNext_41, q_X9_bestNext_42, q_X9_bestNext_43, q_X9_bestNext_44, q_X9_bestNext_45, q_X9_bestNext_46, q_X9_bestNext_47, q_X9_bestNext_49, q_X9_bestNext_52, q_X9_bestNext_55, q_X9_bestNext_56, q_X9_bestNext_57, q_X9_bestNext_61, q_X9_bestNext_62, q_X9_bestNext_65, q_X9_bestNext_66, q_X9_bestNext_69, q_X9_bestNext_71, q_X9_bestNext_72, q_X9_bestNext_75, q_X9_bestNext_76, q_X9_bestNext_78, q_X9_bestNext_79, q_X9_bestNext_80, q_X9_bestNext_81, q_X9_bestNext_84, q_X9_bestNext_87, q_X9_bestNext_90, q_X9_bestNext_92, q_X9_bestNext_94, q_X9_bestNext_96, q_X9_bestNext_97, q_X9_bestNext_101, q_X9_bestNext_104, q_X9_bestNext_107, q_X9_bestNext_108, q_X9_bestNext_111, q_X9_bestNext_112, q_X9_bestNext_114, q_X9_bestNext_115, q_X9_bestNext_116, q_X9_bestNext_119, q_X9_bestNext_120, q_X9_bestNext_121, q_X9_bestNext_122, q_X9_bestNext_123, q_X9_bestNext_124, q_X9_bestNext_127, q_X9_bestNext_129, q_X9_bestNext_130, q_X9_bestNext_131, q_X9_bestNext_132, q_X9_bestNext_135, q_X9_bestNext_137, q_X9_bestNext_139, q_X9_bestNext_141, q_X9_bestNext_144, q_X9_bestNext_146, q_X9_bestNext_149, q_X9_bestNext_151, q_X9_bestNext_153, q_X9_bestNext_155, q_X9_bestNext_157, q_X9_bestNext_160, q_X9_bestNext_162, q_X9_bestNext_165, q_X9_bestNext_168, q_X9_bestNext_170, nI_add, pI_le, pI_lt, pI_eq, pI_neg, pI_nn, pI_le0, pI_gt0, pI_eq0, xbV_s, xbU_s, if_true, if_false, bI_eq0, Nat.reduceAdd, Nat.reduceSub, Nat.reduceEqDiff, Nat.reduceLeDiff, Nat.reduceLT, Bool.true_eq_false, Bool.false_eq_true, k9, k91, l91, r9_4, s9_isPage hI.2.1 hW, hx, s9_rf0, s9_first hI'.2.1 hW (Nat.le_of_lt hp), g, r]
    · have h12 : sl (zS α) p < 12 := by omega
      have b2 := sNx_le hW hp h12 (v := 0) (by omega)
      refine ⟨0, nI (am (sNx (zS α) p) 0 1023), α, by decide, fun I hI => ?_, fun I hI => ?_⟩
      · obtain ⟨I1, e1, e2, e3, e4⟩ := s0_meas xCol_1 hI.2.1 hW hp
        obtain ⟨I2, I3, f1, f2, f3, f4⟩ := s8_try (v := 0) hW hp h12 (by omega) e3
        have h3 : cR I3 1 (zS α) := e4.cg (fun c h6 h7 => f3 c (by omega))
        obtain ⟨I', g1, g2⟩ := op_bn_c (I := I1) hW hp h12 1023 0 I3 (some (.int (nI (sNx (zS α) p 0)))) (by omega) f3 h3 (e3.cg (f3 _ (by omega)) (f3 _ (by omega)))
        refine ⟨I', ?_, hI.cg (fun c hc => by rw [g2 c (by omega), e2 c (by omega)]) (by rw [g2 163 (by omega), e2 163 (by omega)]), (e2.wd (by omega) (by omega)).tr (g2.wd (by omega) (by omega))⟩
        rw [if_pos rfl, e_X8_bestNext]
        simp (disch := omega) only [q_X8_bestNext_0, q_X8_bestNext_1, q_X8_bestNext_4, q_X8_bestNext_5, q_X8_bestNext_8, q_X8_bestNext_11, q_X8_bestNext_21, q_X8_bestNext_22, q_X8_bestNext_25, q_X8_bestNext_26, q_X8_bestNext_29, q_X8_bestNext_31, q_X8_bestNext_34, q_X8_bestNext_37, q_X8_bestNext_38, q_X8_bestNext_39, q_X8_bestNext_42, q_X8_bestNext_43, q_X8_bestNext_46, q_X8_bestNext_47, q_X8_bestNext_48, q_X8_bestNext_49, q_X8_bestNext_50, q_X8_bestNext_52, q_X8_bestNext_53, q_X8_bestNext_57, q_X8_bestNext_60, q_X8_bestNext_63, q_X8_bestNext_64, q_X8_bestNext_67, q_X8_bestNext_68, q_X8_bestNext_71, q_X8_bestNext_72, q_X8_bestNext_75, q_X8_bestNext_77, q_X8_bestNext_80, q_X8_bestNext_81, q_X8_bestNext_84, q_X8_bestNext_85, q_X8_bestNext_88, q_X8_bestNext_89, q_X8_bestNext_92, q_X8_bestNext_95, q_X8_bestNext_97, q_X8_bestNext_99, q_X8_bestNext_102, q_X8_bestNext_104, q_X8_bestNext_106, q_X8_bestNext_109, q_X8_bestNext_111, q_X8_bestNext_112, q_X8_bestNext_114, q_X8_bestNext_116, q_X8_bestNext_119, q_X8_bestNext_122, q_X8_bestNext_123, nI_add, pI_le, pI_lt, pI_eq, pI_neg, pI_nn, pI_le0, pI_gt0, pI_eq0, xbV_s, xbU_s, if_true, if_false, bI_eq0, Nat.reduceAdd, Nat.reduceSub, Nat.reduceEqDiff, Nat.reduceLeDiff, Nat.reduceLT, Bool.true_eq_false, Bool.false_eq_true, k0, k1, r0_0, s0_hasPage xCol_1 hI.2.1 hW, hx, s0_lengthOf xCol_1 hI.2.1 hW hp, h12, e1]
        rw [q_X8_bestNext_55]
        simp (disch := omega) only [q_X8_bestNext_0, q_X8_bestNext_1, q_X8_bestNext_4, q_X8_bestNext_5, q_X8_bestNext_8, q_X8_bestNext_11, q_X8_bestNext_21, q_X8_bestNext_22, q_X8_bestNext_25, q_X8_bestNext_26, q_X8_bestNext_29, q_X8_bestNext_31, q_X8_bestNext_34, q_X8_bestNext_37, q_X8_bestNext_38, q_X8_bestNext_39, q_X8_bestNext_42, q_X8_bestNext_43, q_X8_bestNext_46, q_X8_bestNext_47, q_X8_bestNext_48, q_X8_bestNext_49, q_X8_bestNext_50, q_X8_bestNext_52, q_X8_bestNext_53, q_X8_bestNext_57, q_X8_bestNext_60, q_X8_bestNext_63, q_X8_bestNext_64, q_X8_bestNext_67, q_X8_bestNext_68, q_X8_bestNext_71, q_X8_bestNext_72, q_X8_bestNext_75, q_X8_bestNext_77, q_X8_bestNext_80, q_X8_bestNext_81, q_X8_bestNext_84, q_X8_bestNext_85, q_X8_bestNext_88, q_X8_bestNext_89, q_X8_bestNext_92, q_X8_bestNext_95, q_X8_bestNext_97, q_X8_bestNext_99, q_X8_bestNext_102, q_X8_bestNext_104, q_X8_bestNext_106, q_X8_bestNext_109, q_X8_bestNext_111, q_X8_bestNext_112, q_X8_bestNext_114, q_X8_bestNext_116, q_X8_bestNext_119, q_X8_bestNext_122, q_X8_bestNext_123, nI_add, pI_le, pI_lt, pI_eq, pI_neg, pI_nn, pI_le0, pI_gt0, pI_eq0, xbV_s, xbU_s, if_true, if_false, bI_eq0, Nat.reduceAdd, Nat.reduceSub, Nat.reduceEqDiff, Nat.reduceLeDiff, Nat.reduceLT, Bool.true_eq_false, Bool.false_eq_true, k0, k1, k8, k83, r0_0, r0_7, f1, f2, s0_pinOf xCol_1 h3 hW hp, f4]
        exact g1
      · have hI' := hI.rf 0
        have g := hI'.2.1.2.2.2.2.1 p hp
        obtain ⟨I1, f1, f2, f3⟩ := op_bn_cp hW hp hI'.2.1 (sl (zS α) p) 0 _ (by omega) xO.rf (fun j hj => absurd hj (Nat.not_lt_zero _))
        have hs1 := op_bn_ms (I := I1) (v := 0) hW hp h12 (by omega) f3
        have hR1 : mR I1 191 (zS α) := hI'.2.1.cg (f2 191 (by omega))
        have gp := hR1.2.2.2.2.2.1 p hp
        obtain ⟨I', g1, g2⟩ := op_bn_m (I := I1) hW hp h12 1023 0 (xup I1 193 (sl (zS α) p) (nI 0)) (some (.int (nI (sNx (zS α) p 0)))) (by omega) xO.rf.up (hR1.cg (xup_o (by omega))) (fun j hj' => by rw [xup_d (by omega)]; exact f3 j hj')
        have n2 : ¬ 1000000 ≤ sNx (zS α) p 0 := by omega
        refine ⟨I', ?_, hI'.cg (fun c hc => by rw [g2 c (by omega), f2 c (by omega)]) (by rw [g2 189 (by omega), f2 189 (by omega)]) (by rw [g2 189 (by omega), f2 189 (by omega)]), (zG.rf.up (a := 189) (k := 0) (x := nI 0) (by omega) (by omega)).tr (fun c hc => by rw [g2 c (by omega), f2 c (by omega)]), by rw [g2 189 (by omega), f2 189 (by omega), xup_s]⟩
        rw [if_pos rfl, e_X9_bestNext]
        simp (disch := omega) only [q_X9_bestNext_0, q_X9_bestNext_1, q_X9_bestNext_2, q_X9_bestNext_5, q_X9_bestNext_6, q_X9_bestNext_9, q_X9_bestNext_12, q_X9_bestNext_13, q_X9_bestNext_16, q_X9_bestNext_17, q_X9_bestNext_20, q_X9_bestNext_23, q_X9_bestNext_24, q_X9_bestNext_25, q_X9_bestNext_27, q_X9_bestNext_28, q_X9_bestNext_31, q_X9_bestNext_32, q_X9_bestNext_35, q_X9_bestNext_36, q_X9_bestNext_37, q_X9_bestNext_38, q_X9_bestNext_41, q_X9_bestNext_42, q_X9_bestNext_43, q_X9_bestNext_44, q_X9_bestNext_45, q_X9_bestNext_46, q_X9_bestNext_47, q_X9_bestNext_49, q_X9_bestNext_52, q_X9_bestNext_55, q_X9_bestNext_56, q_X9_bestNext_57, nI_add, pI_le, pI_lt, pI_eq, pI_neg, pI_nn, pI_le0, pI_gt0, pI_eq0, xbV_s, xbU_s, if_true, if_false, bI_eq0, Nat.reduceAdd, Nat.reduceSub, Nat.reduceEqDiff, Nat.reduceLeDiff, Nat.reduceLT, Bool.true_eq_false, Bool.false_eq_true, k9, k91, l91, r9_4, s9_isPage hI.2.1 hW, hx, s9_rf0, s9_first hI'.2.1 hW (Nat.le_of_lt hp), g, r]
        rw [f1, q_X9_bestNext_99]
        simp (disch := omega) only [q_X9_bestNext_0, q_X9_bestNext_1, q_X9_bestNext_2, q_X9_bestNext_5, q_X9_bestNext_6, q_X9_bestNext_9, q_X9_bestNext_12, q_X9_bestNext_13, q_X9_bestNext_16, q_X9_bestNext_17, q_X9_bestNext_20, q_X9_bestNext_23, q_X9_bestNext_24, q_X9_bestNext_25, q_X9_bestNext_27, q_X9_bestNext_28, q_X9_bestNext_31, q_X9_bestNext_32, q_X9_bestNext_35, q_X9_bestNext_36, q_X9_bestNext_37, q_X9_bestNext_38, q_X9_bestNext_41, q_X9_bestNext_42, q_X9_bestNext_43, q_X9_bestNext_44, q_X9_bestNext_45, q_X9_bestNext_46, q_X9_bestNext_47, q_X9_bestNext_49, q_X9_bestNext_52, q_X9_bestNext_55, q_X9_bestNext_56, q_X9_bestNext_57, q_X9_bestNext_61, q_X9_bestNext_62, q_X9_bestNext_65, q_X9_bestNext_66, q_X9_bestNext_69, q_X9_bestNext_71, q_X9_bestNext_72, q_X9_bestNext_75, q_X9_bestNext_76, q_X9_bestNext_78, q_X9_bestNext_79, q_X9_bestNext_80, q_X9_bestNext_81, q_X9_bestNext_84, q_X9_bestNext_87, q_X9_bestNext_90, q_X9_bestNext_92, q_X9_bestNext_94, q_X9_bestNext_96, q_X9_bestNext_97, q_X9_bestNext_101, q_X9_bestNext_104, q_X9_bestNext_107, q_X9_bestNext_108, q_X9_bestNext_111, q_X9_bestNext_112, q_X9_bestNext_114, q_X9_bestNext_115, q_X9_bestNext_116, q_X9_bestNext_119, q_X9_bestNext_120, q_X9_bestNext_121, q_X9_bestNext_122, q_X9_bestNext_123, q_X9_bestNext_124, q_X9_bestNext_127, q_X9_bestNext_129, q_X9_bestNext_130, q_X9_bestNext_131, q_X9_bestNext_132, q_X9_bestNext_135, q_X9_bestNext_137, q_X9_bestNext_139, q_X9_bestNext_141, q_X9_bestNext_144, q_X9_bestNext_146, q_X9_bestNext_149, q_X9_bestNext_151, q_X9_bestNext_153, q_X9_bestNext_155, q_X9_bestNext_157, q_X9_bestNext_160, q_X9_bestNext_162, q_X9_bestNext_165, q_X9_bestNext_168, q_X9_bestNext_170, nI_add, pI_le, pI_lt, pI_eq, pI_neg, pI_nn, pI_le0, pI_gt0, pI_eq0, xbV_s, xbU_s, if_true, if_false, bI_eq0, Nat.reduceAdd, Nat.reduceSub, Nat.reduceEqDiff, Nat.reduceLeDiff, Nat.reduceLT, Bool.true_eq_false, Bool.false_eq_true, k9, k91, l91, k93, l93, r9_4, r9_6, xup_o, gp, hs1, n2, s9_less, Nat.min_eq_right (show sNx (zS α) p 0 ≤ 1000000 by omega)]
        exact g1
end PO3
end P36
