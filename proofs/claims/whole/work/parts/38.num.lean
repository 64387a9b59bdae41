/-! ===== numbers in the text ===== -/
section P38
theorem pk_shlG {n k : Nat} (hk : k < 32) (h : n * 2 ^ k < 4294967296) : nI n <<< (nI k &&& 31) = nI (n * 2 ^ k) := by
  have e : nI k &&& 31 = nI k := by
    have : ∀ k, k < 32 → nI k &&& 31 = nI k := by decide +kernel
    exact this k hk
  rw [e]
  have e2 : ((nI k).toBitVec.smod 32).toNat = k := by
    have : ∀ k, k < 32 → ((nI k).toBitVec.smod 32).toNat = k := by decide +kernel
    exact this k hk
  exact pk_shlN (nI k) k e2 h
/-- the digit there: 0, 1, or 2 for none -/
def dgt (t : Nat → Nat) (L p : Nat) : Nat := if p < L then (if t p = 48 then 0 else if t p = 49 then 1 else 2) else 2
/-- k bits more behind the number v; an error is the place where it is -/
def pN (t : Nat → Nat) (L : Nat) (ok : Nat → Nat → Bool) : Nat → Nat → Nat → Nat ⊕ (Nat × Nat)
  | 0, v, p => .inr (v, p)
  | k + 1, v, p => if dgt t L p < 2 ∧ ok ((2 * v + dgt t L p) * 2 ^ k) ((2 * v + dgt t L p) * 2 ^ k + 1 * 2 ^ k - 1) = true then pN t L ok k (2 * v + dgt t L p) (p + 1) else .inl p
def okc (lo hi a b : Nat) : Bool := decide (a ≤ hi ∧ lo ≤ b)
def okm (lo hi lo2 hi2 a b : Nat) : Bool := decide (max lo a ≤ min hi b) || decide (max lo2 a ≤ min hi2 b)
theorem pN_s (t : Nat → Nat) (L : Nat) (ok : Nat → Nat → Bool) (k v p : Nat) : pN t L ok (k + 1) v p = if dgt t L p < 2 ∧ ok ((2 * v + dgt t L p) * 2 ^ k) ((2 * v + dgt t L p) * 2 ^ k + 1 * 2 ^ k - 1) = true then pN t L ok k (2 * v + dgt t L p) (p + 1) else .inl p := rfl
/-- ok where it is asked -/
theorem pN_congr {t : Nat → Nat} {L : Nat} {ok ok' : Nat → Nat → Bool} : ∀ {k v p : Nat}, (∀ a b, a ≤ b → v * 2 ^ k ≤ a → b < (v + 1) * 2 ^ k → ok a b = ok' a b) → pN t L ok k v p = pN t L ok' k v p
  | 0, v, p, _ => rfl
  | k + 1, v, p, h => by
    rw [pN_s, pN_s]
    by_cases hd : dgt t L p < 2
    · have hp : 0 < 2 ^ k := Nat.pow_pos (by decide)
      have e1 : 2 ^ (k + 1) = 2 * 2 ^ k := by rw [Nat.pow_succ, Nat.mul_comm]
      have m1 : v * 2 ^ (k + 1) = 2 * v * 2 ^ k := by rw [e1, Nat.mul_comm 2 v, Nat.mul_assoc]
      have m2 : (v + 1) * 2 ^ (k + 1) = (2 * v + 1 + 1) * 2 ^ k := by rw [e1, ← Nat.mul_assoc, show (v + 1) * 2 = 2 * v + 1 + 1 by omega]
      have m3 : 2 * v * 2 ^ k ≤ (2 * v + dgt t L p) * 2 ^ k := Nat.mul_le_mul_right _ (by omega)
      have m4 : (2 * v + dgt t L p) * 2 ^ k + 2 ^ k ≤ (2 * v + 1 + 1) * 2 ^ k := by rw [← Nat.succ_mul]; exact Nat.mul_le_mul_right _ (by omega)
      have e := h ((2 * v + dgt t L p) * 2 ^ k) ((2 * v + dgt t L p) * 2 ^ k + 1 * 2 ^ k - 1) (by omega) (by omega) (by omega)
      rw [e]
      have e2 : pN t L ok k (2 * v + dgt t L p) (p + 1) = pN t L ok' k (2 * v + dgt t L p) (p + 1) := by
        refine pN_congr (fun a b hab h1 h2 => h a b hab (by omega) ?_)
        have : (2 * v + dgt t L p + 1) * 2 ^ k = (2 * v + dgt t L p) * 2 ^ k + 2 ^ k := Nat.succ_mul _ _
        omega
      rw [e2]
    · rw [if_neg (fun q => hd q.1), if_neg (fun q => hd q.1)]
def tGn (I I' : xMem) : Prop := (∀ c, c ≠ 163 → I' c = I c) ∧ ∀ j, j ≠ 5 → j ≠ 6 → I' 163 j = I 163 j
theorem tGn.rf {I : xMem} : tGn I I := ⟨fun _ _ => rfl, fun _ _ _ => rfl⟩
theorem tGn.tr {I I' I'' : xMem} (h : tGn I I') (h' : tGn I' I'') : tGn I I'' := ⟨fun c hc => (h'.1 c hc).trans (h.1 c hc), fun j h5 h6 => (h'.2 j h5 h6).trans (h.2 j h5 h6)⟩
theorem tGn.u5 {I I' : xMem} {x : Int32} (h : tGn I I') : tGn I (xup I' 163 5 x) := ⟨fun c hc => by rw [xup_o hc]; exact h.1 c hc, fun j h5 h6 => by rw [xup_d h5]; exact h.2 j h5 h6⟩
theorem tGn.u6 {I I' : xMem} {x : Int32} (h : tGn I I') : tGn I (xup I' 163 6 x) := ⟨fun c hc => by rw [xup_o hc]; exact h.1 c hc, fun j h5 h6 => by rw [xup_d h6]; exact h.2 j h5 h6⟩
/-- how the class's reader stands after r -/
def cRd (I : xMem) {β : Type} (pos : β → Nat) (r : Nat ⊕ β) : Prop := match r with
  | .inl e => I 163 6 = nI e ∧ e ≤ 200
  | .inr x => I 163 6 = -9999 ∧ I 163 5 = nI (pos x)
def nVal (lo : Nat) (r : Nat ⊕ (Nat × Nat)) : Nat := match r with
  | .inl _ => lo
  | .inr x => x.1
section PN
variable {t : Nat → Nat} {L : Nat} {I : xMem}
def dgI (t : Nat → Nat) (L p : Nat) : Int32 := if dgt t L p < 2 then nI (dgt t L p) else -9999
theorem tC.dig {p : Nat} (h : tC I t L) (hL : L ≤ 160) (ht : ∀ j, j < L → t j ≤ 255) (h5 : I 163 5 = nI p) (hp : p ≤ 200) : f_X3_digitHere [.ref 163] I = some (.inl (some (.int (dgI t L p))), I) := by
  have k3 := x163
  have kr := w164.1
  obtain ⟨h3, h4⟩ := h
  rw [e_X3_digitHere]
  unfold dgI dgt
  by_cases q : p < L
  · have g := h4 p q
    have b := ht p q
    rw [if_pos q]
    by_cases q1 : t p = 48
    · rw [if_pos q1, if_pos (by omega)]
      simp (disch := omega) only [q_X3_digitHere_0, q_X3_digitHere_1, q_X3_digitHere_4, q_X3_digitHere_5, q_X3_digitHere_8, q_X3_digitHere_11, q_X3_digitHere_14, q_X3_digitHere_15, q_X3_digitHere_16, q_X3_digitHere_19, q_X3_digitHere_20, q_X3_digitHere_23, q_X3_digitHere_26, q_X3_digitHere_27, q_X3_digitHere_28, q_X3_digitHere_30, q_X3_digitHere_33, q_X3_digitHere_34, q_X3_digitHere_35, q_X3_digitHere_36, q_X3_digitHere_38, q_X3_digitHere_41, q_X3_digitHere_42, q_X3_digitHere_45, q_X3_digitHere_48, nI_add, pI_le, pI_lt, pI_eq, pI_neg, pI_nn, pI_le0, pI_gt0, pI_eq0, xbV_s, xbU_s, if_true, if_false, bI_eq0, Nat.reduceAdd, Nat.reduceSub, Nat.reduceEqDiff, Nat.reduceLeDiff, Nat.reduceLT, Bool.true_eq_false, Bool.false_eq_true, k3, kr, h3, h5, q, r163_0, s_get w164, g, q1]
    · rw [if_neg q1]
      by_cases q2 : t p = 49
      · rw [if_pos q2, if_pos (by omega)]
        simp (disch := omega) only [q_X3_digitHere_0, q_X3_digitHere_1, q_X3_digitHere_4, q_X3_digitHere_5, q_X3_digitHere_8, q_X3_digitHere_11, q_X3_digitHere_14, q_X3_digitHere_15, q_X3_digitHere_16, q_X3_digitHere_19, q_X3_digitHere_20, q_X3_digitHere_23, q_X3_digitHere_26, q_X3_digitHere_27, q_X3_digitHere_28, q_X3_digitHere_30, q_X3_digitHere_33, q_X3_digitHere_34, q_X3_digitHere_35, q_X3_digitHere_36, q_X3_digitHere_38, q_X3_digitHere_41, q_X3_digitHere_42, q_X3_digitHere_45, q_X3_digitHere_48, nI_add, pI_le, pI_lt, pI_eq, pI_neg, pI_nn, pI_le0, pI_gt0, pI_eq0, xbV_s, xbU_s, if_true, if_false, bI_eq0, Nat.reduceAdd, Nat.reduceSub, Nat.reduceEqDiff, Nat.reduceLeDiff, Nat.reduceLT, Bool.true_eq_false, Bool.false_eq_true, k3, kr, h3, h5, q, r163_0, s_get w164, g, q2]
      · rw [if_neg q2, if_neg (by omega)]
        simp (disch := omega) only [q_X3_digitHere_0, q_X3_digitHere_1, q_X3_digitHere_4, q_X3_digitHere_5, q_X3_digitHere_8, q_X3_digitHere_11, q_X3_digitHere_14, q_X3_digitHere_15, q_X3_digitHere_16, q_X3_digitHere_19, q_X3_digitHere_20, q_X3_digitHere_23, q_X3_digitHere_26, q_X3_digitHere_27, q_X3_digitHere_28, q_X3_digitHere_30, q_X3_digitHere_33, q_X3_digitHere_34, q_X3_digitHere_35, q_X3_digitHere_36, q_X3_digitHere_38, q_X3_digitHere_41, q_X3_digitHere_42, q_X3_digitHere_45, q_X3_digitHere_48, nI_add, pI_le, pI_lt, pI_eq, pI_neg, pI_nn, pI_le0, pI_gt0, pI_eq0, xbV_s, xbU_s, if_true, if_false, bI_eq0, Nat.reduceAdd, Nat.reduceSub, Nat.reduceEqDiff, Nat.reduceLeDiff, Nat.reduceLT, Bool.true_eq_false, Bool.false_eq_true, k3, kr, h3, h5, q, r163_0, s_get w164, g, q1, q2]
  · rw [if_neg q, if_neg (by omega)]
    simp (disch := omega) only [q_X3_digitHere_0, q_X3_digitHere_1, q_X3_digitHere_4, q_X3_digitHere_5, q_X3_digitHere_8, q_X3_digitHere_11, q_X3_digitHere_14, q_X3_digitHere_15, q_X3_digitHere_16, q_X3_digitHere_19, q_X3_digitHere_20, q_X3_digitHere_23, q_X3_digitHere_26, q_X3_digitHere_27, q_X3_digitHere_28, q_X3_digitHere_30, q_X3_digitHere_33, q_X3_digitHere_34, q_X3_digitHere_35, q_X3_digitHere_36, q_X3_digitHere_38, q_X3_digitHere_41, q_X3_digitHere_42, q_X3_digitHere_45, q_X3_digitHere_48, nI_add, pI_le, pI_lt, pI_eq, pI_neg, pI_nn, pI_le0, pI_gt0, pI_eq0, xbV_s, xbU_s, if_true, if_false, bI_eq0, Nat.reduceAdd, Nat.reduceSub, Nat.reduceEqDiff, Nat.reduceLeDiff, Nat.reduceLT, Bool.true_eq_false, Bool.false_eq_true, k3, h3, h5, q]
theorem s3_end {wd lo hi v e : Nat} {x : Int32} {l6 l7 l8 : Option Value} (h6 : I 163 6 = nI e) (he : e ≤ 200) : xgo k_X3_readNumber 108 [some (.ref 163), some (.int (nI wd)), some (.int (nI lo)), some (.int (nI hi)), some (.int (nI v)), some (.int x), l6, l7, l8] [] I = some (.inl (some (.int (nI lo))), I) := by
  have k3 := x163
  simp (disch := omega) only [q_X3_readNumber_0, q_X3_readNumber_1, q_X3_readNumber_3, q_X3_readNumber_4, q_X3_readNumber_5, q_X3_readNumber_6, q_X3_readNumber_10, q_X3_readNumber_13, q_X3_readNumber_14, q_X3_readNumber_17, q_X3_readNumber_20, q_X3_readNumber_23, q_X3_readNumber_24, q_X3_readNumber_27, q_X3_readNumber_29, q_X3_readNumber_30, q_X3_readNumber_32, q_X3_readNumber_33, q_X3_readNumber_35, q_X3_readNumber_36, q_X3_readNumber_38, q_X3_readNumber_39, q_X3_readNumber_41, q_X3_readNumber_43, q_X3_readNumber_44, q_X3_readNumber_46, q_X3_readNumber_47, q_X3_readNumber_48, q_X3_readNumber_49, q_X3_readNumber_50, q_X3_readNumber_52, q_X3_readNumber_54, q_X3_readNumber_57, q_X3_readNumber_60, q_X3_readNumber_62, q_X3_readNumber_63, q_X3_readNumber_66, q_X3_readNumber_68, q_X3_readNumber_69, q_X3_readNumber_72, q_X3_readNumber_73, q_X3_readNumber_74, q_X3_readNumber_77, q_X3_readNumber_80, q_X3_readNumber_83, q_X3_readNumber_84, q_X3_readNumber_86, q_X3_readNumber_87, q_X3_readNumber_89, q_X3_readNumber_90, q_X3_readNumber_92, q_X3_readNumber_93, q_X3_readNumber_94, q_X3_readNumber_97, q_X3_readNumber_98, q_X3_readNumber_99, q_X3_readNumber_102, q_X3_readNumber_105, q_X3_readNumber_108, q_X3_readNumber_109, q_X3_readNumber_112, q_X3_readNumber_115, q_X3_readNumber_118, q_X3_readNumber_120, q_X3_readNumber_123, q_X3_readNumber_124, nI_add, pI_le, pI_lt, pI_eq, pI_neg, pI_nn, pI_le0, pI_gt0, pI_eq0, xbV_s, xbU_s, if_true, if_false, bI_eq0, Nat.reduceAdd, Nat.reduceSub, Nat.reduceEqDiff, Nat.reduceLeDiff, Nat.reduceLT, Bool.true_eq_false, Bool.false_eq_true, k3, h6, pI_ne9]
theorem s3_num_l {wd lo hi : Nat} (hL : L ≤ 160) (ht : ∀ j, j < L → t j ≤ 255) (hlo : lo ≤ 5000) (hhi : hi ≤ 5000) : ∀ k v p (I : xMem) (l6 l7 l8 : Option Value), (v + 1) * 2 ^ k ≤ 4096 → k ≤ 12 → p + k ≤ 200 → tC I t L → I 163 5 = nI p → I 163 6 = -9999 → ∃ I', xgo k_X3_readNumber 8 [some (.ref 163), some (.int (nI wd)), some (.int (nI lo)), some (.int (nI hi)), some (.int (nI v)), some (.int (nI k - nI 1)), l6, l7, l8] [] I = some (.inl (some (.int (nI (nVal lo (pN t L (okc lo hi) k v p))))), I') ∧ tGn I I' ∧ cRd I' (fun x : Nat × Nat => x.2) (pN t L (okc lo hi) k v p) := by
  have k3 := x163
  intro k
  induction k with
  | zero =>
    intro v p I l6 l7 l8 hv hk hp hT h5 h6
    have e : nI 0 - nI 1 < 0 := by decide
    refine ⟨I, ?_, tGn.rf, h6, h5⟩
    rw [q_X3_readNumber_8]
    simp (disch := omega) only [q_X3_readNumber_0, q_X3_readNumber_1, q_X3_readNumber_3, q_X3_readNumber_4, q_X3_readNumber_5, q_X3_readNumber_6, q_X3_readNumber_10, q_X3_readNumber_13, q_X3_readNumber_14, q_X3_readNumber_17, q_X3_readNumber_20, q_X3_readNumber_23, q_X3_readNumber_24, q_X3_readNumber_27, q_X3_readNumber_29, q_X3_readNumber_30, q_X3_readNumber_32, q_X3_readNumber_33, q_X3_readNumber_35, q_X3_readNumber_36, q_X3_readNumber_38, q_X3_readNumber_39, q_X3_readNumber_41, q_X3_readNumber_43, q_X3_readNumber_44, q_X3_readNumber_46, q_X3_readNumber_47, q_X3_readNumber_48, q_X3_readNumber_49, q_X3_readNumber_50, q_X3_readNumber_52, q_X3_readNumber_54, q_X3_readNumber_57, q_X3_readNumber_60, q_X3_readNumber_62, q_X3_readNumber_63, q_X3_readNumber_66, q_X3_readNumber_68, q_X3_readNumber_69, q_X3_readNumber_72, q_X3_readNumber_73, q_X3_readNumber_74, q_X3_readNumber_77, q_X3_readNumber_80, q_X3_readNumber_83, q_X3_readNumber_84, q_X3_readNumber_86, q_X3_readNumber_87, q_X3_readNumber_89, q_X3_readNumber_90, q_X3_readNumber_92, q_X3_readNumber_93, q_X3_readNumber_94, q_X3_readNumber_97, q_X3_readNumber_98, q_X3_readNumber_99, q_X3_readNumber_102, q_X3_readNumber_105, q_X3_readNumber_108, q_X3_readNumber_109, q_X3_readNumber_112, q_X3_readNumber_115, q_X3_readNumber_118, q_X3_readNumber_120, q_X3_readNumber_123, q_X3_readNumber_124, nI_add, pI_le, pI_lt, pI_eq, pI_neg, pI_nn, pI_le0, pI_gt0, pI_eq0, xbV_s, xbU_s, if_true, if_false, bI_eq0, Nat.reduceAdd, Nat.reduceSub, Nat.reduceEqDiff, Nat.reduceLeDiff, Nat.reduceLT, Bool.true_eq_false, Bool.false_eq_true, e, k3, h6]
    rfl
  | succ k ih =>
    intro v p I l6 l7 l8 hv hk hp hT h5 h6
    have e : nI (k + 1) - nI 1 = nI k := by rw [pI_sub (by omega)]; rfl
    have e2 : nI k + -1 = nI k - nI 1 := by rw [Int32.sub_eq_add_neg]; rfl
    have hd := hT.dig hL ht h5 (by omega)
    have hp2 : 0 < 2 ^ k := Nat.pow_pos (by decide)
    have hp3 : 2 ^ k ≤ 2 ^ 12 := Nat.pow_le_pow_right (by decide) (by omega)
    have e1 : 2 ^ (k + 1) = 2 * 2 ^ k := by rw [Nat.pow_succ, Nat.mul_comm]
    have m2 : (v + 1) * 2 ^ (k + 1) = (2 * v + 1 + 1) * 2 ^ k := by rw [e1, ← Nat.mul_assoc, show (v + 1) * 2 = 2 * v + 1 + 1 by omega]
    rw [pN_s]
    by_cases hq : dgt t L p < 2
    · have m4 : (2 * v + dgt t L p) * 2 ^ k + 2 ^ k ≤ (2 * v + 1 + 1) * 2 ^ k := by rw [← Nat.succ_mul]; exact Nat.mul_le_mul_right _ (by omega)
      have ed : dgI t L p = nI (dgt t L p) := by unfold dgI; rw [if_pos hq]
      rw [ed] at hd
      have e9 : nI ((2 * v + dgt t L p) * 2 ^ k + 1 * 2 ^ k) - nI 1 = nI ((2 * v + dgt t L p) * 2 ^ k + 1 * 2 ^ k - 1) := pI_sub (by omega)
      by_cases r1 : (2 * v + dgt t L p) * 2 ^ k ≤ hi
      · by_cases r2 : lo ≤ (2 * v + dgt t L p) * 2 ^ k + 1 * 2 ^ k - 1
        · rw [if_pos ⟨hq, by unfold okc; exact decide_eq_true ⟨r1, r2⟩⟩]
          have r1' : ¬ hi < (2 * v + dgt t L p) * 2 ^ k := by omega
          obtain ⟨I', f1, f2, f3⟩ := ih (2 * v + dgt t L p) (p + 1) (xup I 163 5 (nI (p + 1))) (some (.int (nI (dgt t L p)))) (some (.int (nI ((2 * v + dgt t L p) * 2 ^ k)))) (some (.int (nI ((2 * v + dgt t L p) * 2 ^ k + 1 * 2 ^ k - 1)))) (by have := Nat.succ_mul (2 * v + dgt t L p) (2 ^ k); rw [show (2 * v + dgt t L p + 1) = (2 * v + dgt t L p).succ from rfl]; omega) (by omega) (by omega) (hT.cg (by rw [xup_d (by omega)]) (by rw [xup_o (by omega)])) xup_s (by rw [xup_d (by omega)]; exact h6)
          refine ⟨I', ?_, tGn.rf.u5.tr f2, f3⟩
          rw [q_X3_readNumber_8]
          simp (disch := omega) only [q_X3_readNumber_0, q_X3_readNumber_1, q_X3_readNumber_3, q_X3_readNumber_4, q_X3_readNumber_5, q_X3_readNumber_6, q_X3_readNumber_10, q_X3_readNumber_13, q_X3_readNumber_14, q_X3_readNumber_17, q_X3_readNumber_20, q_X3_readNumber_23, q_X3_readNumber_24, q_X3_readNumber_27, q_X3_readNumber_29, q_X3_readNumber_30, q_X3_readNumber_32, q_X3_readNumber_33, q_X3_readNumber_35, q_X3_readNumber_36, q_X3_readNumber_38, q_X3_readNumber_39, q_X3_readNumber_41, q_X3_readNumber_43, q_X3_readNumber_44, q_X3_readNumber_46, q_X3_readNumber_47, q_X3_readNumber_48, q_X3_readNumber_49, q_X3_readNumber_50, q_X3_readNumber_52, q_X3_readNumber_54, q_X3_readNumber_57, q_X3_readNumber_60, q_X3_readNumber_62, q_X3_readNumber_63, q_X3_readNumber_66, q_X3_readNumber_68, q_X3_readNumber_69, q_X3_readNumber_72, q_X3_readNumber_73, q_X3_readNumber_74, q_X3_readNumber_77, q_X3_readNumber_80, q_X3_readNumber_83, q_X3_readNumber_84, q_X3_readNumber_86, q_X3_readNumber_87, q_X3_readNumber_89, q_X3_readNumber_90, q_X3_readNumber_92, q_X3_readNumber_93, q_X3_readNumber_94, q_X3_readNumber_97, q_X3_readNumber_98, q_X3_readNumber_99, q_X3_readNumber_102, q_X3_readNumber_105, q_X3_readNumber_108, q_X3_readNumber_109, q_X3_readNumber_112, q_X3_readNumber_115, q_X3_readNumber_118, q_X3_readNumber_120, q_X3_readNumber_123, q_X3_readNumber_124, nI_add, pI_le, pI_lt, pI_eq, pI_neg, pI_nn, pI_le0, pI_gt0, pI_eq0, xbV_s, xbU_s, if_true, if_false, bI_eq0, Nat.reduceAdd, Nat.reduceSub, Nat.reduceEqDiff, Nat.reduceLeDiff, Nat.reduceLT, Bool.true_eq_false, Bool.false_eq_true, e, k3, h6, hd, pk_mul, pk_shlG, e9, pI_ne9, r1', r2, h5, e2]
          exact f1
        · rw [if_neg (fun q => r2 (by have := of_decide_eq_true q.2; exact this.2))]
          have r1' : ¬ hi < (2 * v + dgt t L p) * 2 ^ k := by omega
          refine ⟨xup I 163 6 (nI p), ?_, tGn.rf.u6, xup_s, by omega⟩
          rw [q_X3_readNumber_8]
          simp (disch := omega) only [q_X3_readNumber_10, q_X3_readNumber_13, q_X3_readNumber_14, q_X3_readNumber_17, q_X3_readNumber_20, q_X3_readNumber_23, q_X3_readNumber_24, q_X3_readNumber_27, q_X3_readNumber_29, q_X3_readNumber_30, q_X3_readNumber_32, q_X3_readNumber_33, q_X3_readNumber_35, q_X3_readNumber_36, q_X3_readNumber_38, q_X3_readNumber_39, q_X3_readNumber_41, q_X3_readNumber_43, q_X3_readNumber_44, q_X3_readNumber_46, q_X3_readNumber_47, q_X3_readNumber_48, q_X3_readNumber_49, q_X3_readNumber_50, q_X3_readNumber_52, q_X3_readNumber_54, q_X3_readNumber_57, q_X3_readNumber_60, q_X3_readNumber_62, q_X3_readNumber_63, q_X3_readNumber_66, q_X3_readNumber_68, q_X3_readNumber_69, q_X3_readNumber_72, q_X3_readNumber_73, q_X3_readNumber_74, q_X3_readNumber_77, q_X3_readNumber_80, q_X3_readNumber_83, q_X3_readNumber_84, q_X3_readNumber_86, q_X3_readNumber_87, q_X3_readNumber_89, q_X3_readNumber_90, q_X3_readNumber_92, q_X3_readNumber_93, q_X3_readNumber_94, q_X3_readNumber_97, q_X3_readNumber_98, q_X3_readNumber_99, q_X3_readNumber_102, q_X3_readNumber_105, nI_add, pI_le, pI_lt, pI_eq, pI_neg, pI_nn, pI_le0, pI_gt0, pI_eq0, xbV_s, xbU_s, if_true, if_false, bI_eq0, Nat.reduceAdd, Nat.reduceSub, Nat.reduceEqDiff, Nat.reduceLeDiff, Nat.reduceLT, Bool.true_eq_false, Bool.false_eq_true, e, k3, h6, hd, pk_mul, pk_shlG, e9, pI_ne9, r1', r2, h5, e2]
          rw [q_X3_readNumber_8]
          by_cases z : nI k - nI 1 < 0
          · simp (disch := omega) only [q_X3_readNumber_10, q_X3_readNumber_13, q_X3_readNumber_14, q_X3_readNumber_17, q_X3_readNumber_20, q_X3_readNumber_23, q_X3_readNumber_24, q_X3_readNumber_27, q_X3_readNumber_29, q_X3_readNumber_30, q_X3_readNumber_32, q_X3_readNumber_33, q_X3_readNumber_35, q_X3_readNumber_36, q_X3_readNumber_38, q_X3_readNumber_39, q_X3_readNumber_41, q_X3_readNumber_43, q_X3_readNumber_44, q_X3_readNumber_46, q_X3_readNumber_47, q_X3_readNumber_48, q_X3_readNumber_49, q_X3_readNumber_50, q_X3_readNumber_52, q_X3_readNumber_54, q_X3_readNumber_57, q_X3_readNumber_60, q_X3_readNumber_62, q_X3_readNumber_63, q_X3_readNumber_66, q_X3_readNumber_68, q_X3_readNumber_69, q_X3_readNumber_72, q_X3_readNumber_73, q_X3_readNumber_74, q_X3_readNumber_77, q_X3_readNumber_80, q_X3_readNumber_83, q_X3_readNumber_84, q_X3_readNumber_86, q_X3_readNumber_87, q_X3_readNumber_89, q_X3_readNumber_90, q_X3_readNumber_92, q_X3_readNumber_93, q_X3_readNumber_94, q_X3_readNumber_97, q_X3_readNumber_98, q_X3_readNumber_99, q_X3_readNumber_102, q_X3_readNumber_105, nI_add, pI_le, pI_lt, pI_eq, pI_neg, pI_nn, pI_le0, pI_gt0, pI_eq0, xbV_s, xbU_s, if_true, if_false, bI_eq0, Nat.reduceAdd, Nat.reduceSub, Nat.reduceEqDiff, Nat.reduceLeDiff, Nat.reduceLT, Bool.true_eq_false, Bool.false_eq_true, z]
            exact s3_end xup_s (by omega)
          · simp (disch := omega) only [q_X3_readNumber_10, q_X3_readNumber_13, q_X3_readNumber_14, q_X3_readNumber_17, q_X3_readNumber_20, q_X3_readNumber_23, q_X3_readNumber_24, q_X3_readNumber_27, q_X3_readNumber_29, q_X3_readNumber_30, q_X3_readNumber_32, q_X3_readNumber_33, q_X3_readNumber_35, q_X3_readNumber_36, q_X3_readNumber_38, q_X3_readNumber_39, q_X3_readNumber_41, q_X3_readNumber_43, q_X3_readNumber_44, q_X3_readNumber_46, q_X3_readNumber_47, q_X3_readNumber_48, q_X3_readNumber_49, q_X3_readNumber_50, q_X3_readNumber_52, q_X3_readNumber_54, q_X3_readNumber_57, q_X3_readNumber_60, q_X3_readNumber_62, q_X3_readNumber_63, q_X3_readNumber_66, q_X3_readNumber_68, q_X3_readNumber_69, q_X3_readNumber_72, q_X3_readNumber_73, q_X3_readNumber_74, q_X3_readNumber_77, q_X3_readNumber_80, q_X3_readNumber_83, q_X3_readNumber_84, q_X3_readNumber_86, q_X3_readNumber_87, q_X3_readNumber_89, q_X3_readNumber_90, q_X3_readNumber_92, q_X3_readNumber_93, q_X3_readNumber_94, q_X3_readNumber_97, q_X3_readNumber_98, q_X3_readNumber_99, q_X3_readNumber_102, q_X3_readNumber_105, nI_add, pI_le, pI_lt, pI_eq, pI_neg, pI_nn, pI_le0, pI_gt0, pI_eq0, xbV_s, xbU_s, if_true, if_false, bI_eq0, Nat.reduceAdd, Nat.reduceSub, Nat.reduceEqDiff, Nat.reduceLeDiff, Nat.reduceLT, Bool.true_eq_false, Bool.false_eq_true, z, k3, xup_s, pI_ne9]
            exact s3_end xup_s (by omega)
      · rw [if_neg (fun q => r1 (by have := of_decide_eq_true q.2; exact this.1))]
        have r1' : hi < (2 * v + dgt t L p) * 2 ^ k := by omega
        refine ⟨xup I 163 6 (nI p), ?_, tGn.rf.u6, xup_s, by omega⟩
        rw [q_X3_readNumber_8]
        simp (disch := omega) only [q_X3_readNumber_10, q_X3_readNumber_13, q_X3_readNumber_14, q_X3_readNumber_17, q_X3_readNumber_20, q_X3_readNumber_23, q_X3_readNumber_24, q_X3_readNumber_27, q_X3_readNumber_29, q_X3_readNumber_30, q_X3_readNumber_32, q_X3_readNumber_33, q_X3_readNumber_35, q_X3_readNumber_36, q_X3_readNumber_38, q_X3_readNumber_39, q_X3_readNumber_41, q_X3_readNumber_43, q_X3_readNumber_44, q_X3_readNumber_46, q_X3_readNumber_47, q_X3_readNumber_48, q_X3_readNumber_49, q_X3_readNumber_50, q_X3_readNumber_52, q_X3_readNumber_54, q_X3_readNumber_57, q_X3_readNumber_60, q_X3_readNumber_62, q_X3_readNumber_63, q_X3_readNumber_66, q_X3_readNumber_68, q_X3_readNumber_69, q_X3_readNumber_72, q_X3_readNumber_73, q_X3_readNumber_74, q_X3_readNumber_77, q_X3_readNumber_80, q_X3_readNumber_83, q_X3_readNumber_84, q_X3_readNumber_86, q_X3_readNumber_87, q_X3_readNumber_89, q_X3_readNumber_90, q_X3_readNumber_92, q_X3_readNumber_93, q_X3_readNumber_94, q_X3_readNumber_97, q_X3_readNumber_98, q_X3_readNumber_99, q_X3_readNumber_102, q_X3_readNumber_105, nI_add, pI_le, pI_lt, pI_eq, pI_neg, pI_nn, pI_le0, pI_gt0, pI_eq0, xbV_s, xbU_s, if_true, if_false, bI_eq0, Nat.reduceAdd, Nat.reduceSub, Nat.reduceEqDiff, Nat.reduceLeDiff, Nat.reduceLT, Bool.true_eq_false, Bool.false_eq_true, e, k3, h6, hd, pk_mul, pk_shlG, e9, pI_ne9, r1', h5, e2]
        rw [q_X3_readNumber_8]
        by_cases z : nI k - nI 1 < 0
        · simp (disch := omega) only [q_X3_readNumber_10, q_X3_readNumber_13, q_X3_readNumber_14, q_X3_readNumber_17, q_X3_readNumber_20, q_X3_readNumber_23, q_X3_readNumber_24, q_X3_readNumber_27, q_X3_readNumber_29, q_X3_readNumber_30, q_X3_readNumber_32, q_X3_readNumber_33, q_X3_readNumber_35, q_X3_readNumber_36, q_X3_readNumber_38, q_X3_readNumber_39, q_X3_readNumber_41, q_X3_readNumber_43, q_X3_readNumber_44, q_X3_readNumber_46, q_X3_readNumber_47, q_X3_readNumber_48, q_X3_readNumber_49, q_X3_readNumber_50, q_X3_readNumber_52, q_X3_readNumber_54, q_X3_readNumber_57, q_X3_readNumber_60, q_X3_readNumber_62, q_X3_readNumber_63, q_X3_readNumber_66, q_X3_readNumber_68, q_X3_readNumber_69, q_X3_readNumber_72, q_X3_readNumber_73, q_X3_readNumber_74, q_X3_readNumber_77, q_X3_readNumber_80, q_X3_readNumber_83, q_X3_readNumber_84, q_X3_readNumber_86, q_X3_readNumber_87, q_X3_readNumber_89, q_X3_readNumber_90, q_X3_readNumber_92, q_X3_readNumber_93, q_X3_readNumber_94, q_X3_readNumber_97, q_X3_readNumber_98, q_X3_readNumber_99, q_X3_readNumber_102, q_X3_readNumber_105, nI_add, pI_le, pI_lt, pI_eq, pI_neg, pI_nn, pI_le0, pI_gt0, pI_eq0, xbV_s, xbU_s, if_true, if_false, bI_eq0, Nat.reduceAdd, Nat.reduceSub, Nat.reduceEqDiff, Nat.reduceLeDiff, Nat.reduceLT, Bool.true_eq_false, Bool.false_eq_true, z]
          exact s3_end xup_s (by omega)
        · simp (disch := omega) only [q_X3_readNumber_10, q_X3_readNumber_13, q_X3_readNumber_14, q_X3_readNumber_17, q_X3_readNumber_20, q_X3_readNumber_23, q_X3_readNumber_24, q_X3_readNumber_27, q_X3_readNumber_29, q_X3_readNumber_30, q_X3_readNumber_32, q_X3_readNumber_33, q_X3_readNumber_35, q_X3_readNumber_36, q_X3_readNumber_38, q_X3_readNumber_39, q_X3_readNumber_41, q_X3_readNumber_43, q_X3_readNumber_44, q_X3_readNumber_46, q_X3_readNumber_47, q_X3_readNumber_48, q_X3_readNumber_49, q_X3_readNumber_50, q_X3_readNumber_52, q_X3_readNumber_54, q_X3_readNumber_57, q_X3_readNumber_60, q_X3_readNumber_62, q_X3_readNumber_63, q_X3_readNumber_66, q_X3_readNumber_68, q_X3_readNumber_69, q_X3_readNumber_72, q_X3_readNumber_73, q_X3_readNumber_74, q_X3_readNumber_77, q_X3_readNumber_80, q_X3_readNumber_83, q_X3_readNumber_84, q_X3_readNumber_86, q_X3_readNumber_87, q_X3_readNumber_89, q_X3_readNumber_90, q_X3_readNumber_92, q_X3_readNumber_93, q_X3_readNumber_94, q_X3_readNumber_97, q_X3_readNumber_98, q_X3_readNumber_99, q_X3_readNumber_102, q_X3_readNumber_105, nI_add, pI_le, pI_lt, pI_eq, pI_neg, pI_nn, pI_le0, pI_gt0, pI_eq0, xbV_s, xbU_s, if_true, if_false, bI_eq0, Nat.reduceAdd, Nat.reduceSub, Nat.reduceEqDiff, Nat.reduceLeDiff, Nat.reduceLT, Bool.true_eq_false, Bool.false_eq_true, z, k3, xup_s, pI_ne9]
          exact s3_end xup_s (by omega)
    · have ed : dgI t L p = -9999 := by unfold dgI; rw [if_neg hq]
      rw [ed] at hd
      rw [if_neg (fun q => hq q.1)]
      refine ⟨xup I 163 6 (nI p), ?_, tGn.rf.u6, xup_s, by omega⟩
      rw [q_X3_readNumber_8]
      simp (disch := omega) only [q_X3_readNumber_10, q_X3_readNumber_13, q_X3_readNumber_14, q_X3_readNumber_17, q_X3_readNumber_20, q_X3_readNumber_23, q_X3_readNumber_24, q_X3_readNumber_27, q_X3_readNumber_29, q_X3_readNumber_30, q_X3_readNumber_32, q_X3_readNumber_33, q_X3_readNumber_35, q_X3_readNumber_36, q_X3_readNumber_38, q_X3_readNumber_39, q_X3_readNumber_41, q_X3_readNumber_43, q_X3_readNumber_44, q_X3_readNumber_46, q_X3_readNumber_47, q_X3_readNumber_48, q_X3_readNumber_49, q_X3_readNumber_50, q_X3_readNumber_52, q_X3_readNumber_54, q_X3_readNumber_57, q_X3_readNumber_60, q_X3_readNumber_62, q_X3_readNumber_63, q_X3_readNumber_66, q_X3_readNumber_68, q_X3_readNumber_69, q_X3_readNumber_72, q_X3_readNumber_73, q_X3_readNumber_74, q_X3_readNumber_77, q_X3_readNumber_80, q_X3_readNumber_83, q_X3_readNumber_84, q_X3_readNumber_86, q_X3_readNumber_87, q_X3_readNumber_89, q_X3_readNumber_90, q_X3_readNumber_92, q_X3_readNumber_93, q_X3_readNumber_94, q_X3_readNumber_97, q_X3_readNumber_98, q_X3_readNumber_99, q_X3_readNumber_102, q_X3_readNumber_105, nI_add, pI_le, pI_lt, pI_eq, pI_neg, pI_nn, pI_le0, pI_gt0, pI_eq0, xbV_s, xbU_s, if_true, if_false, bI_eq0, Nat.reduceAdd, Nat.reduceSub, Nat.reduceEqDiff, Nat.reduceLeDiff, Nat.reduceLT, Bool.true_eq_false, Bool.false_eq_true, e, k3, h6, hd, h5, e2]
      rw [q_X3_readNumber_8]
      by_cases z : nI k - nI 1 < 0
      · simp (disch := omega) only [q_X3_readNumber_10, q_X3_readNumber_13, q_X3_readNumber_14, q_X3_readNumber_17, q_X3_readNumber_20, q_X3_readNumber_23, q_X3_readNumber_24, q_X3_readNumber_27, q_X3_readNumber_29, q_X3_readNumber_30, q_X3_readNumber_32, q_X3_readNumber_33, q_X3_readNumber_35, q_X3_readNumber_36, q_X3_readNumber_38, q_X3_readNumber_39, q_X3_readNumber_41, q_X3_readNumber_43, q_X3_readNumber_44, q_X3_readNumber_46, q_X3_readNumber_47, q_X3_readNumber_48, q_X3_readNumber_49, q_X3_readNumber_50, q_X3_readNumber_52, q_X3_readNumber_54, q_X3_readNumber_57, q_X3_readNumber_60, q_X3_readNumber_62, q_X3_readNumber_63, q_X3_readNumber_66, q_X3_readNumber_68, q_X3_readNumber_69, q_X3_readNumber_72, q_X3_readNumber_73, q_X3_readNumber_74, q_X3_readNumber_77, q_X3_readNumber_80, q_X3_readNumber_83, q_X3_readNumber_84, q_X3_readNumber_86, q_X3_readNumber_87, q_X3_readNumber_89, q_X3_readNumber_90, q_X3_readNumber_92, q_X3_readNumber_93, q_X3_readNumber_94, q_X3_readNumber_97, q_X3_readNumber_98, q_X3_readNumber_99, q_X3_readNumber_102, q_X3_readNumber_105, nI_add, pI_le, pI_lt, pI_eq, pI_neg, pI_nn, pI_le0, pI_gt0, pI_eq0, xbV_s, xbU_s, if_true, if_false, bI_eq0, Nat.reduceAdd, Nat.reduceSub, Nat.reduceEqDiff, Nat.reduceLeDiff, Nat.reduceLT, Bool.true_eq_false, Bool.false_eq_true, z]
        exact s3_end xup_s (by omega)
      · simp (disch := omega) only [q_X3_readNumber_10, q_X3_readNumber_13, q_X3_readNumber_14, q_X3_readNumber_17, q_X3_readNumber_20, q_X3_readNumber_23, q_X3_readNumber_24, q_X3_readNumber_27, q_X3_readNumber_29, q_X3_readNumber_30, q_X3_readNumber_32, q_X3_readNumber_33, q_X3_readNumber_35, q_X3_readNumber_36, q_X3_readNumber_38, q_X3_readNumber_39, q_X3_readNumber_41, q_X3_readNumber_43, q_X3_readNumber_44, q_X3_readNumber_46, q_X3_readNumber_47, q_X3_readNumber_48, q_X3_readNumber_49, q_X3_readNumber_50, q_X3_readNumber_52, q_X3_readNumber_54, q_X3_readNumber_57, q_X3_readNumber_60, q_X3_readNumber_62, q_X3_readNumber_63, q_X3_readNumber_66, q_X3_readNumber_68, q_X3_readNumber_69, q_X3_readNumber_72, q_X3_readNumber_73, q_X3_readNumber_74, q_X3_readNumber_77, q_X3_readNumber_80, q_X3_readNumber_83, q_X3_readNumber_84, q_X3_readNumber_86, q_X3_readNumber_87, q_X3_readNumber_89, q_X3_readNumber_90, q_X3_readNumber_92, q_X3_readNumber_93, q_X3_readNumber_94, q_X3_readNumber_97, q_X3_readNumber_98, q_X3_readNumber_99, q_X3_readNumber_102, q_X3_readNumber_105, nI_add, pI_le, pI_lt, pI_eq, pI_neg, pI_nn, pI_le0, pI_gt0, pI_eq0, xbV_s, xbU_s, if_true, if_false, bI_eq0, Nat.reduceAdd, Nat.reduceSub, Nat.reduceEqDiff, Nat.reduceLeDiff, Nat.reduceLT, Bool.true_eq_false, Bool.false_eq_true, z, k3, xup_s, pI_ne9]
        exact s3_end xup_s (by omega)
theorem s3_num {wd lo hi p : Nat} (hL : L ≤ 160) (ht : ∀ j, j < L → t j ≤ 255) (hlo : lo ≤ 5000) (hhi : hi ≤ 5000) (hw : wd ≤ 12) (hp : p ≤ 188) (hT : tC I t L) (h5 : I 163 5 = nI p) (h6 : I 163 6 = -9999) : ∃ I', f_X3_readNumber [.ref 163, .int (nI wd), .int (nI lo), .int (nI hi)] I = some (.inl (some (.int (nI (nVal lo (pN t L (okc lo hi) wd 0 p))))), I') ∧ tGn I I' ∧ cRd I' (fun x : Nat × Nat => x.2) (pN t L (okc lo hi) wd 0 p) := by
  have hp3 : 2 ^ wd ≤ 2 ^ 12 := Nat.pow_le_pow_right (by decide) (by omega)
  obtain ⟨I', f1, f2, f3⟩ := s3_num_l (wd := wd) hL ht hlo hhi wd 0 p I none none none (by omega) hw (by omega) hT h5 h6
  refine ⟨I', ?_, f2, f3⟩
  rw [e_X3_readNumber]
  simp (disch := omega) only [q_X3_readNumber_0, q_X3_readNumber_1, q_X3_readNumber_3, q_X3_readNumber_4, q_X3_readNumber_5, q_X3_readNumber_6, nI_add, pI_le, pI_lt, pI_eq, pI_neg, pI_nn, pI_le0, pI_gt0, pI_eq0, xbV_s, xbU_s, if_true, if_false, bI_eq0, Nat.reduceAdd, Nat.reduceSub, Nat.reduceEqDiff, Nat.reduceLeDiff, Nat.reduceLT, Bool.true_eq_false, Bool.false_eq_true]
  exact f1
/-- behind an error nothing is read -/
theorem s3_numE {wd lo hi e : Nat} (hw : wd ≤ 12) (h6 : I 163 6 = nI e) (he : e ≤ 200) : f_X3_readNumber [.ref 163, .int (nI wd), .int (nI lo), .int (nI hi)] I = some (.inl (some (.int (nI lo))), I) := by
  have k3 := x163
  rw [e_X3_readNumber]
  simp (disch := omega) only [q_X3_readNumber_0, q_X3_readNumber_1, q_X3_readNumber_3, q_X3_readNumber_4, q_X3_readNumber_5, q_X3_readNumber_6, nI_add, pI_le, pI_lt, pI_eq, pI_neg, pI_nn, pI_le0, pI_gt0, pI_eq0, xbV_s, xbU_s, if_true, if_false, bI_eq0, Nat.reduceAdd, Nat.reduceSub, Nat.reduceEqDiff, Nat.reduceLeDiff, Nat.reduceLT, Bool.true_eq_false, Bool.false_eq_true]
  rw [q_X3_readNumber_8]
  by_cases z : nI wd - nI 1 < 0
  · simp (disch := omega) only [q_X3_readNumber_10, q_X3_readNumber_13, q_X3_readNumber_14, q_X3_readNumber_17, q_X3_readNumber_20, q_X3_readNumber_23, q_X3_readNumber_24, q_X3_readNumber_27, q_X3_readNumber_29, q_X3_readNumber_30, q_X3_readNumber_32, q_X3_readNumber_33, q_X3_readNumber_35, q_X3_readNumber_36, q_X3_readNumber_38, q_X3_readNumber_39, q_X3_readNumber_41, q_X3_readNumber_43, q_X3_readNumber_44, q_X3_readNumber_46, q_X3_readNumber_47, q_X3_readNumber_48, q_X3_readNumber_49, q_X3_readNumber_50, q_X3_readNumber_52, q_X3_readNumber_54, q_X3_readNumber_57, q_X3_readNumber_60, q_X3_readNumber_62, q_X3_readNumber_63, q_X3_readNumber_66, q_X3_readNumber_68, q_X3_readNumber_69, q_X3_readNumber_72, q_X3_readNumber_73, q_X3_readNumber_74, q_X3_readNumber_77, q_X3_readNumber_80, q_X3_readNumber_83, q_X3_readNumber_84, q_X3_readNumber_86, q_X3_readNumber_87, q_X3_readNumber_89, q_X3_readNumber_90, q_X3_readNumber_92, q_X3_readNumber_93, q_X3_readNumber_94, q_X3_readNumber_97, q_X3_readNumber_98, q_X3_readNumber_99, q_X3_readNumber_102, q_X3_readNumber_105, nI_add, pI_le, pI_lt, pI_eq, pI_neg, pI_nn, pI_le0, pI_gt0, pI_eq0, xbV_s, xbU_s, if_true, if_false, bI_eq0, Nat.reduceAdd, Nat.reduceSub, Nat.reduceEqDiff, Nat.reduceLeDiff, Nat.reduceLT, Bool.true_eq_false, Bool.false_eq_true, z]
    exact s3_end h6 he
  · simp (disch := omega) only [q_X3_readNumber_10, q_X3_readNumber_13, q_X3_readNumber_14, q_X3_readNumber_17, q_X3_readNumber_20, q_X3_readNumber_23, q_X3_readNumber_24, q_X3_readNumber_27, q_X3_readNumber_29, q_X3_readNumber_30, q_X3_readNumber_32, q_X3_readNumber_33, q_X3_readNumber_35, q_X3_readNumber_36, q_X3_readNumber_38, q_X3_readNumber_39, q_X3_readNumber_41, q_X3_readNumber_43, q_X3_readNumber_44, q_X3_readNumber_46, q_X3_readNumber_47, q_X3_readNumber_48, q_X3_readNumber_49, q_X3_readNumber_50, q_X3_readNumber_52, q_X3_readNumber_54, q_X3_readNumber_57, q_X3_readNumber_60, q_X3_readNumber_62, q_X3_readNumber_63, q_X3_readNumber_66, q_X3_readNumber_68, q_X3_readNumber_69, q_X3_readNumber_72, q_X3_readNumber_73, q_X3_readNumber_74, q_X3_readNumber_77, q_X3_readNumber_80, q_X3_readNumber_83, q_X3_readNumber_84, q_X3_readNumber_86, q_X3_readNumber_87, q_X3_readNumber_89, q_X3_readNumber_90, q_X3_readNumber_92, q_X3_readNumber_93, q_X3_readNumber_94, q_X3_readNumber_97, q_X3_readNumber_98, q_X3_readNumber_99, q_X3_readNumber_102, q_X3_readNumber_105, nI_add, pI_le, pI_lt, pI_eq, pI_neg, pI_nn, pI_le0, pI_gt0, pI_eq0, xbV_s, xbU_s, if_true, if_false, bI_eq0, Nat.reduceAdd, Nat.reduceSub, Nat.reduceEqDiff, Nat.reduceLeDiff, Nat.reduceLT, Bool.true_eq_false, Bool.false_eq_true, z, k3, h6, pI_ne9]
    exact s3_end h6 he
end PN
end P38
