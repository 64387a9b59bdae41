/-! ===== both sides' state in one ===== -/
section P33
/-- the state; what is remembered, how much; the slots; the text, its length -/
abbrev aS : Type := cS × (Nat → cS) × Nat × (Nat → Option cS) × (Nat → Nat) × Nat
abbrev zS (α : aS) : cS := α.1
abbrev zH (α : aS) : Nat → cS := α.2.1
abbrev zA (α : aS) : Nat := α.2.2.1
abbrev zK (α : aS) : Nat → Option cS := α.2.2.2.1
abbrev zt (α : aS) : Nat → Nat := α.2.2.2.2.1
abbrev zL (α : aS) : Nat := α.2.2.2.2.2
def aWF (α : aS) : Prop := sWF (zS α) ∧ (zA α ≤ 14 ∧ ∀ i, i < zA α → sWF (zH α i)) ∧ (∀ s, s < 2 → ∀ S, zK α s = some S → sWF S) ∧ zL α ≤ 160 ∧ ∀ j, j < zL α → zt α j ≤ 255
def oN (o : Option cS) : Nat := match o with
  | some _ => 1
  | none => 0
def cK (I : xMem) (K : Nat → Option cS) : Prop := ∀ s, s < 2 → I 181 s = nI (oN (K s)) ∧ ∀ S, K s = some S → cR I (145 + 9 * s) S
def mK (I : xMem) (K : Nat → Option cS) : Prop := ∀ s, s < 2 → I 196 s = nI (oN (K s)) ∧ ∀ S, K s = some S → mC (fun k => I 195 (142 * s + k)) S
def tC (I : xMem) (t : Nat → Nat) (L : Nat) : Prop := I 163 3 = nI L ∧ ∀ j, j < L → I 165 j = nI (t j)
def tM (I : xMem) (t : Nat → Nat) (L : Nat) : Prop := I 189 2 = nI L ∧ ∀ j, j < L → I 190 j = nI (t j)
def cInv (I : xMem) (α : aS) : Prop := aWF α ∧ cR I 1 (zS α) ∧ cH I (zH α) (zA α) ∧ cK I (zK α) ∧ tC I (zt α) (zL α)
def mInv (I : xMem) (α : aS) : Prop := aWF α ∧ mR I 191 (zS α) ∧ mH I (zH α) (zA α) ∧ mK I (zK α) ∧ tM I (zt α) (zL α)
theorem cK.cg {I I' : xMem} {K : Nat → Option cS} (h : cK I K) (e : ∀ c, 145 ≤ c → c < 163 → I' c = I c) (e2 : I' 181 = I 181) : cK I' K := by
  intro s hs
  obtain ⟨h1, h2⟩ := h s hs
  exact ⟨by rw [e2]; exact h1, fun S hS => (h2 S hS).cg (fun c h6 h7 => e c (by omega) (by omega))⟩
theorem tC.cg {I I' : xMem} {t : Nat → Nat} {L : Nat} (h : tC I t L) (e : I' 163 3 = I 163 3) (e2 : I' 165 = I 165) : tC I' t L := by
  unfold tC
  rw [e, e2]
  exact h
theorem mH.cg {I I' : xMem} {H : Nat → cS} {A : Nat} (h : mH I H A) (e : I' 189 8 = I 189 8) (e2 : I' 194 = I 194) : mH I' H A := by
  unfold mH
  rw [e, e2]
  exact h
theorem mK.cg {I I' : xMem} {K : Nat → Option cS} (h : mK I K) (e : I' 195 = I 195) (e2 : I' 196 = I 196) : mK I' K := by
  unfold mK
  rw [e, e2]
  exact h
theorem tM.cg {I I' : xMem} {t : Nat → Nat} {L : Nat} (h : tM I t L) (e : I' 189 2 = I 189 2) (e2 : I' 190 = I 190) : tM I' t L := by
  unfold tM
  rw [e, e2]
  exact h
/-- cells that hold nothing of the state may change: 0, 8 .. 18, 166 .. 172, 183 .. 188, and 163 but its length -/
theorem cInv.cg {I I' : xMem} {α : aS} (h : cInv I α) (e : ∀ c, (1 ≤ c ∧ c ≤ 7) ∨ (19 ≤ c ∧ c < 163) ∨ c = 165 ∨ c = 173 ∨ c = 181 → I' c = I c) (e3 : I' 163 3 = I 163 3) : cInv I' α := by
  obtain ⟨h1, h2, h3, h4, h5⟩ := h
  exact ⟨h1, h2.cg (fun c h6 h7 => e c (by omega)), h3.cg (fun c h6 h7 => e c (by omega)) (e _ (by omega)), h4.cg (fun c h6 h7 => e c (by omega)) (e _ (by omega)), h5.cg e3 (e _ (by omega))⟩
theorem mInv.cg {I I' : xMem} {α : aS} (h : mInv I α) (e : ∀ c, c = 190 ∨ c = 191 ∨ c = 194 ∨ c = 195 ∨ c = 196 → I' c = I c) (e2 : I' 189 2 = I 189 2) (e8 : I' 189 8 = I 189 8) : mInv I' α := by
  obtain ⟨h1, h2, h3, h4, h5⟩ := h
  exact ⟨h1, h2.cg (e _ (by omega)), h3.cg e8 (e _ (by omega)), h4.cg (e _ (by omega)) (e _ (by omega)), h5.cg e2 (e _ (by omega))⟩
theorem mInv.rf {I : xMem} {α : aS} (h : mInv I α) (k : Nat) : mInv (xup I 189 0 (nI k)) α := h.cg (fun c hc => xup_o (by omega)) (xup_d (by omega)) (xup_d (by omega))
/-- the outcome of a call: k is the refusal (0: none), v the answer; ex tells which exception -/
def xEx (ex : List Nat) (k : Nat) : Nat := ex.getD (k - 1) 0
def CC (f : List Value → xMem → Option ((Option Value ⊕ Nat) × xMem)) (as : List Value) (ex : List Nat) (I : xMem) (k : Nat) (v : Int32) (β : aS) : Prop := ∃ I', f as I = some ((if k = 0 then .inl (some (.int v)) else .inr (xEx ex k)), I') ∧ cInv I' β ∧ zG 0 189 I I'
def MM (f : List Value → xMem → Option ((Option Value ⊕ Nat) × xMem)) (as : List Value) (I : xMem) (k : Nat) (v : Int32) (β : aS) : Prop := ∃ I', f as I = some (.inl (some (.int (if k = 0 then v else nI 0))), I') ∧ mInv I' β ∧ zG 189 12 I I' ∧ I' 189 0 = nI k
def MN (f : List Value → xMem → Option ((Option Value ⊕ Nat) × xMem)) (as : List Value) (I : xMem) (v : Int32) (β : aS) : Prop := ∃ I', f as I = some (.inl (some (.int v)), I') ∧ mInv I' β ∧ zG 189 12 I I'
/-- class and reference agree in a call that may be refused; in one that isn't -/
def Agree (f g : List Value → xMem → Option ((Option Value ⊕ Nat) × xMem)) (as : List Value) (ex : List Nat) (α : aS) : Prop := ∃ k v β, k ≤ ex.length ∧ (∀ I, cInv I α → CC f (.ref 0 :: as) ex I k v β) ∧ (∀ I, mInv I α → MM g (.ref 189 :: as) I k v β)
def Agree0 (f g : List Value → xMem → Option ((Option Value ⊕ Nat) × xMem)) (as : List Value) (α : aS) : Prop := ∃ v β, (∀ I, cInv I α → CC f (.ref 0 :: as) [] I 0 v β) ∧ (∀ I, mInv I α → MN g (.ref 189 :: as) I v β)
/-- the reference's cells and the law's stay: the class's own may change, those behind 201 too -/
def zC (I I' : xMem) : Prop := ∀ c, 189 ≤ c → c < 202 → I' c = I c
def CCw (f : List Value → xMem → Option ((Option Value ⊕ Nat) × xMem)) (as : List Value) (ex : List Nat) (I : xMem) (k : Nat) (v : Int32) (β : aS) : Prop := ∃ I', f as I = some ((if k = 0 then .inl (some (.int v)) else .inr (xEx ex k)), I') ∧ cInv I' β ∧ zC I I'
def AgreeW (f g : List Value → xMem → Option ((Option Value ⊕ Nat) × xMem)) (as : List Value) (ex : List Nat) (α : aS) : Prop := ∃ k v β, k ≤ ex.length ∧ (∀ I, cInv I α → CCw f (.ref 0 :: as) ex I k v β) ∧ (∀ I, mInv I α → MM g (.ref 189 :: as) I k v β)
theorem Agree.w {f g : List Value → xMem → Option ((Option Value ⊕ Nat) × xMem)} {as : List Value} {ex : List Nat} {α : aS} (h : Agree f g as ex α) : AgreeW f g as ex α := by
  obtain ⟨k, v, β, h1, h2, h3⟩ := h
  refine ⟨k, v, β, h1, fun I hI => ?_, h3⟩
  obtain ⟨I', e1, e2, e3⟩ := h2 I hI
  exact ⟨I', e1, e2, fun c h4 h5 => e3 c (by omega)⟩
theorem AgreeW.wf {f g : List Value → xMem → Option ((Option Value ⊕ Nat) × xMem)} {as : List Value} {ex : List Nat} {α : aS} (h : aWF α → AgreeW f g as ex α) : AgreeW f g as ex α := by
  by_cases hw : aWF α
  · exact h hw
  · exact ⟨0, 0, α, Nat.zero_le _, fun I hI => absurd hI.1 hw, fun I hI => absurd hI.1 hw⟩
/-- what is refused changes nothing -/
theorem Agree.no {f g : List Value → xMem → Option ((Option Value ⊕ Nat) × xMem)} {as : List Value} {ex : List Nat} {α : aS} (k : Nat) (hk : 0 < k) (hk2 : k ≤ ex.length) (h1 : ∀ I, cInv I α → f (.ref 0 :: as) I = some (.inr (xEx ex k), I)) (h2 : ∀ I, mInv I α → g (.ref 189 :: as) I = some (.inl (some (.int (nI 0))), xup I 189 0 (nI k))) : Agree f g as ex α := by
  have e : ¬ k = 0 := by omega
  refine ⟨k, 0, α, hk2, fun I h => ⟨I, by rw [if_neg e]; exact h1 I h, h, zG.rf⟩, fun I h => ⟨xup I 189 0 (nI k), by rw [if_neg e]; exact h2 I h, h.rf k, zG.rf.up (by omega) (by omega), xup_s⟩⟩
theorem Agree.wf {f g : List Value → xMem → Option ((Option Value ⊕ Nat) × xMem)} {as : List Value} {ex : List Nat} {α : aS} (h : aWF α → Agree f g as ex α) : Agree f g as ex α := by
  by_cases hw : aWF α
  · exact h hw
  · exact ⟨0, 0, α, Nat.zero_le _, fun I hI => absurd hI.1 hw, fun I hI => absurd hI.1 hw⟩
theorem Agree0.wf {f g : List Value → xMem → Option ((Option Value ⊕ Nat) × xMem)} {as : List Value} {α : aS} (h : aWF α → Agree0 f g as α) : Agree0 f g as α := by
  by_cases hw : aWF α
  · exact h hw
  · exact ⟨0, α, fun I hI => absurd hI.1 hw, fun I hI => absurd hI.1 hw⟩
theorem x0 : xK 0 = 8 := by decide
theorem x1 : xK 1 = 0 := by decide
theorem x163 : xK 163 = 3 := by decide
theorem x190 : xK 190 = 10 := by decide
theorem l190 : xL 190 = 160 := by decide
theorem r0_0 : xR 0 0 = 1 := by decide
theorem r0_1 : xR 0 1 = 163 := by decide
theorem r0_2 : xR 0 2 = 170 := by decide
theorem r0_3 : xR 0 3 = 173 := by decide
theorem r0_4 : xR 0 4 = 178 := by decide
theorem r0_5 : xR 0 5 = 10 := by decide
theorem r9_1 : xR 189 1 = 190 := by decide
theorem r163_0 : xR 163 0 = 164 := by decide
theorem w164 : xRow 164 160 := ⟨by decide, by decide, by decide, by decide, by decide⟩
theorem xBet {x : Int32} {b : Nat} (hb : b < 1000000) (h : nI 0 ≤ x ∧ x ≤ nI b) : ∃ j, j ≤ b ∧ x = nI j := by
  obtain ⟨h1, h2⟩ := h
  rw [Int32.le_iff_toInt_le, nI_toInt (by omega)] at h1 h2
  refine ⟨x.toInt.toNat, by omega, ?_⟩
  apply Int32.toInt_inj.mp
  rw [nI_toInt (by omega)]
  omega
theorem xIn {x : Int32} {b : Nat} (hb : b < 1000000) {B : Int64} (hB : B.toInt = b) : decide ((0 : Int64).toInt ≤ x.toInt64.toInt ∧ x.toInt64.toInt ≤ B.toInt) = xLt x (b + 1) := by
  rw [Int32.toInt_toInt64, hB, show (0 : Int64).toInt = 0 from rfl]
  unfold xLt
  by_cases q : 0 ≤ x.toInt ∧ x.toInt ≤ (b : Int)
  · rw [decide_eq_true q, decide_eq_true (by omega)]
  · rw [decide_eq_false q, decide_eq_false (by omega)]
theorem xLt_cases (x : Int32) {n : Nat} (hn : n < 1000000) : xLt x n = false ∨ ∃ j, j < n ∧ x = nI j ∧ xLt x n = true := by
  cases h : xLt x n with
  | false => exact Or.inl rfl
  | true => obtain ⟨j, h1, h2⟩ := xLt_ex h (by omega); exact Or.inr ⟨j, h1, h2, rfl⟩
theorem xLt_no {x : Int32} {n : Nat} (h : xLt x n = false) (hn : n < 1000000) : (x < 0) = True ∨ ((x < 0) = False ∧ (nI n ≤ x) = True) := by
  unfold xLt at h
  have h := of_decide_eq_false h
  by_cases q : x < 0
  · exact Or.inl (eq_true q)
  · refine Or.inr ⟨eq_false q, eq_true ?_⟩
    rw [Int32.lt_iff_toInt_lt, Int32.toInt_zero] at q
    rw [Int32.le_iff_toInt_le, nI_toInt (by omega)]
    omega
theorem xLt_gt {x : Int32} {n : Nat} (hn : n < 1000000) : (nI (n + 1) ≤ x) = ¬ (x ≤ nI n) := by
  rw [Int32.le_iff_toInt_le, Int32.le_iff_toInt_le, nI_toInt (by omega), nI_toInt (by omega)]
  exact propext ⟨fun h => by omega, fun h => by omega⟩
section PO
variable {α : aS}
theorem op_append (x : Int32) : Agree f_X8_append f_X9_append [.int x] [1, 2] α := by
  have k0 := x0
  have k3 := x163
  have k9 := x189
  have kr := w164.1
  have k90 := x190
  have l90 := l190
  have b255 : (255 : Int64).toInt = (255 : Nat) := by decide
  rcases xLt_cases x (n := 256) (by omega) with h | ⟨j, hj, rfl, h⟩
  · refine Agree.no 1 (by omega) (by decide) (fun I hI => ?_) (fun I hI => ?_)
    · show f_X8_append [.ref 0, .int x] I = some (.inr 1, I)
      rw [e_X8_append]
      rcases xLt_no h (by omega) with q | ⟨q, r⟩
      · simp (disch := omega) only [q_X8_append_0, q_X8_append_1, q_X8_append_4, q_X8_append_5, q_X8_append_8, q_X8_append_11, q_X8_append_21, q_X8_append_22, q_X8_append_25, q_X8_append_28, q_X8_append_31, q_X8_append_41, q_X8_append_42, q_X8_append_45, q_X8_append_46, q_X8_append_49, nI_add, pI_le, pI_lt, pI_eq, pI_neg, pI_nn, pI_le0, pI_gt0, pI_eq0, xbV_s, xbU_s, if_true, if_false, bI_eq0, Nat.reduceAdd, Nat.reduceSub, Nat.reduceEqDiff, Nat.reduceLeDiff, Nat.reduceLT, Bool.true_eq_false, Bool.false_eq_true, q]
      · rw [xLt_gt (by omega)] at r
        have r := of_eq_true r
        simp (disch := omega) only [q_X8_append_0, q_X8_append_1, q_X8_append_4, q_X8_append_5, q_X8_append_8, q_X8_append_11, q_X8_append_21, q_X8_append_22, q_X8_append_25, q_X8_append_28, q_X8_append_31, q_X8_append_41, q_X8_append_42, q_X8_append_45, q_X8_append_46, q_X8_append_49, nI_add, pI_le, pI_lt, pI_eq, pI_neg, pI_nn, pI_le0, pI_gt0, pI_eq0, xbV_s, xbU_s, if_true, if_false, bI_eq0, Nat.reduceAdd, Nat.reduceSub, Nat.reduceEqDiff, Nat.reduceLeDiff, Nat.reduceLT, Bool.true_eq_false, Bool.false_eq_true, q, r]
    · have e : xLt x (255 + 1) = false := h
      rw [e_X9_append]
      simp (disch := omega) only [q_X9_append_0, q_X9_append_1, q_X9_append_2, q_X9_append_3, q_X9_append_4, q_X9_append_7, q_X9_append_10, q_X9_append_13, q_X9_append_14, q_X9_append_17, q_X9_append_18, q_X9_append_21, q_X9_append_24, q_X9_append_27, q_X9_append_28, q_X9_append_31, q_X9_append_32, q_X9_append_35, q_X9_append_38, q_X9_append_39, q_X9_append_40, q_X9_append_41, q_X9_append_44, q_X9_append_45, q_X9_append_48, q_X9_append_49, q_X9_append_50, q_X9_append_51, q_X9_append_52, q_X9_append_55, q_X9_append_56, q_X9_append_57, q_X9_append_60, q_X9_append_61, q_X9_append_64, nI_add, pI_le, pI_lt, pI_eq, pI_neg, pI_nn, pI_le0, pI_gt0, pI_eq0, xbV_s, xbU_s, if_true, if_false, bI_eq0, Nat.reduceAdd, Nat.reduceSub, Nat.reduceEqDiff, Nat.reduceLeDiff, Nat.reduceLT, Bool.true_eq_false, Bool.false_eq_true, s9_in, xIn (b := 255) (by omega) b255, e, s9_refused, Nat.lt_irrefl, decide_true, decide_false, Nat.zero_lt_one]
  · by_cases q : zL α = 160
    · refine Agree.no 2 (by omega) (by decide) (fun I hI => ?_) (fun I hI => ?_)
      · obtain ⟨hw, h2, h3, h4, h5⟩ := hI
        have h5 := h5.1
        rw [q] at h5
        show f_X8_append [.ref 0, .int (nI j)] I = some (.inr 2, I)
        have n1 : j ≤ 255 := by omega
        rw [e_X8_append]
        have hf : f_X3_isFull [.ref 163] I = some (.inl (some (.int (nI 1))), I) := by
          rw [e_X3_isFull]
          simp (disch := omega) only [q_X3_isFull_0, q_X3_isFull_1, q_X3_isFull_4, q_X3_isFull_7, q_X3_isFull_10, q_X3_isFull_11, q_X3_isFull_14, q_X3_isFull_15_b, q_X3_isFull_15_0, q_X3_isFull_15_1, nI_add, pI_le, pI_lt, pI_eq, pI_neg, pI_nn, pI_le0, pI_gt0, pI_eq0, xbV_s, xbU_s, if_true, if_false, bI_eq0, Nat.reduceAdd, Nat.reduceSub, Nat.reduceEqDiff, Nat.reduceLeDiff, Nat.reduceLT, Bool.true_eq_false, Bool.false_eq_true, k3, h5]
        simp (disch := omega) only [q_X8_append_0, q_X8_append_1, q_X8_append_4, q_X8_append_5, q_X8_append_8, q_X8_append_11, q_X8_append_21, q_X8_append_22, q_X8_append_25, q_X8_append_28, q_X8_append_31, q_X8_append_41, q_X8_append_42, q_X8_append_45, q_X8_append_46, q_X8_append_49, nI_add, pI_le, pI_lt, pI_eq, pI_neg, pI_nn, pI_le0, pI_gt0, pI_eq0, xbV_s, xbU_s, if_true, if_false, bI_eq0, Nat.reduceAdd, Nat.reduceSub, Nat.reduceEqDiff, Nat.reduceLeDiff, Nat.reduceLT, Bool.true_eq_false, Bool.false_eq_true, n1, k0, r0_1, k3, hf]
      · obtain ⟨hw, h2, h3, h4, h5⟩ := hI
        have h5 := h5.1
        rw [q] at h5
        have e : xLt (nI j) (255 + 1) = true := h
        rw [e_X9_append]
        simp (disch := omega) only [q_X9_append_0, q_X9_append_1, q_X9_append_2, q_X9_append_3, q_X9_append_4, q_X9_append_7, q_X9_append_10, q_X9_append_13, q_X9_append_14, q_X9_append_17, q_X9_append_18, q_X9_append_21, q_X9_append_24, q_X9_append_27, q_X9_append_28, q_X9_append_31, q_X9_append_32, q_X9_append_35, q_X9_append_38, q_X9_append_39, q_X9_append_40, q_X9_append_41, q_X9_append_44, q_X9_append_45, q_X9_append_48, q_X9_append_49, q_X9_append_50, q_X9_append_51, q_X9_append_52, q_X9_append_55, q_X9_append_56, q_X9_append_57, q_X9_append_60, q_X9_append_61, q_X9_append_64, nI_add, pI_le, pI_lt, pI_eq, pI_neg, pI_nn, pI_le0, pI_gt0, pI_eq0, xbV_s, xbU_s, if_true, if_false, bI_eq0, Nat.reduceAdd, Nat.reduceSub, Nat.reduceEqDiff, Nat.reduceLeDiff, Nat.reduceLT, Bool.true_eq_false, Bool.false_eq_true, s9_in, xIn (b := 255) (by omega) b255, e, k9, h5, s9_refused, (show (0 : Nat) < 2 by omega), decide_true]
    · refine ⟨0, nI (zL α + 1), (zS α, zH α, zA α, zK α, nup (zt α) (zL α) j, zL α + 1), by decide, fun I hI => ?_, fun I hI => ?_⟩
      · obtain ⟨hw, h2, h3, h4, h5⟩ := hI
        have hL := hw.2.2.2.1
        have h6 := h5.1
        have n1 : j ≤ 255 := by omega
        have n2 : zL α < 160 := by omega
        have hf : f_X3_isFull [.ref 163] I = some (.inl (some (.int (nI 0))), I) := by
          rw [e_X3_isFull]
          simp (disch := omega) only [q_X3_isFull_0, q_X3_isFull_1, q_X3_isFull_4, q_X3_isFull_7, q_X3_isFull_10, q_X3_isFull_11, q_X3_isFull_14, q_X3_isFull_15_b, q_X3_isFull_15_0, q_X3_isFull_15_1, nI_add, pI_le, pI_lt, pI_eq, pI_neg, pI_nn, pI_le0, pI_gt0, pI_eq0, xbV_s, xbU_s, if_true, if_false, bI_eq0, Nat.reduceAdd, Nat.reduceSub, Nat.reduceEqDiff, Nat.reduceLeDiff, Nat.reduceLT, Bool.true_eq_false, Bool.false_eq_true, k3, h6, n2]
        have ha : f_X3_addCharacter [.ref 163, .int (nI j)] I = some (.inl (some (.int (nI (zL α + 1)))), xup (xup I 165 (zL α) (nI j)) 163 3 (nI (zL α + 1))) := by
          rw [e_X3_addCharacter]
          simp (disch := omega) only [q_X3_addCharacter_0, q_X3_addCharacter_1, q_X3_addCharacter_4, q_X3_addCharacter_5, q_X3_addCharacter_8, q_X3_addCharacter_9, q_X3_addCharacter_12, q_X3_addCharacter_13, q_X3_addCharacter_14, q_X3_addCharacter_17, q_X3_addCharacter_18, q_X3_addCharacter_19, q_X3_addCharacter_22, q_X3_addCharacter_23, q_X3_addCharacter_26, nI_add, pI_le, pI_lt, pI_eq, pI_neg, pI_nn, pI_le0, pI_gt0, pI_eq0, xbV_s, xbU_s, if_true, if_false, bI_eq0, Nat.reduceAdd, Nat.reduceSub, Nat.reduceEqDiff, Nat.reduceLeDiff, Nat.reduceLT, Bool.true_eq_false, Bool.false_eq_true, k3, h6, r163_0, kr, s_set w164, xup_o, xup_s]
        refine ⟨xup (xup I 165 (zL α) (nI j)) 163 3 (nI (zL α + 1)), ?_, ⟨⟨hw.1, hw.2.1, hw.2.2.1, n2, ?_⟩, h2.cg (fun c h6 h7 => by rw [xup_o (by omega), xup_o (by omega)]), h3.cg (fun c h6 h7 => by rw [xup_o (by omega), xup_o (by omega)]) (by rw [xup_o (by omega), xup_o (by omega)]), h4.cg (fun c h6 h7 => by rw [xup_o (by omega), xup_o (by omega)]) (by rw [xup_o (by omega), xup_o (by omega)]), ?_, ?_⟩, (zG.rf.up (by omega) (by omega)).up (by omega) (by omega)⟩
        · rw [if_pos rfl, e_X8_append]
          simp (disch := omega) only [q_X8_append_0, q_X8_append_1, q_X8_append_4, q_X8_append_5, q_X8_append_8, q_X8_append_11, q_X8_append_21, q_X8_append_22, q_X8_append_25, q_X8_append_28, q_X8_append_31, q_X8_append_41, q_X8_append_42, q_X8_append_45, q_X8_append_46, q_X8_append_49, nI_add, pI_le, pI_lt, pI_eq, pI_neg, pI_nn, pI_le0, pI_gt0, pI_eq0, xbV_s, xbU_s, if_true, if_false, bI_eq0, Nat.reduceAdd, Nat.reduceSub, Nat.reduceEqDiff, Nat.reduceLeDiff, Nat.reduceLT, Bool.true_eq_false, Bool.false_eq_true, n1, k0, r0_1, k3, hf, ha]
        · intro i hi
          have hi : i < zL α + 1 := hi
          show nup (zt α) (zL α) j i ≤ 255
          unfold nup
          split
          · omega
          · exact hw.2.2.2.2 i (by omega)
        · rw [xup_s]
        · intro i hi
          have hi : i < zL α + 1 := hi
          show xup (xup I 165 (zL α) (nI j)) 163 3 (nI (zL α + 1)) 165 i = nI (nup (zt α) (zL α) j i)
          rw [xup_o (by omega)]
          unfold nup
          by_cases e : i = zL α
          · rw [if_pos e, e, xup_s]
          · rw [if_neg e, xup_d e]; exact h5.2 i (by omega)
      · obtain ⟨hw, h2, h3, h4, h5⟩ := hI
        have hL := hw.2.2.2.1
        have h6 := h5.1
        have n2 : zL α < 160 := by omega
        have e : xLt (nI j) (255 + 1) = true := h
        refine ⟨xup (xup (xup I 189 0 (nI 0)) 190 (zL α) (nI j)) 189 2 (nI (zL α + 1)), ?_, ⟨⟨hw.1, hw.2.1, hw.2.2.1, n2, ?_⟩, h2.cg (by rw [xup_o (by omega), xup_o (by omega), xup_o (by omega)]), h3.cg (by rw [xup_d (by omega), xup_o (by omega), xup_d (by omega)]) (by rw [xup_o (by omega), xup_o (by omega), xup_o (by omega)]), h4.cg (by rw [xup_o (by omega), xup_o (by omega), xup_o (by omega)]) (by rw [xup_o (by omega), xup_o (by omega), xup_o (by omega)]), ?_, ?_⟩, ((zG.rf.up (by omega) (by omega)).up (by omega) (by omega)).up (by omega) (by omega), ?_⟩
        · rw [if_pos rfl, e_X9_append]
          simp (disch := omega) only [q_X9_append_0, q_X9_append_1, q_X9_append_2, q_X9_append_3, q_X9_append_4, q_X9_append_7, q_X9_append_10, q_X9_append_13, q_X9_append_14, q_X9_append_17, q_X9_append_18, q_X9_append_21, q_X9_append_24, q_X9_append_27, q_X9_append_28, q_X9_append_31, q_X9_append_32, q_X9_append_35, q_X9_append_38, q_X9_append_39, q_X9_append_40, q_X9_append_41, q_X9_append_44, q_X9_append_45, q_X9_append_48, q_X9_append_49, q_X9_append_50, q_X9_append_51, q_X9_append_52, q_X9_append_55, q_X9_append_56, q_X9_append_57, q_X9_append_60, q_X9_append_61, q_X9_append_64, nI_add, pI_le, pI_lt, pI_eq, pI_neg, pI_nn, pI_le0, pI_gt0, pI_eq0, xbV_s, xbU_s, if_true, if_false, bI_eq0, Nat.reduceAdd, Nat.reduceSub, Nat.reduceEqDiff, Nat.reduceLeDiff, Nat.reduceLT, Bool.true_eq_false, Bool.false_eq_true, s9_in, xIn (b := 255) (by omega) b255, e, k9, k90, l90, r9_1, h6, q, s9_refused, Nat.lt_irrefl, decide_false, xup_o, xup_d, xup_s]
        · intro i hi
          have hi : i < zL α + 1 := hi
          show nup (zt α) (zL α) j i ≤ 255
          unfold nup
          split
          · omega
          · exact hw.2.2.2.2 i (by omega)
        · rw [xup_s]
        · intro i hi
          have hi : i < zL α + 1 := hi
          show xup (xup (xup I 189 0 (nI 0)) 190 (zL α) (nI j)) 189 2 (nI (zL α + 1)) 190 i = nI (nup (zt α) (zL α) j i)
          rw [xup_o (by omega)]
          unfold nup
          by_cases e : i = zL α
          · rw [if_pos e, e, xup_s]
          · rw [if_neg e, xup_d e, xup_o (by omega)]; exact h5.2 i (by omega)
        · rw [xup_d (by omega), xup_o (by omega), xup_s]
theorem op_clear : Agree0 f_X8_clearText f_X9_clearText [] α := by
  have k0 := x0
  have k3 := x163
  have k9 := x189
  refine ⟨nI (zL α), (zS α, zH α, zA α, zK α, zt α, 0), fun I hI => ?_, fun I hI => ?_⟩
  · obtain ⟨hw, h2, h3, h4, h5⟩ := hI
    have h6 := h5.1
    have ha : f_X3_makeEmpty [.ref 163] I = some (.inl (some (.int (nI (zL α)))), xup I 163 3 (nI 0)) := by
      rw [e_X3_makeEmpty]
      simp (disch := omega) only [q_X3_makeEmpty_0, q_X3_makeEmpty_1, q_X3_makeEmpty_4, q_X3_makeEmpty_5, q_X3_makeEmpty_6, q_X3_makeEmpty_7, q_X3_makeEmpty_10, q_X3_makeEmpty_11, nI_add, pI_le, pI_lt, pI_eq, pI_neg, pI_nn, pI_le0, pI_gt0, pI_eq0, xbV_s, xbU_s, if_true, if_false, bI_eq0, Nat.reduceAdd, Nat.reduceSub, Nat.reduceEqDiff, Nat.reduceLeDiff, Nat.reduceLT, Bool.true_eq_false, Bool.false_eq_true, k3, h6]
    refine ⟨xup I 163 3 (nI 0), ?_, ⟨⟨hw.1, hw.2.1, hw.2.2.1, Nat.zero_le _, fun i hi => absurd hi (Nat.not_lt_zero _)⟩, h2.cg (fun c h6 h7 => by rw [xup_o (by omega)]), h3.cg (fun c h6 h7 => by rw [xup_o (by omega)]) (by rw [xup_o (by omega)]), h4.cg (fun c h6 h7 => by rw [xup_o (by omega)]) (by rw [xup_o (by omega)]), xup_s, fun i hi => absurd hi (Nat.not_lt_zero _)⟩, zG.rf.up (by omega) (by omega)⟩
    rw [if_pos rfl, e_X8_clearText]
    simp (disch := omega) only [q_X8_clearText_0, q_X8_clearText_1, q_X8_clearText_4, q_X8_clearText_7, nI_add, pI_le, pI_lt, pI_eq, pI_neg, pI_nn, pI_le0, pI_gt0, pI_eq0, xbV_s, xbU_s, if_true, if_false, bI_eq0, Nat.reduceAdd, Nat.reduceSub, Nat.reduceEqDiff, Nat.reduceLeDiff, Nat.reduceLT, Bool.true_eq_false, Bool.false_eq_true, k0, r0_1, k3, ha]
  · obtain ⟨hw, h2, h3, h4, h5⟩ := hI
    have h6 := h5.1
    refine ⟨xup I 189 2 (nI 0), ?_, ⟨⟨hw.1, hw.2.1, hw.2.2.1, Nat.zero_le _, fun i hi => absurd hi (Nat.not_lt_zero _)⟩, h2.cg (by rw [xup_o (by omega)]), h3.cg (by rw [xup_d (by omega)]) (by rw [xup_o (by omega)]), h4.cg (by rw [xup_o (by omega)]) (by rw [xup_o (by omega)]), xup_s, fun i hi => absurd hi (Nat.not_lt_zero _)⟩, zG.rf.up (by omega) (by omega)⟩
    rw [e_X9_clearText]
    simp (disch := omega) only [q_X9_clearText_0, q_X9_clearText_1, q_X9_clearText_4, q_X9_clearText_5, q_X9_clearText_6, q_X9_clearText_7, q_X9_clearText_10, q_X9_clearText_11, nI_add, pI_le, pI_lt, pI_eq, pI_neg, pI_nn, pI_le0, pI_gt0, pI_eq0, xbV_s, xbU_s, if_true, if_false, bI_eq0, Nat.reduceAdd, Nat.reduceSub, Nat.reduceEqDiff, Nat.reduceLeDiff, Nat.reduceLT, Bool.true_eq_false, Bool.false_eq_true, k9, h6]
theorem op_at (x : Int32) : Agree f_X8_at f_X9_at [.int x] [3] α := by
  have k0 := x0
  have k1 := x1
  have k9 := x189
  have k91 := x191
  have l91 := l191
  cases h : xLt x (sn (zS α)) with
  | false =>
    refine Agree.no 1 (by omega) (by decide) (fun I hI => ?_) (fun I hI => ?_)
    · show f_X8_at [.ref 0, .int x] I = some (.inr 3, I)
      obtain ⟨hw, h2, h3, h4, h5⟩ := hI
      rw [e_X8_at]
      simp (disch := omega) only [q_X8_at_0, q_X8_at_1, q_X8_at_4, q_X8_at_5, q_X8_at_8, q_X8_at_11, q_X8_at_21, q_X8_at_22, q_X8_at_25, q_X8_at_26, q_X8_at_29, nI_add, pI_le, pI_lt, pI_eq, pI_neg, pI_nn, pI_le0, pI_gt0, pI_eq0, xbV_s, xbU_s, if_true, if_false, bI_eq0, Nat.reduceAdd, Nat.reduceSub, Nat.reduceEqDiff, Nat.reduceLeDiff, Nat.reduceLT, Bool.true_eq_false, Bool.false_eq_true, k0, k1, r0_0, s0_hasValue xCol_1 h2 hw.1, h]
    · obtain ⟨hw, h2, h3, h4, h5⟩ := hI
      rw [e_X9_at]
      simp (disch := omega) only [q_X9_at_0, q_X9_at_1, q_X9_at_2, q_X9_at_5, q_X9_at_6, q_X9_at_9, q_X9_at_12, q_X9_at_13, q_X9_at_16, q_X9_at_17, q_X9_at_20, q_X9_at_23, q_X9_at_24, q_X9_at_25, q_X9_at_26, q_X9_at_29, q_X9_at_31, q_X9_at_32, q_X9_at_33, q_X9_at_34, nI_add, pI_le, pI_lt, pI_eq, pI_neg, pI_nn, pI_le0, pI_gt0, pI_eq0, xbV_s, xbU_s, if_true, if_false, bI_eq0, Nat.reduceAdd, Nat.reduceSub, Nat.reduceEqDiff, Nat.reduceLeDiff, Nat.reduceLT, Bool.true_eq_false, Bool.false_eq_true, k9, r9_4, s9_isValue h2 hw.1, h, s9_refused, Nat.zero_lt_one, decide_true]
  | true =>
    by_cases hw : aWF α
    · have hn := sn_120 hw.1
      obtain ⟨j, hj, rfl⟩ := xLt_ex h (by omega)
      refine ⟨0, nI (sv (zS α) j), α, by decide, fun I hI => ?_, fun I hI => ?_⟩
      · refine ⟨I, ?_, hI, zG.rf⟩
        obtain ⟨hw, h2, h3, h4, h5⟩ := hI
        rw [if_pos rfl, e_X8_at]
        simp (disch := omega) only [q_X8_at_0, q_X8_at_1, q_X8_at_4, q_X8_at_5, q_X8_at_8, q_X8_at_11, q_X8_at_21, q_X8_at_22, q_X8_at_25, q_X8_at_26, q_X8_at_29, nI_add, pI_le, pI_lt, pI_eq, pI_neg, pI_nn, pI_le0, pI_gt0, pI_eq0, xbV_s, xbU_s, if_true, if_false, bI_eq0, Nat.reduceAdd, Nat.reduceSub, Nat.reduceEqDiff, Nat.reduceLeDiff, Nat.reduceLT, Bool.true_eq_false, Bool.false_eq_true, k0, k1, r0_0, s0_hasValue xCol_1 h2 hw.1, h, s0_valueAt xCol_1 h2 hw.1 hj]
      · refine ⟨xup I 189 0 (nI 0), ?_, hI.rf 0, zG.rf.up (by omega) (by omega), xup_s⟩
        obtain ⟨hw, h2, h3, h4, h5⟩ := hI
        have g := h2.2.2.2.2.2.2 j hj
        rw [if_pos rfl, e_X9_at]
        simp (disch := omega) only [q_X9_at_0, q_X9_at_1, q_X9_at_2, q_X9_at_5, q_X9_at_6, q_X9_at_9, q_X9_at_12, q_X9_at_13, q_X9_at_16, q_X9_at_17, q_X9_at_20, q_X9_at_23, q_X9_at_24, q_X9_at_25, q_X9_at_26, q_X9_at_29, q_X9_at_31, q_X9_at_32, q_X9_at_33, q_X9_at_34, nI_add, pI_le, pI_lt, pI_eq, pI_neg, pI_nn, pI_le0, pI_gt0, pI_eq0, xbV_s, xbU_s, if_true, if_false, bI_eq0, Nat.reduceAdd, Nat.reduceSub, Nat.reduceEqDiff, Nat.reduceLeDiff, Nat.reduceLT, Bool.true_eq_false, Bool.false_eq_true, k9, k91, l91, r9_4, s9_isValue h2 hw.1, h, s9_refused, Nat.lt_irrefl, decide_false, xup_o, g]
    · exact ⟨0, 0, α, by decide, fun I hI => absurd hI.1 hw, fun I hI => absurd hI.1 hw⟩
end PO
end P33
