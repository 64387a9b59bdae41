/-! ===== simulations ===== -/
section P56
-- rows of kit/laws/BITS.to-paste (wb_)
theorem wb_tb (n : Nat) : (lN n).toBitVec = BitVec.ofNat 64 n := rfl
theorem wb_inj {a b : Int64} (h : a.toBitVec = b.toBitVec) : a = b := Int64.toBitVec_inj.mp h
theorem wb_tn {n : Nat} (h : n < 2 ^ 64) : (lN n).toBitVec.toNat = n := by rw [wb_tb, BitVec.toNat_ofNat, Nat.mod_eq_of_lt h]
theorem wb_of (x : Int64) : ∃ n, n < 2 ^ 64 ∧ x = lN n := ⟨x.toBitVec.toNat, x.toBitVec.isLt, wb_inj (by rw [wb_tb]; simp)⟩
theorem wb_cu : ∀ k, k < 64 → ((nI k).toInt64.toUInt64 &&& Int64.toUInt64 63) = UInt64.ofNat k := by decide +kernel
theorem wb_shr {n k : Nat} (hn : n < 2 ^ 64) (hk : k < 64) : ((lN n).toUInt64 >>> ((nI k).toInt64.toUInt64 &&& Int64.toUInt64 63)).toInt64 = lN (n / 2 ^ k) := by
  rw [wb_cu k hk]
  apply wb_inj
  apply BitVec.eq_of_toNat_eq
  show ((lN n).toUInt64 >>> UInt64.ofNat k).toNat = (BitVec.ofNat 64 _).toNat
  have h1 : (UInt64.ofNat k).toNat = k := by
    show (BitVec.ofNat 64 k).toNat = k
    rw [BitVec.toNat_ofNat, Nat.mod_eq_of_lt (by omega)]
  have h2 : (lN n).toUInt64.toNat = n := wb_tn hn
  rw [UInt64.toNat_shiftRight, h1, h2, Nat.mod_eq_of_lt hk, Nat.shiftRight_eq_div_pow, BitVec.toNat_ofNat, Nat.mod_eq_of_lt (Nat.lt_of_le_of_lt (Nat.div_le_self _ _) hn)]
theorem sRnd (x : Int64) : ∃ r, r < 2147483648 ∧ ((x.toUInt64 >>> ((nI 33).toInt64.toUInt64 &&& Int64.toUInt64 63)).toInt64).toInt32 = nI r := by
  obtain ⟨n, hn, rfl⟩ := wb_of x
  refine ⟨n / 2 ^ 33, by omega, ?_⟩
  rw [wb_shr hn (by omega), lN_i]
def sLast (S : cS) : Nat := if sn S = 0 then 0 else sv S (sn S - 1)
theorem sLast_le {S : cS} (hW : sWF S) : sLast S ≤ 1023 := by
  unfold sLast
  split
  · omega
  · exact hW.2.2.2.2.1 _ (by omega)
/-- the value for r -/
def sVal (S : cS) (r : Nat) : Nat := if r % 4 = 0 then r / 4 % 1024 else if r % 4 = 1 then sLast S else if r % 4 = 2 then min (sLast S + r / 4 % 8) 1023 else sLast S - r / 4 % 8
theorem sVal_le {S : cS} (hW : sWF S) (r : Nat) : sVal S r ≤ 1023 := by
  have := sLast_le hW
  unfold sVal
  split
  · omega
  · split
    · omega
    · split <;> omega
theorem pI_m0 {a b : Nat} (ha : a < 1000000) (hb : b < 1000000) : (if nI a - nI b < nI 0 then nI 0 else nI a - nI b) = nI (a - b) := by
  by_cases q : b ≤ a
  · rw [pI_sub q, if_neg (by rw [pI_lt (by omega) (by omega)]; omega)]
  · have e : nI a - nI b < nI 0 := pk_sneg (by omega) (by omega)
    rw [if_pos e, show a - b = 0 by omega]
theorem s9_more0 {a b : Nat} {I : xMem} (ha : a < 1000000) (hb : b < 1000000) : f_X9_more [.int (nI 0), .int (nI a - nI b)] I = some (.inl (some (.int (nI (a - b)))), I) := by
  rw [e_X9_more]
  by_cases q : b ≤ a
  · have n1 : 0 ≤ a - b := Nat.zero_le _
    rw [pI_sub q]
    simp (disch := omega) only [q_X9_more_0, q_X9_more_1, q_X9_more_2, q_X9_more_5, q_X9_more_6, q_X9_more_9, q_X9_more_10, pI_le, n1, if_true]
  · have e : nI a - nI b < nI 0 := pk_sneg (by omega) (by omega)
    have e2 : ¬ nI 0 ≤ nI a - nI b := by
      rw [Int32.lt_iff_toInt_lt] at e
      rw [Int32.le_iff_toInt_le]
      omega
    simp (disch := omega) only [q_X9_more_0, q_X9_more_1, q_X9_more_2, q_X9_more_5, q_X9_more_6, q_X9_more_9, q_X9_more_10, e2, if_false]
    rw [show a - b = 0 by omega]
theorem s8_val {S : cS} {I : xMem} {r : Nat} (hr : r < 2147483648) (h : cR I 10 S) (hW : sWF S) : f_X8_simulatedValue [.ref 0, .int (nI r)] I = some (.inl (some (.int (nI (sVal S r)))), I) := by
  have k0 := x0
  have k10 := x10
  have hl := sLast_le hW
  have n4 : ¬ nI 4 = 0 := by decide
  have n8 : ¬ nI 8 = 0 := by decide
  have n1024 : ¬ nI 1024 = 0 := by decide
  have e0 : f_X0_lastValue [.ref 10] I = some (.inl (some (.int (nI (sLast S)))), I) := s0_lastValue xCol_10 h hW
  have e1 : nI r / nI 4 = nI (r / 4) := pk_div (by omega) (by omega) (by omega)
  have e2 : nI r - nI (r / 4) * nI 4 = nI (r % 4) := pk_rm (by omega)
  have key : f_X8_simulatedValue [.ref 0, .int (nI r)] I = xgo k_X8_simulatedValue (xsel (nI (r % 4)) 0 [40, 46, 48] 61) [some (.ref 0), some (.int (nI r)), some (.int (nI (sLast S))), some (.int (nI (r / 4)))] [] I := by
    rw [e_X8_simulatedValue]
    simp (disch := first | omega | assumption) only [q_X8_simulatedValue_0, q_X8_simulatedValue_1, q_X8_simulatedValue_4, q_X8_simulatedValue_7, q_X8_simulatedValue_8, q_X8_simulatedValue_9, q_X8_simulatedValue_10, q_X8_simulatedValue_11, q_X8_simulatedValue_12, q_X8_simulatedValue_13, q_X8_simulatedValue_14, q_X8_simulatedValue_15, nI_add, pI_le, pI_lt, pI_eq, pI_neg, pI_nn, pI_le0, pI_gt0, pI_eq0, xbV_s, xbU_s, if_true, if_false, bI_eq0, Nat.reduceAdd, Nat.reduceSub, Nat.reduceEqDiff, Nat.reduceLeDiff, Nat.reduceLT, Bool.true_eq_false, Bool.false_eq_true, k0, k10, r0_5, e0, e1, e2]
  rw [key]
  unfold sVal
  rcases (show r % 4 = 0 ∨ r % 4 = 1 ∨ r % 4 = 2 ∨ r % 4 = 3 by omega) with q | q | q | q
  · have hx : xsel (nI 0) 0 [40, 46, 48] 61 = 40 := rfl
    have e3 : nI (r / 4) / nI 1024 = nI (r / 4 / 1024) := pk_div (by omega) (by omega) (by omega)
    have e4 : nI (r / 4) - nI (r / 4 / 1024) * nI 1024 = nI (r / 4 % 1024) := pk_rm (by omega)
    rw [q, hx, if_pos rfl]
    simp (disch := first | omega | assumption) only [q_X8_simulatedValue_0, q_X8_simulatedValue_1, q_X8_simulatedValue_4, q_X8_simulatedValue_7, q_X8_simulatedValue_8, q_X8_simulatedValue_9, q_X8_simulatedValue_10, q_X8_simulatedValue_11, q_X8_simulatedValue_12, q_X8_simulatedValue_13, q_X8_simulatedValue_14, q_X8_simulatedValue_15, q_X8_simulatedValue_40, q_X8_simulatedValue_41, q_X8_simulatedValue_44, q_X8_simulatedValue_45, q_X8_simulatedValue_46, q_X8_simulatedValue_47, q_X8_simulatedValue_48, q_X8_simulatedValue_49, q_X8_simulatedValue_50, q_X8_simulatedValue_52, q_X8_simulatedValue_53, q_X8_simulatedValue_54, q_X8_simulatedValue_57, q_X8_simulatedValue_60, q_X8_simulatedValue_61, q_X8_simulatedValue_62, q_X8_simulatedValue_63, q_X8_simulatedValue_65, q_X8_simulatedValue_66, q_X8_simulatedValue_67, q_X8_simulatedValue_68, q_X8_simulatedValue_71, nI_add, pI_le, pI_lt, pI_eq, pI_neg, pI_nn, pI_le0, pI_gt0, pI_eq0, xbV_s, xbU_s, if_true, if_false, bI_eq0, Nat.reduceAdd, Nat.reduceSub, Nat.reduceEqDiff, Nat.reduceLeDiff, Nat.reduceLT, Bool.true_eq_false, Bool.false_eq_true, e3, e4]
  · have hx : xsel (nI 1) 0 [40, 46, 48] 61 = 46 := rfl
    rw [q, hx, if_neg (by omega), if_pos rfl]
    simp (disch := first | omega | assumption) only [q_X8_simulatedValue_0, q_X8_simulatedValue_1, q_X8_simulatedValue_4, q_X8_simulatedValue_7, q_X8_simulatedValue_8, q_X8_simulatedValue_9, q_X8_simulatedValue_10, q_X8_simulatedValue_11, q_X8_simulatedValue_12, q_X8_simulatedValue_13, q_X8_simulatedValue_14, q_X8_simulatedValue_15, q_X8_simulatedValue_40, q_X8_simulatedValue_41, q_X8_simulatedValue_44, q_X8_simulatedValue_45, q_X8_simulatedValue_46, q_X8_simulatedValue_47, q_X8_simulatedValue_48, q_X8_simulatedValue_49, q_X8_simulatedValue_50, q_X8_simulatedValue_52, q_X8_simulatedValue_53, q_X8_simulatedValue_54, q_X8_simulatedValue_57, q_X8_simulatedValue_60, q_X8_simulatedValue_61, q_X8_simulatedValue_62, q_X8_simulatedValue_63, q_X8_simulatedValue_65, q_X8_simulatedValue_66, q_X8_simulatedValue_67, q_X8_simulatedValue_68, q_X8_simulatedValue_71, nI_add, pI_le, pI_lt, pI_eq, pI_neg, pI_nn, pI_le0, pI_gt0, pI_eq0, xbV_s, xbU_s, if_true, if_false, bI_eq0, Nat.reduceAdd, Nat.reduceSub, Nat.reduceEqDiff, Nat.reduceLeDiff, Nat.reduceLT, Bool.true_eq_false, Bool.false_eq_true]
  · have hx : xsel (nI 2) 0 [40, 46, 48] 61 = 48 := rfl
    have e3 : nI (r / 4) / nI 8 = nI (r / 4 / 8) := pk_div (by omega) (by omega) (by omega)
    have e4 : nI (r / 4) - nI (r / 4 / 8) * nI 8 = nI (r / 4 % 8) := pk_rm (by omega)
    rw [q, hx, if_neg (by omega), if_neg (by omega), if_pos rfl]
    simp (disch := first | omega | assumption) only [q_X8_simulatedValue_0, q_X8_simulatedValue_1, q_X8_simulatedValue_4, q_X8_simulatedValue_7, q_X8_simulatedValue_8, q_X8_simulatedValue_9, q_X8_simulatedValue_10, q_X8_simulatedValue_11, q_X8_simulatedValue_12, q_X8_simulatedValue_13, q_X8_simulatedValue_14, q_X8_simulatedValue_15, q_X8_simulatedValue_40, q_X8_simulatedValue_41, q_X8_simulatedValue_44, q_X8_simulatedValue_45, q_X8_simulatedValue_46, q_X8_simulatedValue_47, q_X8_simulatedValue_48, q_X8_simulatedValue_49, q_X8_simulatedValue_50, q_X8_simulatedValue_52, q_X8_simulatedValue_53, q_X8_simulatedValue_54, q_X8_simulatedValue_57, q_X8_simulatedValue_60, q_X8_simulatedValue_61, q_X8_simulatedValue_62, q_X8_simulatedValue_63, q_X8_simulatedValue_65, q_X8_simulatedValue_66, q_X8_simulatedValue_67, q_X8_simulatedValue_68, q_X8_simulatedValue_71, nI_add, pI_le, pI_lt, pI_eq, pI_neg, pI_nn, pI_le0, pI_gt0, pI_eq0, xbV_s, xbU_s, if_true, if_false, bI_eq0, Nat.reduceAdd, Nat.reduceSub, Nat.reduceEqDiff, Nat.reduceLeDiff, Nat.reduceLT, Bool.true_eq_false, Bool.false_eq_true, e3, e4, pI_mn]
  · have hx : xsel (nI 3) 0 [40, 46, 48] 61 = 61 := rfl
    have e3 : nI (r / 4) / nI 8 = nI (r / 4 / 8) := pk_div (by omega) (by omega) (by omega)
    have e4 : nI (r / 4) - nI (r / 4 / 8) * nI 8 = nI (r / 4 % 8) := pk_rm (by omega)
    rw [q, hx, if_neg (by omega), if_neg (by omega), if_neg (by omega)]
    have e5 := pI_m0 (a := sLast S) (b := r / 4 % 8) (by omega) (by omega)
    simp (disch := first | omega | assumption) only [q_X8_simulatedValue_0, q_X8_simulatedValue_1, q_X8_simulatedValue_4, q_X8_simulatedValue_7, q_X8_simulatedValue_8, q_X8_simulatedValue_9, q_X8_simulatedValue_10, q_X8_simulatedValue_11, q_X8_simulatedValue_12, q_X8_simulatedValue_13, q_X8_simulatedValue_14, q_X8_simulatedValue_15, q_X8_simulatedValue_40, q_X8_simulatedValue_41, q_X8_simulatedValue_44, q_X8_simulatedValue_45, q_X8_simulatedValue_46, q_X8_simulatedValue_47, q_X8_simulatedValue_48, q_X8_simulatedValue_49, q_X8_simulatedValue_50, q_X8_simulatedValue_52, q_X8_simulatedValue_53, q_X8_simulatedValue_54, q_X8_simulatedValue_57, q_X8_simulatedValue_60, q_X8_simulatedValue_61, q_X8_simulatedValue_62, q_X8_simulatedValue_63, q_X8_simulatedValue_65, q_X8_simulatedValue_66, q_X8_simulatedValue_67, q_X8_simulatedValue_68, q_X8_simulatedValue_71, nI_add, pI_le, pI_lt, pI_eq, pI_neg, pI_nn, pI_le0, pI_gt0, pI_eq0, xbV_s, xbU_s, if_true, if_false, bI_eq0, Nat.reduceAdd, Nat.reduceSub, Nat.reduceEqDiff, Nat.reduceLeDiff, Nat.reduceLT, Bool.true_eq_false, Bool.false_eq_true, e3, e4, e5]
/-- which codings there are, as bits -/
def sMk (S : cS) : Nat → Nat
  | 0 => 0
  | k + 1 => sMk S k ||| 2 ^ sC S k
def pCnt (a : Nat) : Nat := xsum (fun c => a / 2 ^ c % 2) 5
theorem mk_or : ∀ a, a < 32 → ∀ c, c < 5 → nI a ||| (nI 1 <<< (nI c &&& 31)) = nI (a ||| 2 ^ c) ∧ a ||| 2 ^ c < 32 := by decide +kernel
theorem mk_bit : ∀ a, a < 32 → ∀ c, c < 5 → (nI a >>> (nI c &&& 31)) &&& nI 1 = nI (a / 2 ^ c % 2) := by decide +kernel
theorem sMk_lt {S : cS} (hW : sWF S) : ∀ {k}, k ≤ sq S → sMk S k < 32
  | 0, _ => by unfold sMk; omega
  | k + 1, hk => (mk_or _ (sMk_lt hW (k := k) (by omega)) _ (by have := sC_le hW (show k < sq S by omega); omega)).2
theorem pCnt_le (a : Nat) : pCnt a ≤ 5 := by
  have : pCnt a ≤ 1 * 5 := xsum_le (fun k _ => by
    show a / 2 ^ k % 2 ≤ 1
    omega)
  omega
theorem j6_cnt {I : xMem} {a : Nat} (ha : a < 32) : f_J6_bitCount_0f7a4 [.int (nI a)] I = some (.inl (some (.int (nI (pCnt a)))), I) := by
  rw [e_J6_bitCount_0f7a4]
  simp only [q_J6_bitCount_0f7a4_0, q_J6_bitCount_0f7a4_1, q_J6_bitCount_0f7a4_2, q_J6_bitCount_0f7a4_3, q_J6_bitCount_0f7a4_4, q_J6_bitCount_0f7a4_7, q_J6_bitCount_0f7a4_8, q_J6_bitCount_0f7a4_9, q_J6_bitCount_0f7a4_10, q_J6_bitCount_0f7a4_11, q_J6_bitCount_0f7a4_14, q_J6_bitCount_0f7a4_15, q_J6_bitCount_0f7a4_16, q_J6_bitCount_0f7a4_17, q_J6_bitCount_0f7a4_18, q_J6_bitCount_0f7a4_21, q_J6_bitCount_0f7a4_22, q_J6_bitCount_0f7a4_23, q_J6_bitCount_0f7a4_24, q_J6_bitCount_0f7a4_25, q_J6_bitCount_0f7a4_26, q_J6_bitCount_0f7a4_27, q_J6_bitCount_0f7a4_28, q_J6_bitCount_0f7a4_29, q_J6_bitCount_0f7a4_32, q_J6_bitCount_0f7a4_33, q_J6_bitCount_0f7a4_34, q_J6_bitCount_0f7a4_35, q_J6_bitCount_0f7a4_36, q_J6_bitCount_0f7a4_38, q_J6_bitCount_0f7a4_39, q_J6_bitCount_0f7a4_40, q_J6_bitCount_0f7a4_41, q_J6_bitCount_0f7a4_42, q_J6_bitCount_0f7a4_43, q_J6_bitCount_0f7a4_45, q_J6_bitCount_0f7a4_46, q_J6_bitCount_0f7a4_47, q_J6_bitCount_0f7a4_48, q_J6_bitCount_0f7a4_49, q_J6_bitCount_0f7a4_51, q_J6_bitCount_0f7a4_52]
  refine congrArg (fun z => some (Sum.inl (some (Value.int z)), I)) ?_
  revert a
  decide +kernel
theorem s0_dc_l {a : Nat} {S : cS} {I : xMem} (hA : xCol a) (hW : sWF S) : ∀ d k (I1 : xMem), k + d = sq S → zG (a + 7) 2 I I1 → cR I1 a S → ∃ I', xgo k_X0_differentCodings 4 [some (.ref a), some (.int (nI (sMk S k))), some (.int (nI k))] [] I1 = some (.inl (some (.int (nI (pCnt (sMk S (sq S)))))), I') ∧ zG (a + 7) 2 I I' ∧ cR I' a S := by
  have kA := hA.1
  have hq := hW.1
  intro d
  induction d with
  | zero =>
    intro k I1 hk hG hR
    have e : k = sq S := by omega
    have h2 := hR.2.1
    rw [e]
    refine ⟨I1, ?_, hG, hR⟩
    rw [q_X0_differentCodings_4]
    simp (disch := omega) only [q_X0_differentCodings_0, q_X0_differentCodings_1, q_X0_differentCodings_2, q_X0_differentCodings_3, q_X0_differentCodings_5, q_X0_differentCodings_6, q_X0_differentCodings_9, q_X0_differentCodings_12, q_X0_differentCodings_13, q_X0_differentCodings_14, q_X0_differentCodings_15, q_X0_differentCodings_16, q_X0_differentCodings_19, q_X0_differentCodings_20, q_X0_differentCodings_21, q_X0_differentCodings_22, q_X0_differentCodings_25, q_X0_differentCodings_28, q_X0_differentCodings_29, q_X0_differentCodings_32, nI_add, pI_le, pI_lt, pI_eq, pI_neg, pI_nn, pI_le0, pI_gt0, pI_eq0, xbV_s, xbU_s, if_true, if_false, bI_eq0, Nat.reduceAdd, Nat.reduceSub, Nat.reduceEqDiff, Nat.reduceLeDiff, Nat.reduceLT, Bool.true_eq_false, Bool.false_eq_true, kA, h2, Nat.le_refl, j6_cnt (sMk_lt hW (Nat.le_refl _))]
  | succ d ih =>
    intro k I1 hk hG hR
    have n1 : ¬ sq S ≤ k := by omega
    have h2 := hR.2.1
    have hp : k < sq S := by omega
    have hc := sC_le hW hp
    obtain ⟨I2, f1, f2, f3⟩ := s0_cod hA hR hW hp
    have e := (mk_or _ (sMk_lt hW (k := k) (by omega)) (sC S k) (by omega)).1
    obtain ⟨I', g1, g2, g3⟩ := ih (k + 1) I2 (by omega) (hG.tr f2) f3
    refine ⟨I', ?_, g2, g3⟩
    rw [q_X0_differentCodings_4]
    simp (disch := omega) only [q_X0_differentCodings_0, q_X0_differentCodings_1, q_X0_differentCodings_2, q_X0_differentCodings_3, q_X0_differentCodings_5, q_X0_differentCodings_6, q_X0_differentCodings_9, q_X0_differentCodings_12, q_X0_differentCodings_13, q_X0_differentCodings_14, q_X0_differentCodings_15, q_X0_differentCodings_16, q_X0_differentCodings_19, q_X0_differentCodings_20, q_X0_differentCodings_21, q_X0_differentCodings_22, q_X0_differentCodings_25, q_X0_differentCodings_28, q_X0_differentCodings_29, q_X0_differentCodings_32, nI_add, pI_le, pI_lt, pI_eq, pI_neg, pI_nn, pI_le0, pI_gt0, pI_eq0, xbV_s, xbU_s, if_true, if_false, bI_eq0, Nat.reduceAdd, Nat.reduceSub, Nat.reduceEqDiff, Nat.reduceLeDiff, Nat.reduceLT, Bool.true_eq_false, Bool.false_eq_true, kA, h2, n1, f1, e]
    exact g1
theorem s0_dc {a : Nat} {S : cS} {I : xMem} (hA : xCol a) (h : cR I a S) (hW : sWF S) : ∃ I', f_X0_differentCodings [.ref a] I = some (.inl (some (.int (nI (pCnt (sMk S (sq S)))))), I') ∧ zG (a + 7) 2 I I' ∧ cR I' a S := by
  rw [e_X0_differentCodings]
  simp only [q_X0_differentCodings_0, q_X0_differentCodings_1, q_X0_differentCodings_2, q_X0_differentCodings_3, q_X0_differentCodings_5, q_X0_differentCodings_6, q_X0_differentCodings_9, q_X0_differentCodings_12, q_X0_differentCodings_13, q_X0_differentCodings_14, q_X0_differentCodings_15, q_X0_differentCodings_16, q_X0_differentCodings_19, q_X0_differentCodings_20, q_X0_differentCodings_21, q_X0_differentCodings_22, q_X0_differentCodings_25, q_X0_differentCodings_28, q_X0_differentCodings_29, q_X0_differentCodings_32]
  exact s0_dc_l hA hW (sq S) 0 I (by omega) zG.rf h
section PS9
variable {S : cS} {I : xMem} {s x : Int64} {m : Int32}
theorem s9_mk_l {l8 l9 l10 l11 : Option Value} (h : mR I 192 S) (hW : sWF S) : ∀ d k, k + d = sq S → xgo k_X9_simulate 219 [some (.ref 189), some (.long s), none, some (.int m), some (.long x), none, some (.int (nI (sMk S k))), some (.int (nI k)), l8, l9, l10, l11] [] I = xgo k_X9_simulate 252 [some (.ref 189), some (.long s), none, some (.int m), some (.long x), none, some (.int (nI (sMk S (sq S)))), some (.int (nI (sq S))), l8, l9, l10, l11] [] I := by
  have k9 := x189
  have k92 := x192
  have l92 := l192
  have hok0 : xcat2 (none : Option Value) = false := rfl
  have hq := hW.1
  have h3 := h.2.2.1
  intro d
  induction d with
  | zero =>
    intro k hk
    have e : k = sq S := by omega
    rw [e, q_X9_simulate_219]
    simp (disch := first | omega | assumption) only [q_X9_simulate_221, q_X9_simulate_222, q_X9_simulate_225, q_X9_simulate_226, q_X9_simulate_227, q_X9_simulate_230, q_X9_simulate_232, q_X9_simulate_233, q_X9_simulate_234, q_X9_simulate_237, q_X9_simulate_239, q_X9_simulate_242, q_X9_simulate_243, q_X9_simulate_244, q_X9_simulate_246, q_X9_simulate_249, nI_add, pI_le, pI_lt, pI_eq, pI_neg, pI_nn, pI_le0, pI_gt0, pI_eq0, xbV_s, xbU_s, if_true, if_false, bI_eq0, Nat.reduceAdd, Nat.reduceSub, Nat.reduceEqDiff, Nat.reduceLeDiff, Nat.reduceLT, Bool.true_eq_false, Bool.false_eq_true, k9, k92, l92, r9_5, h3, Nat.le_refl]
  | succ d ih =>
    intro k hk
    have n1 : ¬ sq S ≤ k := by omega
    have hp : k < sq S := by omega
    have hc := sC_le hW hp
    have e := (mk_or _ (sMk_lt hW (k := k) (by omega)) (sC S k) (by omega)).1
    rw [q_X9_simulate_219]
    simp (disch := first | omega | assumption) only [q_X9_simulate_221, q_X9_simulate_222, q_X9_simulate_225, q_X9_simulate_226, q_X9_simulate_227, q_X9_simulate_230, q_X9_simulate_232, q_X9_simulate_233, q_X9_simulate_234, q_X9_simulate_237, q_X9_simulate_239, q_X9_simulate_242, q_X9_simulate_243, q_X9_simulate_244, q_X9_simulate_246, q_X9_simulate_249, nI_add, pI_le, pI_lt, pI_eq, pI_neg, pI_nn, pI_le0, pI_gt0, pI_eq0, xbV_s, xbU_s, if_true, if_false, bI_eq0, Nat.reduceAdd, Nat.reduceSub, Nat.reduceEqDiff, Nat.reduceLeDiff, Nat.reduceLT, Bool.true_eq_false, Bool.false_eq_true, k9, k92, l92, r9_5, h3, n1, s9_cod h hW hp, e]
    exact ih (k + 1) (by omega)
theorem s9_pc_l {a : Nat} {l9 l10 l11 : Option Value} (ha : a < 32) : ∀ d c, c + d = 5 → xgo k_X9_simulate 258 [some (.ref 189), some (.long s), none, some (.int m), some (.long x), none, some (.int (nI a)), some (.int (nI (xsum (fun c => a / 2 ^ c % 2) c))), some (.int (nI c)), l9, l10, l11] [] I = xgo k_X9_simulate 282 [some (.ref 189), some (.long s), none, some (.int m), some (.long x), none, some (.int (nI a)), some (.int (nI (pCnt a))), some (.int (nI 5)), l9, l10, l11] [] I := by
  intro d
  induction d with
  | zero =>
    intro c hc
    have e : c = 5 := by omega
    subst e
    rw [q_X9_simulate_258]
    simp (disch := first | omega | assumption) only [q_X9_simulate_260, q_X9_simulate_261, q_X9_simulate_264, q_X9_simulate_266, q_X9_simulate_268, q_X9_simulate_270, q_X9_simulate_271, q_X9_simulate_272, q_X9_simulate_273, q_X9_simulate_274, q_X9_simulate_276, q_X9_simulate_279, nI_add, pI_le, pI_lt, pI_eq, pI_neg, pI_nn, pI_le0, pI_gt0, pI_eq0, xbV_s, xbU_s, if_true, if_false, bI_eq0, Nat.reduceAdd, Nat.reduceSub, Nat.reduceEqDiff, Nat.reduceLeDiff, Nat.reduceLT, Bool.true_eq_false, Bool.false_eq_true, Nat.le_refl]
    rfl
  | succ d ih =>
    intro c hc
    have n1 : ¬ 5 ≤ c := by omega
    have e := mk_bit a ha c (by omega)
    rw [q_X9_simulate_258]
    simp (disch := first | omega | assumption) only [q_X9_simulate_260, q_X9_simulate_261, q_X9_simulate_264, q_X9_simulate_266, q_X9_simulate_268, q_X9_simulate_270, q_X9_simulate_271, q_X9_simulate_272, q_X9_simulate_273, q_X9_simulate_274, q_X9_simulate_276, q_X9_simulate_279, nI_add, pI_le, pI_lt, pI_eq, pI_neg, pI_nn, pI_le0, pI_gt0, pI_eq0, xbV_s, xbU_s, if_true, if_false, bI_eq0, Nat.reduceAdd, Nat.reduceSub, Nat.reduceEqDiff, Nat.reduceLeDiff, Nat.reduceLT, Bool.true_eq_false, Bool.false_eq_true, n1, e]
    exact ih (c + 1) (by omega)
end PS9
/-- both sides simulate alike -/
theorem sim2 {m : Nat} (hm : m ≤ 99) {s : Int64} : ∀ d k (S : cS) (x : Int64), k + d = m → sWF S → ∃ v : Int32, (∀ (I : xMem) (l7 : Option Value), cR I 10 S → ∃ I', xgo k_X8_simulate 39 [some (.ref 0), some (.long s), none, some (.int (nI m)), some (.long x), none, some (.int (nI k)), l7] [] I = some (.inl (some (.int v)), I') ∧ zG 10 9 I I') ∧ (∀ (I : xMem) (l7 l8 l9 l10 l11 : Option Value), mR I 192 S → ∃ I', xgo k_X9_simulate 45 [some (.ref 189), some (.long s), none, some (.int (nI m)), some (.long x), none, some (.int (nI k)), l7, l8, l9, l10, l11] [] I = some (.inl (some (.int v)), I') ∧ xO 192 I I') := by
  have k0 := x0
  have k9 := x189
  have k10 := x10
  have k92 := x192
  have l92 := l192
  have hok0 : xcat2 (none : Option Value) = false := rfl
  have n4 : ¬ nI 4 = 0 := by decide
  have n8 : ¬ nI 8 = 0 := by decide
  have n1024 : ¬ nI 1024 = 0 := by decide
  intro d
  induction d with
  | zero =>
    intro k S x hk hW
    have e : k = m := by omega
    subst e
    have bT := sT_le hW
    have bC := pCnt_le (sMk S (sq S))
    have e1 : nI 10 * nI (sT S) = nI (10 * sT S) := pk_mul _ _
    refine ⟨nI (10 * sT S + pCnt (sMk S (sq S))), fun I l7 hR => ?_, fun I l7 l8 l9 l10 l11 hR => ⟨I, ?_, xO.rf⟩⟩
    · obtain ⟨I1, f1, f2, f3⟩ := s0_total xCol_10 hR hW
      obtain ⟨I2, g1, g2, g3⟩ := s0_dc xCol_10 f3 hW
      refine ⟨I2, ?_, (f2.tr g2).wd (by omega) (by omega)⟩
      rw [q_X8_simulate_39]
      simp (disch := first | omega | assumption) only [q_X8_simulate_41, q_X8_simulate_42, q_X8_simulate_45, q_X8_simulate_47, q_X8_simulate_50, q_X8_simulate_51, q_X8_simulate_54, q_X8_simulate_55, q_X8_simulate_57, q_X8_simulate_58, q_X8_simulate_60, q_X8_simulate_62, q_X8_simulate_63, q_X8_simulate_64, q_X8_simulate_67, q_X8_simulate_69, q_X8_simulate_70, q_X8_simulate_73, q_X8_simulate_76, q_X8_simulate_79, q_X8_simulate_80, q_X8_simulate_83, q_X8_simulate_85, q_X8_simulate_88, q_X8_simulate_89, q_X8_simulate_92, q_X8_simulate_93, q_X8_simulate_96, q_X8_simulate_99, q_X8_simulate_100, q_X8_simulate_103, q_X8_simulate_106, q_X8_simulate_108, q_X8_simulate_109, q_X8_simulate_112, q_X8_simulate_115, q_X8_simulate_116, q_X8_simulate_117, q_X8_simulate_120, q_X8_simulate_123, q_X8_simulate_124, nI_add, pI_le, pI_lt, pI_eq, pI_neg, pI_nn, pI_le0, pI_gt0, pI_eq0, xbV_s, xbU_s, if_true, if_false, bI_eq0, Nat.reduceAdd, Nat.reduceSub, Nat.reduceEqDiff, Nat.reduceLeDiff, Nat.reduceLT, Bool.true_eq_false, Bool.false_eq_true, Nat.le_refl, k0, k10, r0_5, f1, e1, g1]
    · have h1 := s9_mk_l (I := I) (s := s) (x := x) (m := nI k) (l8 := l8) (l9 := l9) (l10 := l10) (l11 := l11) hR hW (sq S) 0 (by omega)
      have h2 := s9_pc_l (I := I) (s := s) (x := x) (m := nI k) (a := sMk S (sq S)) (l9 := l9) (l10 := l10) (l11 := l11) (sMk_lt hW (Nat.le_refl _)) 5 0 (by omega)
      have h1 : xgo k_X9_simulate 219 [some (.ref 189), some (.long s), none, some (.int (nI k)), some (.long x), none, some (.int (nI 0)), some (.int (nI 0)), l8, l9, l10, l11] [] I = _ := h1
      have h2 : xgo k_X9_simulate 258 [some (.ref 189), some (.long s), none, some (.int (nI k)), some (.long x), none, some (.int (nI (sMk S (sq S)))), some (.int (nI 0)), some (.int (nI 0)), l9, l10, l11] [] I = _ := h2
      rw [q_X9_simulate_45]
      simp (disch := first | omega | assumption) only [q_X9_simulate_47, q_X9_simulate_48, q_X9_simulate_213, q_X9_simulate_214, q_X9_simulate_216, q_X9_simulate_217, nI_add, pI_le, pI_lt, pI_eq, pI_neg, pI_nn, pI_le0, pI_gt0, pI_eq0, xbV_s, xbU_s, if_true, if_false, bI_eq0, Nat.reduceAdd, Nat.reduceSub, Nat.reduceEqDiff, Nat.reduceLeDiff, Nat.reduceLT, Bool.true_eq_false, Bool.false_eq_true, Nat.le_refl]
      rw [h1]
      simp (disch := first | omega | assumption) only [q_X9_simulate_252, q_X9_simulate_253, q_X9_simulate_255, q_X9_simulate_256, nI_add, pI_le, pI_lt, pI_eq, pI_neg, pI_nn, pI_le0, pI_gt0, pI_eq0, xbV_s, xbU_s, if_true, if_false, bI_eq0, Nat.reduceAdd, Nat.reduceSub, Nat.reduceEqDiff, Nat.reduceLeDiff, Nat.reduceLT, Bool.true_eq_false, Bool.false_eq_true]
      rw [h2]
      simp (disch := first | omega | assumption) only [q_X9_simulate_282, q_X9_simulate_284, q_X9_simulate_285, q_X9_simulate_288, q_X9_simulate_291, q_X9_simulate_292, q_X9_simulate_294, q_X9_simulate_295, nI_add, pI_le, pI_lt, pI_eq, pI_neg, pI_nn, pI_le0, pI_gt0, pI_eq0, xbV_s, xbU_s, if_true, if_false, bI_eq0, Nat.reduceAdd, Nat.reduceSub, Nat.reduceEqDiff, Nat.reduceLeDiff, Nat.reduceLT, Bool.true_eq_false, Bool.false_eq_true, k9, r9_5, s9_total hR hW, e1]
  | succ d ih =>
    intro k S x hk hW
    have n1 : ¬ m ≤ k := by omega
    have hn := sn_120 hW
    have hl := sLast_le hW
    obtain ⟨r, hr, er⟩ := sRnd (x * 6364136223846793005 + 1442695040888963407)
    have bv := sVal_le hW r
    -- the reference's value
    have hv9 : ∀ (I : xMem) (l8 l9 l10 l11 : Option Value), mR I 192 S → ∃ l8' l9' l10', xgo k_X9_simulate 71 [some (.ref 189), some (.long s), none, some (.int (nI m)), some (.long (x * 6364136223846793005 + 1442695040888963407)), none, some (.int (nI k)), some (.int (nI r)), l8, l9, l10, l11] [] I = xgo k_X9_simulate 176 [some (.ref 189), some (.long s), none, some (.int (nI m)), some (.long (x * 6364136223846793005 + 1442695040888963407)), none, some (.int (nI k)), some (.int (nI r)), l8', l9', l10', some (.int (nI (sVal S r)))] [] I := by
      intro I l8 l9 l10 l11 hR
      have ea : xgo k_X9_simulate 71 [some (.ref 189), some (.long s), none, some (.int (nI m)), some (.long (x * 6364136223846793005 + 1442695040888963407)), none, some (.int (nI k)), some (.int (nI r)), l8, l9, l10, l11] [] I = xgo k_X9_simulate 101 [some (.ref 189), some (.long s), none, some (.int (nI m)), some (.long (x * 6364136223846793005 + 1442695040888963407)), none, some (.int (nI k)), some (.int (nI r)), some (.int (nI (sn S))), l9, l10, l11] [.int (nI (sLast S))] I := by
        unfold sLast
        by_cases q : sn S = 0
        · rw [if_pos q]
          simp (disch := first | omega | assumption) only [q_X9_simulate_71, q_X9_simulate_72, q_X9_simulate_75, q_X9_simulate_78, q_X9_simulate_80, q_X9_simulate_82, q_X9_simulate_85, q_X9_simulate_86, q_X9_simulate_89, q_X9_simulate_90, q_X9_simulate_93, q_X9_simulate_95, q_X9_simulate_97, q_X9_simulate_98, q_X9_simulate_99, q_X9_simulate_100, nI_add, pI_le, pI_lt, pI_eq, pI_neg, pI_nn, pI_le0, pI_gt0, pI_eq0, xbV_s, xbU_s, if_true, if_false, bI_eq0, Nat.reduceAdd, Nat.reduceSub, Nat.reduceEqDiff, Nat.reduceLeDiff, Nat.reduceLT, Bool.true_eq_false, Bool.false_eq_true, k9, r9_5, s9_values hR hW, q]
        · rw [if_neg q]
          have g := hR.2.2.2.2.2.2 (sn S - 1) (by omega)
          have e0 : nI (22 + sn S) - nI 1 = nI (22 + (sn S - 1)) := by rw [pI_sub (by omega)]; congr 1; omega
          simp (disch := first | omega | assumption) only [q_X9_simulate_71, q_X9_simulate_72, q_X9_simulate_75, q_X9_simulate_78, q_X9_simulate_80, q_X9_simulate_82, q_X9_simulate_85, q_X9_simulate_86, q_X9_simulate_89, q_X9_simulate_90, q_X9_simulate_93, q_X9_simulate_95, q_X9_simulate_97, q_X9_simulate_98, q_X9_simulate_99, q_X9_simulate_100, nI_add, pI_le, pI_lt, pI_eq, pI_neg, pI_nn, pI_le0, pI_gt0, pI_eq0, xbV_s, xbU_s, if_true, if_false, bI_eq0, Nat.reduceAdd, Nat.reduceSub, Nat.reduceEqDiff, Nat.reduceLeDiff, Nat.reduceLT, Bool.true_eq_false, Bool.false_eq_true, k9, k92, l92, r9_5, s9_values hR hW, q, e0, g]
      refine ⟨some (.int (nI (sn S))), some (.int (nI (sLast S))), some (.int (nI (r / 4 % 8))), ?_⟩
      rw [ea]
      have e1 : nI r / nI 4 = nI (r / 4) := pk_div (by omega) (by omega) (by omega)
      have e2 : nI r - nI (r / 4) * nI 4 = nI (r % 4) := pk_rm (by omega)
      have e3 : nI (r / 4) / nI 8 = nI (r / 4 / 8) := pk_div (by omega) (by omega) (by omega)
      have e4 : nI (r / 4) - nI (r / 4 / 8) * nI 8 = nI (r / 4 % 8) := pk_rm (by omega)
      have e5 : nI (r / 4) / nI 1024 = nI (r / 4 / 1024) := pk_div (by omega) (by omega) (by omega)
      have e6 : nI (r / 4) - nI (r / 4 / 1024) * nI 1024 = nI (r / 4 % 1024) := pk_rm (by omega)
      unfold sVal
      rcases (show r % 4 = 0 ∨ r % 4 = 1 ∨ r % 4 = 2 ∨ r % 4 = 3 by omega) with q | q | q | q
      · rw [if_pos q]
        simp (disch := first | omega | assumption) only [q_X9_simulate_101, q_X9_simulate_103, q_X9_simulate_105, q_X9_simulate_106, q_X9_simulate_107, q_X9_simulate_109, q_X9_simulate_110, q_X9_simulate_112, q_X9_simulate_114, q_X9_simulate_115, q_X9_simulate_116, q_X9_simulate_119, q_X9_simulate_121, q_X9_simulate_122, q_X9_simulate_123, q_X9_simulate_126, q_X9_simulate_127, q_X9_simulate_130, q_X9_simulate_132, q_X9_simulate_133, q_X9_simulate_134, q_X9_simulate_135, q_X9_simulate_138, q_X9_simulate_140, q_X9_simulate_143, q_X9_simulate_145, q_X9_simulate_146, q_X9_simulate_147, q_X9_simulate_148, q_X9_simulate_151, q_X9_simulate_154, q_X9_simulate_156, q_X9_simulate_158, q_X9_simulate_159, q_X9_simulate_162, q_X9_simulate_165, q_X9_simulate_166, q_X9_simulate_168, q_X9_simulate_170, q_X9_simulate_171, q_X9_simulate_174, nI_add, pI_le, pI_lt, pI_eq, pI_neg, pI_nn, pI_le0, pI_gt0, pI_eq0, xbV_s, xbU_s, if_true, if_false, bI_eq0, Nat.reduceAdd, Nat.reduceSub, Nat.reduceEqDiff, Nat.reduceLeDiff, Nat.reduceLT, Bool.true_eq_false, Bool.false_eq_true, e1, e2, e3, e4, e5, e6, q]
      · rw [if_neg (by omega), if_pos q]
        simp (disch := first | omega | assumption) only [q_X9_simulate_101, q_X9_simulate_103, q_X9_simulate_105, q_X9_simulate_106, q_X9_simulate_107, q_X9_simulate_109, q_X9_simulate_110, q_X9_simulate_112, q_X9_simulate_114, q_X9_simulate_115, q_X9_simulate_116, q_X9_simulate_119, q_X9_simulate_121, q_X9_simulate_122, q_X9_simulate_123, q_X9_simulate_126, q_X9_simulate_127, q_X9_simulate_130, q_X9_simulate_132, q_X9_simulate_133, q_X9_simulate_134, q_X9_simulate_135, q_X9_simulate_138, q_X9_simulate_140, q_X9_simulate_143, q_X9_simulate_145, q_X9_simulate_146, q_X9_simulate_147, q_X9_simulate_148, q_X9_simulate_151, q_X9_simulate_154, q_X9_simulate_156, q_X9_simulate_158, q_X9_simulate_159, q_X9_simulate_162, q_X9_simulate_165, q_X9_simulate_166, q_X9_simulate_168, q_X9_simulate_170, q_X9_simulate_171, q_X9_simulate_174, nI_add, pI_le, pI_lt, pI_eq, pI_neg, pI_nn, pI_le0, pI_gt0, pI_eq0, xbV_s, xbU_s, if_true, if_false, bI_eq0, Nat.reduceAdd, Nat.reduceSub, Nat.reduceEqDiff, Nat.reduceLeDiff, Nat.reduceLT, Bool.true_eq_false, Bool.false_eq_true, e1, e2, e3, e4, e5, e6, q]
      · rw [if_neg (by omega), if_neg (by omega), if_pos q, Nat.min_comm]
        simp (disch := first | omega | assumption) only [q_X9_simulate_101, q_X9_simulate_103, q_X9_simulate_105, q_X9_simulate_106, q_X9_simulate_107, q_X9_simulate_109, q_X9_simulate_110, q_X9_simulate_112, q_X9_simulate_114, q_X9_simulate_115, q_X9_simulate_116, q_X9_simulate_119, q_X9_simulate_121, q_X9_simulate_122, q_X9_simulate_123, q_X9_simulate_126, q_X9_simulate_127, q_X9_simulate_130, q_X9_simulate_132, q_X9_simulate_133, q_X9_simulate_134, q_X9_simulate_135, q_X9_simulate_138, q_X9_simulate_140, q_X9_simulate_143, q_X9_simulate_145, q_X9_simulate_146, q_X9_simulate_147, q_X9_simulate_148, q_X9_simulate_151, q_X9_simulate_154, q_X9_simulate_156, q_X9_simulate_158, q_X9_simulate_159, q_X9_simulate_162, q_X9_simulate_165, q_X9_simulate_166, q_X9_simulate_168, q_X9_simulate_170, q_X9_simulate_171, q_X9_simulate_174, nI_add, pI_le, pI_lt, pI_eq, pI_neg, pI_nn, pI_le0, pI_gt0, pI_eq0, xbV_s, xbU_s, if_true, if_false, bI_eq0, Nat.reduceAdd, Nat.reduceSub, Nat.reduceEqDiff, Nat.reduceLeDiff, Nat.reduceLT, Bool.true_eq_false, Bool.false_eq_true, e1, e2, e3, e4, e5, e6, q, s9_less]
      · rw [if_neg (by omega), if_neg (by omega), if_neg (by omega)]
        have em := s9_more0 (I := I) (a := sLast S) (b := r / 4 % 8) (by omega) (by omega)
        simp (disch := first | omega | assumption) only [q_X9_simulate_101, q_X9_simulate_103, q_X9_simulate_105, q_X9_simulate_106, q_X9_simulate_107, q_X9_simulate_109, q_X9_simulate_110, q_X9_simulate_112, q_X9_simulate_114, q_X9_simulate_115, q_X9_simulate_116, q_X9_simulate_119, q_X9_simulate_121, q_X9_simulate_122, q_X9_simulate_123, q_X9_simulate_126, q_X9_simulate_127, q_X9_simulate_130, q_X9_simulate_132, q_X9_simulate_133, q_X9_simulate_134, q_X9_simulate_135, q_X9_simulate_138, q_X9_simulate_140, q_X9_simulate_143, q_X9_simulate_145, q_X9_simulate_146, q_X9_simulate_147, q_X9_simulate_148, q_X9_simulate_151, q_X9_simulate_154, q_X9_simulate_156, q_X9_simulate_158, q_X9_simulate_159, q_X9_simulate_162, q_X9_simulate_165, q_X9_simulate_166, q_X9_simulate_168, q_X9_simulate_170, q_X9_simulate_171, q_X9_simulate_174, nI_add, pI_le, pI_lt, pI_eq, pI_neg, pI_nn, pI_le0, pI_gt0, pI_eq0, xbV_s, xbU_s, if_true, if_false, bI_eq0, Nat.reduceAdd, Nat.reduceSub, Nat.reduceEqDiff, Nat.reduceLeDiff, Nat.reduceLT, Bool.true_eq_false, Bool.false_eq_true, e1, e2, e3, e4, e5, e6, q, em]
    cases hc : sCanAdd S with
    | true =>
      obtain ⟨v, u1, u2⟩ := ih (k + 1) (sAdd S (sVal S r)) (x * 6364136223846793005 + 1442695040888963407) (by omega) (sWF_add hW bv hc)
      refine ⟨v, fun I l7 hR => ?_, fun I l7 l8 l9 l10 l11 hR => ?_⟩
      · obtain ⟨I1, f1, f2, f3⟩ := s0_append (v := sVal S r) xCol_10 hR hW hc
        obtain ⟨I', g1, g2⟩ := u1 I1 (some (.int (nI (sVal S r)))) f3
        refine ⟨I', ?_, f2.tr g2⟩
        rw [q_X8_simulate_39]
        simp (disch := first | omega | assumption) only [q_X8_simulate_41, q_X8_simulate_42, q_X8_simulate_45, q_X8_simulate_47, q_X8_simulate_50, q_X8_simulate_51, q_X8_simulate_54, q_X8_simulate_55, q_X8_simulate_57, q_X8_simulate_58, q_X8_simulate_60, q_X8_simulate_62, q_X8_simulate_63, q_X8_simulate_64, q_X8_simulate_67, q_X8_simulate_69, q_X8_simulate_70, q_X8_simulate_73, q_X8_simulate_76, q_X8_simulate_79, q_X8_simulate_80, q_X8_simulate_83, q_X8_simulate_85, q_X8_simulate_88, q_X8_simulate_89, q_X8_simulate_92, q_X8_simulate_93, q_X8_simulate_96, q_X8_simulate_99, q_X8_simulate_100, q_X8_simulate_103, nI_add, pI_le, pI_lt, pI_eq, pI_neg, pI_nn, pI_le0, pI_gt0, pI_eq0, xbV_s, xbU_s, if_true, if_false, bI_eq0, Nat.reduceAdd, Nat.reduceSub, Nat.reduceEqDiff, Nat.reduceLeDiff, Nat.reduceLT, Bool.true_eq_false, Bool.false_eq_true, n1, k0, k10, r0_5, er, s8_val hr hR hW, s0_canAppend xCol_10 hR hW, hc, f1]
        exact g1
      · obtain ⟨a8, a9, a10, ha⟩ := hv9 I l8 l9 l10 l11 hR
        obtain ⟨I1, f1, f2, f3⟩ := s9_addOn (v := sVal S r) hR hW hc
        obtain ⟨I', g1, g2⟩ := u2 I1 (some (.int (nI r))) a8 a9 a10 (some (.int (nI (sVal S r)))) f3
        refine ⟨I', ?_, f2.tr g2⟩
        rw [q_X9_simulate_45]
        simp (disch := first | omega | assumption) only [q_X9_simulate_47, q_X9_simulate_48, q_X9_simulate_51, q_X9_simulate_53, q_X9_simulate_56, q_X9_simulate_57, q_X9_simulate_60, q_X9_simulate_61, q_X9_simulate_63, q_X9_simulate_65, q_X9_simulate_67, q_X9_simulate_68, q_X9_simulate_69, nI_add, pI_le, pI_lt, pI_eq, pI_neg, pI_nn, pI_le0, pI_gt0, pI_eq0, xbV_s, xbU_s, if_true, if_false, bI_eq0, Nat.reduceAdd, Nat.reduceSub, Nat.reduceEqDiff, Nat.reduceLeDiff, Nat.reduceLT, Bool.true_eq_false, Bool.false_eq_true, n1, er]
        rw [ha]
        simp (disch := first | omega | assumption) only [q_X9_simulate_176, q_X9_simulate_177, q_X9_simulate_180, q_X9_simulate_183, q_X9_simulate_186, q_X9_simulate_187, q_X9_simulate_190, q_X9_simulate_192, q_X9_simulate_195, q_X9_simulate_196, q_X9_simulate_199, q_X9_simulate_200, q_X9_simulate_203, q_X9_simulate_206, q_X9_simulate_207, q_X9_simulate_210, nI_add, pI_le, pI_lt, pI_eq, pI_neg, pI_nn, pI_le0, pI_gt0, pI_eq0, xbV_s, xbU_s, if_true, if_false, bI_eq0, Nat.reduceAdd, Nat.reduceSub, Nat.reduceEqDiff, Nat.reduceLeDiff, Nat.reduceLT, Bool.true_eq_false, Bool.false_eq_true, k9, r9_5, s9_canAdd hR hW, hc, f1]
        exact g1
    | false =>
      obtain ⟨v, u1, u2⟩ := ih (k + 1) (sCmp 10 S).1 (x * 6364136223846793005 + 1442695040888963407) (by omega) (sWF_cmp 10 hW)
      refine ⟨v, fun I l7 hR => ?_, fun I l7 l8 l9 l10 l11 hR => ?_⟩
      · obtain ⟨I1, f1, f2, f3⟩ := s0_jws xCol_10 hR hW
        obtain ⟨I', g1, g2⟩ := u1 I1 (some (.int (nI (sVal S r)))) f3
        refine ⟨I', ?_, f2.tr g2⟩
        rw [q_X8_simulate_39]
        simp (disch := first | omega | assumption) only [q_X8_simulate_41, q_X8_simulate_42, q_X8_simulate_45, q_X8_simulate_47, q_X8_simulate_50, q_X8_simulate_51, q_X8_simulate_54, q_X8_simulate_55, q_X8_simulate_57, q_X8_simulate_58, q_X8_simulate_60, q_X8_simulate_62, q_X8_simulate_63, q_X8_simulate_64, q_X8_simulate_67, q_X8_simulate_69, q_X8_simulate_70, q_X8_simulate_73, q_X8_simulate_76, q_X8_simulate_79, q_X8_simulate_80, q_X8_simulate_83, q_X8_simulate_85, q_X8_simulate_88, q_X8_simulate_89, q_X8_simulate_92, q_X8_simulate_93, q_X8_simulate_96, q_X8_simulate_99, q_X8_simulate_100, q_X8_simulate_103, nI_add, pI_le, pI_lt, pI_eq, pI_neg, pI_nn, pI_le0, pI_gt0, pI_eq0, xbV_s, xbU_s, if_true, if_false, bI_eq0, Nat.reduceAdd, Nat.reduceSub, Nat.reduceEqDiff, Nat.reduceLeDiff, Nat.reduceLT, Bool.true_eq_false, Bool.false_eq_true, n1, k0, k10, r0_5, er, s8_val hr hR hW, s0_canAppend xCol_10 hR hW, hc, f1]
        exact g1
      · obtain ⟨a8, a9, a10, ha⟩ := hv9 I l8 l9 l10 l11 hR
        obtain ⟨I1, f1, f2, f3⟩ := s9_compactOn hR hW
        obtain ⟨I', g1, g2⟩ := u2 I1 (some (.int (nI r))) a8 a9 a10 (some (.int (nI (sVal S r)))) f3
        refine ⟨I', ?_, f2.tr g2⟩
        rw [q_X9_simulate_45]
        simp (disch := first | omega | assumption) only [q_X9_simulate_47, q_X9_simulate_48, q_X9_simulate_51, q_X9_simulate_53, q_X9_simulate_56, q_X9_simulate_57, q_X9_simulate_60, q_X9_simulate_61, q_X9_simulate_63, q_X9_simulate_65, q_X9_simulate_67, q_X9_simulate_68, q_X9_simulate_69, nI_add, pI_le, pI_lt, pI_eq, pI_neg, pI_nn, pI_le0, pI_gt0, pI_eq0, xbV_s, xbU_s, if_true, if_false, bI_eq0, Nat.reduceAdd, Nat.reduceSub, Nat.reduceEqDiff, Nat.reduceLeDiff, Nat.reduceLT, Bool.true_eq_false, Bool.false_eq_true, n1, er]
        rw [ha]
        simp (disch := first | omega | assumption) only [q_X9_simulate_176, q_X9_simulate_177, q_X9_simulate_180, q_X9_simulate_183, q_X9_simulate_186, q_X9_simulate_187, q_X9_simulate_190, q_X9_simulate_192, q_X9_simulate_195, q_X9_simulate_196, q_X9_simulate_199, q_X9_simulate_200, q_X9_simulate_203, q_X9_simulate_206, q_X9_simulate_207, q_X9_simulate_210, nI_add, pI_le, pI_lt, pI_eq, pI_neg, pI_nn, pI_le0, pI_gt0, pI_eq0, xbV_s, xbU_s, if_true, if_false, bI_eq0, Nat.reduceAdd, Nat.reduceSub, Nat.reduceEqDiff, Nat.reduceLeDiff, Nat.reduceLT, Bool.true_eq_false, Bool.false_eq_true, k9, r9_5, s9_canAdd hR hW, hc, f1]
        exact g1
theorem s9_cp {S : cS} {I : xMem} (h : mR I 191 S) (hW : sWF S) : ∃ I1, f_X9_copyColumn [.ref 191, .int (nI 0), .ref 192, .int (nI 0)] I = some (.inl none, I1) ∧ xO 192 I I1 ∧ mR I1 192 S := by
  obtain ⟨I1, f1, f2, f3⟩ := s9_cpc (f := 191) (fa := 0) (t := 192) (ta := 0) (I := I) x191 x192 (by rw [l191]; decide) (by rw [l192]; decide) (by omega) (by omega) (by omega)
  refine ⟨I1, f1, f2, ?_⟩
  obtain ⟨a1, a2, a3, a4, a5, a6, a7⟩ := h
  have hq := hW.1
  have hn' := sn_120 hW
  have f3 := f3.1
  have f3' : ∀ j, j < 142 → I1 192 j = I 191 j := fun j hj => by
    have := f3 j hj
    rw [Nat.zero_add] at this
    exact this
  exact ⟨x192, l192, by rw [f3' 0 (by omega)]; exact a3, by rw [f3' 1 (by omega)]; exact a4, fun p hp => by rw [f3' (2 + p) (by omega)]; exact a5 p hp, fun p hp => by rw [f3' (12 + p) (by omega)]; exact a6 p hp, fun j hj => by rw [f3' (22 + j) (by omega)]; exact a7 j hj⟩
theorem b99 : (99 : Int64).toInt = (99 : Nat) := by decide
theorem s9_in99 {x : Int32} {I : xMem} : f_X9_in [.long x.toInt64, .long 1, .long 99] I = some (.inl (some (.int (bI (xRg x 100)))), I) := by
  have e : decide ((1 : Int64).toInt ≤ x.toInt64.toInt ∧ x.toInt64.toInt ≤ (99 : Int64).toInt) = xRg x 100 := by
    rw [Int32.toInt_toInt64, b99, b1]
    unfold xRg
    by_cases q : 1 ≤ x.toInt ∧ x.toInt < (100 : Int)
    · rw [decide_eq_true (show 1 ≤ x.toInt ∧ x.toInt < ((100 : Nat) : Int) from q), decide_eq_true (by omega)]
    · rw [decide_eq_false (show ¬ (1 ≤ x.toInt ∧ x.toInt < ((100 : Nat) : Int)) from q), decide_eq_false (by omega)]
  rw [s9_in, e]
section PSI
variable {α : aS}
theorem op_simulate (s : Int64) (x : Int32) : Agree f_X8_simulate f_X9_simulate [.long s, .int x] [1] α := Agree.wf fun hw => by
  have k0 := x0
  have k1 := x1
  have k9 := x189
  have k10 := x10
  have hW := hw.1
  have hok0 : xcat2 (none : Option Value) = false := rfl
  cases hx : xRg x 100 with
  | false =>
    refine Agree.no 1 (by omega) (by decide) (fun I hI => ?_) (fun I hI => ?_)
    · show f_X8_simulate [.ref 0, .long s, .int x] I = some (.inr 1, I)
      unfold xRg at hx
      have hx := of_decide_eq_false hx
      rw [e_X8_simulate]
      by_cases q : x < nI 1
      · simp (disch := first | omega | assumption) only [q_X8_simulate_0, q_X8_simulate_1, q_X8_simulate_2, q_X8_simulate_5, q_X8_simulate_6, q_X8_simulate_8, q_X8_simulate_11, nI_add, pI_le, pI_lt, pI_eq, pI_neg, pI_nn, pI_le0, pI_gt0, pI_eq0, xbV_s, xbU_s, if_true, if_false, bI_eq0, Nat.reduceAdd, Nat.reduceSub, Nat.reduceEqDiff, Nat.reduceLeDiff, Nat.reduceLT, Bool.true_eq_false, Bool.false_eq_true, q]
      · have r : ¬ x ≤ nI 99 := by
          rw [Int32.lt_iff_toInt_lt, nI_toInt (by omega)] at q
          rw [Int32.le_iff_toInt_le, nI_toInt (by omega)]
          omega
        simp (disch := first | omega | assumption) only [q_X8_simulate_0, q_X8_simulate_1, q_X8_simulate_2, q_X8_simulate_5, q_X8_simulate_6, q_X8_simulate_8, q_X8_simulate_11, nI_add, pI_le, pI_lt, pI_eq, pI_neg, pI_nn, pI_le0, pI_gt0, pI_eq0, xbV_s, xbU_s, if_true, if_false, bI_eq0, Nat.reduceAdd, Nat.reduceSub, Nat.reduceEqDiff, Nat.reduceLeDiff, Nat.reduceLT, Bool.true_eq_false, Bool.false_eq_true, q, r]
    · rw [e_X9_simulate]
      simp (disch := first | omega | assumption) only [q_X9_simulate_0, q_X9_simulate_1, q_X9_simulate_2, q_X9_simulate_3, q_X9_simulate_4, q_X9_simulate_7, q_X9_simulate_10, q_X9_simulate_13, q_X9_simulate_14, q_X9_simulate_17, q_X9_simulate_18, q_X9_simulate_21, q_X9_simulate_24, q_X9_simulate_25, nI_add, pI_le, pI_lt, pI_eq, pI_neg, pI_nn, pI_le0, pI_gt0, pI_eq0, xbV_s, xbU_s, if_true, if_false, bI_eq0, Nat.reduceAdd, Nat.reduceSub, Nat.reduceEqDiff, Nat.reduceLeDiff, Nat.reduceLT, Bool.true_eq_false, Bool.false_eq_true, k9, s9_in99, hx, s9_rf1]
  | true =>
    obtain ⟨m, hm1, hm2, rfl⟩ := xRg_ex hx (by omega)
    have n1 : ¬ m < 1 := by omega
    have n2 : m ≤ 99 := by omega
    obtain ⟨v, u1, u2⟩ := sim2 n2 (s := s) m 0 (zS α) s (by omega) hW
    refine ⟨0, v, α, by decide, fun I hI => ?_, fun I hI => ?_⟩
    · obtain ⟨I2, g1, g2, g3⟩ := s0_copy xCol_10 xCol_1 (by omega) hI.2.1 hW
      obtain ⟨I', j1, j2⟩ := u1 I2 none g3
      have hfr : ∀ c, c < 10 ∨ 19 ≤ c → I' c = I c := fun c hc => by rw [j2 c (by omega), g2 c (by omega)]
      refine ⟨I', ?_, hI.cg (fun c hc => hfr c (by omega)) (by rw [hfr 163 (by omega)]), fun c hc => hfr c (by omega)⟩
      rw [if_pos rfl, e_X8_simulate]
      simp (disch := first | omega | assumption) only [q_X8_simulate_0, q_X8_simulate_1, q_X8_simulate_2, q_X8_simulate_5, q_X8_simulate_6, q_X8_simulate_8, q_X8_simulate_11, q_X8_simulate_22, q_X8_simulate_23, q_X8_simulate_26, q_X8_simulate_27, q_X8_simulate_30, q_X8_simulate_33, q_X8_simulate_34, q_X8_simulate_36, q_X8_simulate_37, nI_add, pI_le, pI_lt, pI_eq, pI_neg, pI_nn, pI_le0, pI_gt0, pI_eq0, xbV_s, xbU_s, if_true, if_false, bI_eq0, Nat.reduceAdd, Nat.reduceSub, Nat.reduceEqDiff, Nat.reduceLeDiff, Nat.reduceLT, Bool.true_eq_false, Bool.false_eq_true, n1, n2, k0, k1, k10, r0_0, r0_5, g1]
      exact j1
    · have hI0 := hI.rf 0
      obtain ⟨I1, f1, f2, f3⟩ := s9_cp hI0.2.1 hW
      obtain ⟨I', j1, j2⟩ := u2 I1 none none none none none f3
      have hfr : ∀ c, c ≠ 189 → c ≠ 192 → I' c = I c := fun c h1 h2 => by rw [j2 c h2, f2 c h2, xup_o h1]
      have hfr9 : I' 189 = xup I 189 0 (nI 0) 189 := by rw [j2 189 (by omega), f2 189 (by omega)]
      refine ⟨I', ?_, hI.cg (fun c hc => hfr c (by omega) (by omega)) (by rw [hfr9, xup_d (by omega)]) (by rw [hfr9, xup_d (by omega)]), fun c hc => hfr c (by omega) (by omega), by rw [hfr9, xup_s]⟩
      rw [if_pos rfl, e_X9_simulate]
      simp (disch := first | omega | assumption) only [q_X9_simulate_0, q_X9_simulate_1, q_X9_simulate_2, q_X9_simulate_3, q_X9_simulate_4, q_X9_simulate_7, q_X9_simulate_10, q_X9_simulate_13, q_X9_simulate_14, q_X9_simulate_17, q_X9_simulate_18, q_X9_simulate_21, q_X9_simulate_24, q_X9_simulate_25, q_X9_simulate_26, q_X9_simulate_27, q_X9_simulate_30, q_X9_simulate_31, q_X9_simulate_32, q_X9_simulate_35, q_X9_simulate_36, q_X9_simulate_39, q_X9_simulate_40, q_X9_simulate_42, q_X9_simulate_43, nI_add, pI_le, pI_lt, pI_eq, pI_neg, pI_nn, pI_le0, pI_gt0, pI_eq0, xbV_s, xbU_s, if_true, if_false, bI_eq0, Nat.reduceAdd, Nat.reduceSub, Nat.reduceEqDiff, Nat.reduceLeDiff, Nat.reduceLT, Bool.true_eq_false, Bool.false_eq_true, k9, r9_4, r9_5, s9_in99, hx, s9_rf0, f1]
      exact j1
end PSI
end P56
