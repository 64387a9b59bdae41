/-! ===== pages in the text: a step on both sides ===== -/
section P44
section PV
variable {t : Nat → Nat} {L : Nat}
theorem pI_mx0 {h v : Nat} (hh : h < 1000000) (hv : v < 1000000) : (if nI h - nI v < nI 0 then nI 0 else nI h - nI v) = nI (h - v) := by
  by_cases q : h < v
  · have e : nI h - nI v < nI 0 := by
      rw [Int32.lt_iff_toInt_lt, pk_sub_toInt (by omega) (by omega), nI_toInt (by omega)]
      omega
    rw [if_pos e, show h - v = 0 by omega]
  · have e : ¬ nI h - nI v < nI 0 := by
      rw [Int32.lt_iff_toInt_lt, pk_sub_toInt (by omega) (by omega), nI_toInt (by omega)]
      omega
    rw [if_neg e, pI_sub (by omega)]
theorem pN_lt {ok : Nat → Nat → Bool} : ∀ {k v p : Nat} {x : Nat × Nat}, pN t L ok k v p = .inr x → v * 2 ^ k ≤ x.1 ∧ x.1 < (v + 1) * 2 ^ k
  | 0, v, p, x, h => by
    cases h
    rw [Nat.pow_zero]
    exact ⟨by omega, by omega⟩
  | k + 1, v, p, x, h => by
    rw [pN_s] at h
    by_cases q : dgt t L p < 2 ∧ ok ((2 * v + dgt t L p) * 2 ^ k) ((2 * v + dgt t L p) * 2 ^ k + 1 * 2 ^ k - 1) = true
    · rw [if_pos q] at h
      have ih := pN_lt h
      have e1 : 2 ^ (k + 1) = 2 * 2 ^ k := by rw [Nat.pow_succ, Nat.mul_comm]
      have m1 : v * 2 ^ (k + 1) = 2 * v * 2 ^ k := by rw [e1, Nat.mul_comm 2 v, Nat.mul_assoc]
      have m2 : (v + 1) * 2 ^ (k + 1) = (2 * v + 1 + 1) * 2 ^ k := by rw [e1, ← Nat.mul_assoc, show (v + 1) * 2 = 2 * v + 1 + 1 by omega]
      have m3 : 2 * v * 2 ^ k ≤ (2 * v + dgt t L p) * 2 ^ k := Nat.mul_le_mul_right _ (by omega)
      have m4 : (2 * v + dgt t L p + 1) * 2 ^ k ≤ (2 * v + 1 + 1) * 2 ^ k := Nat.mul_le_mul_right _ (by omega)
      exact ⟨by omega, by omega⟩
    · rw [if_neg q] at h
      cases h
theorem s3_stp1 {w v : Nat} {I : xMem} (hw1 : 1 ≤ w) (hw : w ≤ 11) (hv : v ≤ 1023) {b : Nat} {I1 : xMem} (hb : b ≤ 1) (hb0 : 0 < b → 0 < v) (h1 : f_X3_readNumber [.ref 163, .int (nI 1), .int (nI 0), .int (nI (if v ≤ 0 then 0 else 1))] I = some (.inl (some (.int (nI b))), I1)) {x : Int32} {I2 : xMem} (h2 : f_X3_readNumber [.ref 163, .int (nI (w - 1)), .int (nI (if b = 0 then 0 else 2 ^ (w - 1) - v)), .int (nI (if b = 0 then 1023 - v else 2 ^ (w - 1) - 1))] I1 = some (.inl (some (.int x)), I2)) : f_X3_readStep [.ref 163, .int (nI w), .int (nI v)] I = some (.inl (some (.int (if b = 0 then x else x - nI (2 ^ (w - 1))))), I2) := by
  have k3 := x163
  have e1 : nI w - nI 1 = nI (w - 1) := pI_sub hw1
  have e2 : nI 1023 - nI v = nI (1023 - v) := pI_sub hv
  have e3 := pk_sh1 hw1 (by omega : w ≤ 12)
  rw [e1] at e3
  have hp3 : 2 ^ (w - 1) ≤ 2 ^ 10 := Nat.pow_le_pow_right (by decide) (by omega)
  have hp2 : 0 < 2 ^ (w - 1) := Nat.pow_pos (by decide)
  have e4 : nI (2 ^ (w - 1)) - nI 1 = nI (2 ^ (w - 1) - 1) := pI_sub (by omega)
  have e5 := pI_mx0 (h := 2 ^ (w - 1)) (v := v) (by omega) (by omega)
  rw [e_X3_readStep]
  by_cases v0 : v ≤ 0
  · have b0 : b = 0 := by omega
    subst b0
    rw [if_pos v0] at h1
    rw [if_pos rfl, if_pos rfl] at h2
    have v00 : v = 0 := by omega
    subst v00
    simp (disch := omega) only [q_X3_readStep_0, q_X3_readStep_1, q_X3_readStep_2, q_X3_readStep_3, q_X3_readStep_4, q_X3_readStep_5, q_X3_readStep_6, q_X3_readStep_7, q_X3_readStep_8, q_X3_readStep_9, q_X3_readStep_10, q_X3_readStep_13, q_X3_readStep_14, q_X3_readStep_17, q_X3_readStep_18, q_X3_readStep_21, q_X3_readStep_22, q_X3_readStep_25, q_X3_readStep_26, q_X3_readStep_29, q_X3_readStep_30, q_X3_readStep_32, q_X3_readStep_34, q_X3_readStep_37, q_X3_readStep_38, q_X3_readStep_39, q_X3_readStep_40, q_X3_readStep_41, q_X3_readStep_42, q_X3_readStep_43, q_X3_readStep_44, q_X3_readStep_45, q_X3_readStep_48, q_X3_readStep_49, q_X3_readStep_50, q_X3_readStep_51, q_X3_readStep_54, q_X3_readStep_55, q_X3_readStep_56, q_X3_readStep_57, q_X3_readStep_58, q_X3_readStep_59, q_X3_readStep_60, q_X3_readStep_61, q_X3_readStep_62, q_X3_readStep_65, q_X3_readStep_66, q_X3_readStep_67, q_X3_readStep_70, nI_add, pI_le, pI_lt, pI_eq, pI_neg, pI_nn, pI_le0, pI_gt0, pI_eq0, xbV_s, xbU_s, if_true, if_false, bI_eq0, Nat.reduceAdd, Nat.reduceSub, Nat.reduceEqDiff, Nat.reduceLeDiff, Nat.reduceLT, Bool.true_eq_false, Bool.false_eq_true, k3, e1, e2, e3, h1, h2]
  · have v0' : ¬ v = 0 := by omega
    rw [if_neg v0] at h1
    by_cases b0 : b = 0
    · subst b0
      rw [if_pos rfl, if_pos rfl] at h2
      simp (disch := omega) only [q_X3_readStep_0, q_X3_readStep_1, q_X3_readStep_2, q_X3_readStep_3, q_X3_readStep_4, q_X3_readStep_5, q_X3_readStep_6, q_X3_readStep_7, q_X3_readStep_8, q_X3_readStep_9, q_X3_readStep_10, q_X3_readStep_13, q_X3_readStep_14, q_X3_readStep_17, q_X3_readStep_18, q_X3_readStep_21, q_X3_readStep_22, q_X3_readStep_25, q_X3_readStep_26, q_X3_readStep_29, q_X3_readStep_30, q_X3_readStep_32, q_X3_readStep_34, q_X3_readStep_37, q_X3_readStep_38, q_X3_readStep_39, q_X3_readStep_40, q_X3_readStep_41, q_X3_readStep_42, q_X3_readStep_43, q_X3_readStep_44, q_X3_readStep_45, q_X3_readStep_48, q_X3_readStep_49, q_X3_readStep_50, q_X3_readStep_51, q_X3_readStep_54, q_X3_readStep_55, q_X3_readStep_56, q_X3_readStep_57, q_X3_readStep_58, q_X3_readStep_59, q_X3_readStep_60, q_X3_readStep_61, q_X3_readStep_62, q_X3_readStep_65, q_X3_readStep_66, q_X3_readStep_67, q_X3_readStep_70, nI_add, pI_le, pI_lt, pI_eq, pI_neg, pI_nn, pI_le0, pI_gt0, pI_eq0, xbV_s, xbU_s, if_true, if_false, bI_eq0, Nat.reduceAdd, Nat.reduceSub, Nat.reduceEqDiff, Nat.reduceLeDiff, Nat.reduceLT, Bool.true_eq_false, Bool.false_eq_true, k3, e1, e2, e3, v0', h1, h2]
    · have b1 : b = 1 := by omega
      subst b1
      rw [if_neg (by omega), if_neg (by omega)] at h2
      simp (disch := omega) only [q_X3_readStep_0, q_X3_readStep_1, q_X3_readStep_2, q_X3_readStep_3, q_X3_readStep_4, q_X3_readStep_5, q_X3_readStep_6, q_X3_readStep_7, q_X3_readStep_8, q_X3_readStep_9, q_X3_readStep_10, q_X3_readStep_13, q_X3_readStep_14, q_X3_readStep_17, q_X3_readStep_18, q_X3_readStep_21, q_X3_readStep_22, q_X3_readStep_25, q_X3_readStep_26, q_X3_readStep_29, q_X3_readStep_30, q_X3_readStep_32, q_X3_readStep_34, q_X3_readStep_37, q_X3_readStep_38, q_X3_readStep_39, q_X3_readStep_40, q_X3_readStep_41, q_X3_readStep_42, q_X3_readStep_43, q_X3_readStep_44, q_X3_readStep_45, q_X3_readStep_48, q_X3_readStep_49, q_X3_readStep_50, q_X3_readStep_51, q_X3_readStep_54, q_X3_readStep_55, q_X3_readStep_56, q_X3_readStep_57, q_X3_readStep_58, q_X3_readStep_59, q_X3_readStep_60, q_X3_readStep_61, q_X3_readStep_62, q_X3_readStep_65, q_X3_readStep_66, q_X3_readStep_67, q_X3_readStep_70, nI_add, pI_le, pI_lt, pI_eq, pI_neg, pI_nn, pI_le0, pI_gt0, pI_eq0, xbV_s, xbU_s, if_true, if_false, bI_eq0, Nat.reduceAdd, Nat.reduceSub, Nat.reduceEqDiff, Nat.reduceLeDiff, Nat.reduceLT, Bool.true_eq_false, Bool.false_eq_true, k3, e1, e2, e3, e4, e5, v0', h1, h2]
theorem step2 (hL : L ≤ 160) (ht : ∀ j, j < L → t j ≤ 255) {w v p : Nat} (hw1 : 1 ≤ w) (hw : w ≤ 11) (hv : v ≤ 1023) (hp : p ≤ L) : (∃ e, e ≤ L ∧ (∀ I n, cG I t L n p → ∃ I' x v', f_X3_readStep [.ref 163, .int (nI w), .int (nI v)] I = some (.inl (some (.int x)), I') ∧ tGn I I' ∧ I' 163 6 = nI e ∧ v' ≤ 1023 ∧ nI v + x = nI v') ∧ (∀ I, mG I t L p → ∃ I', f_X9_number [.ref 189, .int (nI w), .int (nI 0), .int (nI (min (2 ^ (w - 1) - 1) (1023 - v))), .int (nI (2 * 2 ^ (w - 1) - min (2 ^ (w - 1)) v)), .int (nI (2 * 2 ^ (w - 1) - 1))] I = some (.inl (some (.int (-9999))), I') ∧ mGn I I' ∧ I' 189 3 = nI e)) ∨ (∃ v' p' s, v' ≤ 1023 ∧ p' ≤ L ∧ s < 2 * 2 ^ (w - 1) ∧ nI v + (if s < 2 ^ (w - 1) then nI s else nI s - nI (2 * 2 ^ (w - 1))) = nI v' ∧ (∀ I n, cG I t L n p → ∃ I' x, f_X3_readStep [.ref 163, .int (nI w), .int (nI v)] I = some (.inl (some (.int x)), I') ∧ tGn I I' ∧ cG I' t L n p' ∧ nI v + x = nI v') ∧ (∀ I, mG I t L p → ∃ I', f_X9_number [.ref 189, .int (nI w), .int (nI 0), .int (nI (min (2 ^ (w - 1) - 1) (1023 - v))), .int (nI (2 * 2 ^ (w - 1) - min (2 ^ (w - 1)) v)), .int (nI (2 * 2 ^ (w - 1) - 1))] I = some (.inl (some (.int (nI s))), I') ∧ mGn I I' ∧ mG I' t L p')) := by
  obtain ⟨k, rfl⟩ : ∃ k, w = k + 1 := ⟨w - 1, by omega⟩
  rw [show k + 1 - 1 = k from rfl]
  have hp3 : 2 ^ k ≤ 2 ^ 10 := Nat.pow_le_pow_right (by decide) (by omega)
  have hp2 : 0 < 2 ^ k := Nat.pow_pos (by decide)
  have hS : ∀ I n, cG I t L n p → _ := fun I n h => s3_num (I := I) (wd := 1) (lo := 0) (hi := if v ≤ 0 then 0 else 1) hL ht (by omega) (by split <;> omega) (by omega) (by omega) h.1 h.2.2.1 h.2.2.2
  have hm : ∀ I, mG I t L p → _ := fun I h => s9_num (I := I) (wd := k + 1) (lo := 0) (hi := min (2 ^ k - 1) (1023 - v)) (lo2 := 2 * 2 ^ k - min (2 ^ k) v) (hi2 := 2 * 2 ^ k - 1) hL ht (by omega) (by omega) (by omega) (by omega) (by omega) (by omega) h.1 h.2
  rcases pN_step (t := t) (L := L) (k := k) (v := v) (p := p) hv with ⟨a1, a2⟩ | ⟨a1, a2⟩ | ⟨v0, a1, a2⟩
  · refine Or.inl ⟨p, hp, fun I n h => ?_, fun I h => ?_⟩
    · obtain ⟨I1, f1, f2, f3⟩ := hS I n h
      rw [show pN t L (okc 0 (if v ≤ 0 then 0 else 1)) 1 0 p = .inl p from a1] at f1 f3
      have h6 : I1 163 6 = nI p := f3.1
      refine ⟨I1, _, v, s3_stp1 (b := 0) hw1 hw hv (by omega) (fun h => absurd h (by omega)) f1 (s3_numE (wd := k) (lo := 0) (hi := 1023 - v) (by omega) h6 (by omega)), f2, h6, hv, ?_⟩
      rw [if_pos rfl, nI_add]
      rfl
    · obtain ⟨I1, f1, f2, f3⟩ := hm I h
      rw [show pN t L (okm 0 (min (2 ^ k - 1) (1023 - v)) (2 * 2 ^ k - min (2 ^ k) v) (2 * 2 ^ k - 1)) (k + 1) 0 p = .inl p from a2] at f1 f3
      exact ⟨I1, f1, f2, f3⟩
  · have hp1 : p + 1 ≤ L := (pN_le (t := t) (L := L) (ok := okB v) (k := 1) (v := 0) hp).2 _ a1
    have hle := pN_le (t := t) (L := L) (ok := okc 0 (1023 - v)) (k := k) (v := 0) hp1
    have hrg := fun x => pN_range (t := t) (L := L) (lo := 0) (hi := 1023 - v) (k := k) (v := 0) (p := p + 1) (by omega) x
    have hC : ∀ I n, cG I t L n (p + 1) → _ := fun I n h => s3_num (I := I) (wd := k) (lo := 0) (hi := 1023 - v) hL ht (by omega) (by omega) (by omega) (by omega) h.1 h.2.2.1 h.2.2.2
    have hB : ∀ I n, cG I t L n p → ∃ I1, f_X3_readNumber [.ref 163, .int (nI 1), .int (nI 0), .int (nI (if v ≤ 0 then 0 else 1))] I = some (.inl (some (.int (nI 0))), I1) ∧ tGn I I1 ∧ cG I1 t L n (p + 1) := by
      intro I n h
      obtain ⟨I1, f1, f2, f3⟩ := hS I n h
      rw [show pN t L (okc 0 (if v ≤ 0 then 0 else 1)) 1 0 p = .inr (0, p + 1) from a1] at f1 f3
      exact ⟨I1, f1, f2, h.go f2.w f3.2 f3.1 (f2.1 165 (by omega))⟩
    cases hr : pN t L (okc 0 (1023 - v)) k 0 (p + 1) with
    | inl e =>
      rw [hr] at a2
      refine Or.inl ⟨e, hle.1 e hr, fun I n h => ?_, fun I h => ?_⟩
      · obtain ⟨I1, f1, f2, f3⟩ := hB I n h
        obtain ⟨I2, g1, g2, g3⟩ := hC I1 n f3
        rw [hr] at g1 g3
        refine ⟨I2, _, v, s3_stp1 (b := 0) hw1 hw hv (by omega) (fun h => absurd h (by omega)) f1 g1, f2.tr g2, g3.1, hv, ?_⟩
        rw [if_pos rfl, nI_add]
        rfl
      · obtain ⟨I1, f1, f2, f3⟩ := hm I h
        rw [show pN t L (okm 0 (min (2 ^ k - 1) (1023 - v)) (2 * 2 ^ k - min (2 ^ k) v) (2 * 2 ^ k - 1)) (k + 1) 0 p = .inl e from a2] at f1 f3
        exact ⟨I1, f1, f2, f3⟩
    | inr x =>
      rw [hr] at a2
      have a := hrg x hr
      have hs : x.1 < 2 ^ k := by have := (pN_lt hr).2; omega
      refine Or.inr ⟨v + x.1, x.2, x.1, by omega, hle.2 x hr, by omega, by rw [if_pos hs, nI_add], fun I n h => ?_, fun I h => ?_⟩
      · obtain ⟨I1, f1, f2, f3⟩ := hB I n h
        obtain ⟨I2, g1, g2, g3⟩ := hC I1 n f3
        rw [hr] at g1 g3
        refine ⟨I2, _, s3_stp1 (b := 0) hw1 hw hv (by omega) (fun h => absurd h (by omega)) f1 g1, f2.tr g2, f3.go g2.w g3.2 g3.1 (g2.1 165 (by omega)), ?_⟩
        rw [if_pos rfl, nI_add]
        rfl
      · obtain ⟨I1, f1, f2, f3⟩ := hm I h
        rw [show pN t L (okm 0 (min (2 ^ k - 1) (1023 - v)) (2 * 2 ^ k - min (2 ^ k) v) (2 * 2 ^ k - 1)) (k + 1) 0 p = .inr x from a2] at f1 f3
        exact ⟨I1, f1, f2, h.go f2.w f3 (f2.1 190 (by omega))⟩
  · have hp1 : p + 1 ≤ L := (pN_le (t := t) (L := L) (ok := okB v) (k := 1) (v := 0) hp).2 _ a1
    have hle := pN_le (t := t) (L := L) (ok := okc (2 ^ k - v) (2 ^ k - 1)) (k := k) (v := 0) hp1
    have hC : ∀ I n, cG I t L n (p + 1) → _ := fun I n h => s3_num (I := I) (wd := k) (lo := 2 ^ k - v) (hi := 2 ^ k - 1) hL ht (by omega) (by omega) (by omega) (by omega) h.1 h.2.2.1 h.2.2.2
    have hB : ∀ I n, cG I t L n p → ∃ I1, f_X3_readNumber [.ref 163, .int (nI 1), .int (nI 0), .int (nI (if v ≤ 0 then 0 else 1))] I = some (.inl (some (.int (nI 1))), I1) ∧ tGn I I1 ∧ cG I1 t L n (p + 1) := by
      intro I n h
      obtain ⟨I1, f1, f2, f3⟩ := hS I n h
      rw [show pN t L (okc 0 (if v ≤ 0 then 0 else 1)) 1 0 p = .inr (1, p + 1) from a1] at f1 f3
      exact ⟨I1, f1, f2, h.go f2.w f3.2 f3.1 (f2.1 165 (by omega))⟩
    cases hr : pN t L (okc (2 ^ k - v) (2 ^ k - 1)) k 0 (p + 1) with
    | inl e =>
      rw [hr] at a2
      refine Or.inl ⟨e, hle.1 e hr, fun I n h => ?_, fun I h => ?_⟩
      · obtain ⟨I1, f1, f2, f3⟩ := hB I n h
        obtain ⟨I2, g1, g2, g3⟩ := hC I1 n f3
        rw [hr] at g1 g3
        refine ⟨I2, _, v + (2 ^ k - v) - 2 ^ k, s3_stp1 (b := 1) hw1 hw hv (by omega) (fun _ => v0) f1 g1, f2.tr g2, g3.1, by omega, ?_⟩
        rw [if_neg (by omega)]
        exact pI_bk (v := v) (s := 2 ^ k - v) (h := 2 ^ k) (by omega)
      · obtain ⟨I1, f1, f2, f3⟩ := hm I h
        rw [show pN t L (okm 0 (min (2 ^ k - 1) (1023 - v)) (2 * 2 ^ k - min (2 ^ k) v) (2 * 2 ^ k - 1)) (k + 1) 0 p = .inl e from a2] at f1 f3
        exact ⟨I1, f1, f2, f3⟩
    | inr x =>
      rw [hr] at a2
      have a : 2 ^ k - v ≤ x.1 ∧ x.1 ≤ 2 ^ k - 1 := by
        by_cases k0 : k = 0
        · subst k0
          cases hr
          exact ⟨by rw [Nat.pow_zero]; omega, Nat.zero_le _⟩
        · exact (pN_range (t := t) (L := L) (lo := 2 ^ k - v) (hi := 2 ^ k - 1) (k := k) (v := 0) (p := p + 1) (by omega) x hr).1
      refine Or.inr ⟨v + x.1 - 2 ^ k, x.2, x.1 + 2 ^ k, by omega, hle.2 x hr, by omega, ?_, fun I n h => ?_, fun I h => ?_⟩
      · rw [if_neg (by omega), pI_bk (by omega), show v + (x.1 + 2 ^ k) - 2 * 2 ^ k = v + x.1 - 2 ^ k by omega]
      · obtain ⟨I1, f1, f2, f3⟩ := hB I n h
        obtain ⟨I2, g1, g2, g3⟩ := hC I1 n f3
        rw [hr] at g1 g3
        refine ⟨I2, _, s3_stp1 (b := 1) hw1 hw hv (by omega) (fun _ => v0) f1 g1, f2.tr g2, f3.go g2.w g3.2 g3.1 (g2.1 165 (by omega)), ?_⟩
        rw [if_neg (by omega)]
        exact pI_bk (by show 2 ^ k ≤ v + x.1; omega)
      · obtain ⟨I1, f1, f2, f3⟩ := hm I h
        rw [show pN t L (okm 0 (min (2 ^ k - 1) (1023 - v)) (2 * 2 ^ k - min (2 ^ k) v) (2 * 2 ^ k - 1)) (k + 1) 0 p = .inr (x.1 + 2 ^ k, x.2) from a2] at f1 f3
        exact ⟨I1, f1, f2, h.go f2.w f3 (f2.1 190 (by omega))⟩
end PV
end P44
