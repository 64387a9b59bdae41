/-! ===== scripts ===== -/
section P55
theorem lgc_ge {x y : Int64} : (0 ≤ lg_cmp x y) = (y.toInt ≤ x.toInt) := by
  have h := lgc_lt (x := x) (y := y)
  apply propext
  have e : (0 ≤ lg_cmp x y) ↔ ¬ (lg_cmp x y < 0) := by
    rw [Int32.le_iff_toInt_le, Int32.lt_iff_toInt_lt, Int32.toInt_zero]
    omega
  rw [e, h]
  omega
theorem lgc_eq {x y : Int64} : (lg_cmp x y = 0) = (x = y) := by
  unfold lg_cmp
  apply propext
  by_cases h : x > y
  · rw [if_pos h]
    have h1 : y.toInt < x.toInt := Int64.lt_iff_toInt_lt.mp h
    constructor
    · intro q; exact absurd q (by decide)
    · intro q; rw [q] at h1; omega
  · rw [if_neg h]
    by_cases e : x = y
    · rw [if_pos e]
      exact ⟨fun _ => e, fun _ => rfl⟩
    · rw [if_neg e]
      constructor
      · intro q; exact absurd q (by decide)
      · intro q; exact absurd q e
theorem pl_dv {A d : Nat} (hA : A < 2 ^ 63) (h0 : 0 < d) (hd : d < 2 ^ 63) : lN A / lN d = lN (A / d) := pk_lDiv hA h0 hd
theorem pl_rm {A d : Nat} : lN A - lN (A / d) * lN d = lN (A % d) := by
  rw [lN_mul, lN_sub (Nat.div_mul_le_self A d)]
  congr 1
  have := Nat.div_add_mod A d
  have e := Nat.mul_comm d (A / d)
  omega
def gP (j : Nat) : Nat := 1000000 ^ j
theorem gP_s (j : Nat) : gP (j + 1) = gP j * 1000000 := Nat.pow_succ 1000000 j
theorem gP_0 : gP 0 = 1 := rfl
theorem gP_pos (j : Nat) : 0 < gP j := Nat.pow_pos (by decide)
theorem gP_le {j : Nat} (h : j ≤ 3) : gP j ≤ 1000000000000000000 := by
  have : gP j ≤ gP 3 := Nat.pow_le_pow_right (by decide) h
  have e : gP 3 = 1000000000000000000 := by decide
  omega
/-- a group of the number, from the lowest -/
def gG (m j : Nat) : Nat := m / gP j % 1000000
theorem gG_lt (m j : Nat) : gG m j < 1000000 := Nat.mod_lt _ (by decide)
theorem x187 : xK 187 = 5 := by decide
theorem w187 : xRow 187 3 := ⟨by decide, by decide, by decide, by decide, by decide⟩
theorem r0_9 : xR 0 9 = 187 := by decide
theorem r0_6 : xR 0 6 = 182 := by decide
theorem eP6 : (1000000 : Int64) = lN 1000000 := rfl
theorem nP6 : ¬ lN 1000000 = 0 := by decide
theorem nP6' : ¬ (1000000 : Int64) = 0 := by decide
/-- the class's groups -/
theorem s8_groups {I : xMem} {s : Int64} {n m : Nat} (hn : n ≤ 3) (hm : m < 2 ^ 63) : ∀ r (I1 : xMem), r ≤ n → zG 188 1 I I1 → (∀ j, r ≤ j → j < n → I1 188 j = nI (gG m (n - 1 - j))) → ∃ I', xgo k_X8_runScript 46 [some (.ref 0), some (.int (nI n)), some (.long s), none, some (.long (lN (m / gP (n - r)))), none, some (.int (nI r - nI 1))] [] I1 = xgo k_X8_runScript 81 [some (.ref 0), some (.int (nI n)), some (.long s), none, some (.long (lN (m / gP n))), none, some (.int (nI 0 - nI 1))] [] I' ∧ zG 188 1 I I' ∧ (∀ j, j < n → I' 188 j = nI (gG m (n - 1 - j))) := by
  have hok0 : xcat2 (none : Option Value) = false := rfl
  have k0 := x0
  have k5 := x187
  have n6 := nP6
  intro r
  induction r with
  | zero =>
    intro I1 hr hG hg
    have e : nI 0 - nI 1 < 0 := by decide
    refine ⟨I1, ?_, hG, fun j hj => hg j (by omega) hj⟩
    rw [q_X8_runScript_46]
    simp (disch := first | omega | assumption) only [q_X8_runScript_48, nI_add, pI_le, pI_lt, pI_eq, pI_neg, pI_nn, pI_le0, pI_gt0, pI_eq0, xbV_s, xbU_s, if_true, if_false, bI_eq0, Nat.reduceAdd, Nat.reduceSub, Nat.reduceEqDiff, Nat.reduceLeDiff, Nat.reduceLT, Bool.true_eq_false, Bool.false_eq_true, e]
    rfl
  | succ r ih =>
    intro I1 hr hG hg
    have e : nI (r + 1) - nI 1 = nI r := by rw [pI_sub (by omega)]; rfl
    have e2 : nI r + -1 = nI r - nI 1 := by rw [Int32.sub_eq_add_neg]; rfl
    have b : m / gP (n - (r + 1)) < 2 ^ 63 := Nat.lt_of_le_of_lt (Nat.div_le_self _ _) hm
    have d1 : lN (m / gP (n - (r + 1))) / lN 1000000 = lN (m / gP (n - (r + 1)) / 1000000) := pl_dv b (by omega) (by omega)
    have d2 : lN (m / gP (n - (r + 1))) - lN (m / gP (n - (r + 1)) / 1000000) * lN 1000000 = lN (m / gP (n - (r + 1)) % 1000000) := pl_rm
    have d3 : m / gP (n - (r + 1)) / 1000000 = m / gP (n - r) := by
      rw [Nat.div_div_eq_div_mul, ← gP_s, show n - (r + 1) + 1 = n - r by omega]
    obtain ⟨I', f1, f2, f3⟩ := ih (xup I1 188 r (nI (m / gP (n - (r + 1)) % 1000000))) (by omega) (hG.up (by omega) (by omega)) (fun j h1 h2 => by
      by_cases q : j = r
      · subst q
        rw [xup_s]
        unfold gG
        rw [show n - (j + 1) = n - 1 - j by omega]
      · rw [xup_d q]
        exact hg j (by omega) h2)
    rw [← d3] at f1
    refine ⟨I', ?_, f2, f3⟩
    rw [q_X8_runScript_46]
    simp (disch := first | omega | assumption) only [q_X8_runScript_48, q_X8_runScript_51, q_X8_runScript_52, q_X8_runScript_55, q_X8_runScript_57, q_X8_runScript_59, q_X8_runScript_62, q_X8_runScript_63, q_X8_runScript_64, q_X8_runScript_67, q_X8_runScript_69, q_X8_runScript_72, q_X8_runScript_73, q_X8_runScript_75, q_X8_runScript_78, nI_add, pI_le, pI_lt, pI_eq, pI_neg, pI_nn, pI_le0, pI_gt0, pI_eq0, xbV_s, xbU_s, if_true, if_false, bI_eq0, Nat.reduceAdd, Nat.reduceSub, Nat.reduceEqDiff, Nat.reduceLeDiff, Nat.reduceLT, Bool.true_eq_false, Bool.false_eq_true, e, k0, k5, r0_9, eP6, d1, d2, lN_i, s_set w187, e2]
    exact f1
/-- the reference's power -/
theorem s9_all {I : xMem} {s : Int64} {n : Nat} {l7 : Option Value} (hn : n ≤ 3) : ∀ d k, k + d = n → xgo k_X9_runScript 6 [some (.ref 189), some (.int (nI n)), some (.long s), none, some (.long (lN (gP k))), none, some (.int (nI k)), l7] [] I = xgo k_X9_runScript 32 [some (.ref 189), some (.int (nI n)), some (.long s), none, some (.long (lN (gP n))), none, some (.int (nI n)), l7] [] I := by
  have hok0 : xcat2 (none : Option Value) = false := rfl
  intro d
  induction d with
  | zero =>
    intro k hk
    have e : k = n := by omega
    subst e
    rw [q_X9_runScript_6]
    simp (disch := first | omega | assumption) only [q_X9_runScript_8, q_X9_runScript_9, q_X9_runScript_12, q_X9_runScript_14, q_X9_runScript_15, q_X9_runScript_18, q_X9_runScript_20, q_X9_runScript_23, q_X9_runScript_24, q_X9_runScript_26, q_X9_runScript_29, nI_add, pI_le, pI_lt, pI_eq, pI_neg, pI_nn, pI_le0, pI_gt0, pI_eq0, xbV_s, xbU_s, if_true, if_false, bI_eq0, Nat.reduceAdd, Nat.reduceSub, Nat.reduceEqDiff, Nat.reduceLeDiff, Nat.reduceLT, Bool.true_eq_false, Bool.false_eq_true, Nat.le_refl]
  | succ d ih =>
    intro k hk
    have n1 : ¬ n ≤ k := by omega
    have n2 : ¬ 3 ≤ k := by omega
    have := ih (k + 1) (by omega)
    rw [gP_s] at this
    rw [q_X9_runScript_6]
    simp (disch := first | omega | assumption) only [q_X9_runScript_8, q_X9_runScript_9, q_X9_runScript_12, q_X9_runScript_14, q_X9_runScript_15, q_X9_runScript_18, q_X9_runScript_20, q_X9_runScript_23, q_X9_runScript_24, q_X9_runScript_26, q_X9_runScript_29, nI_add, pI_le, pI_lt, pI_eq, pI_neg, pI_nn, pI_le0, pI_gt0, pI_eq0, xbV_s, xbU_s, if_true, if_false, bI_eq0, Nat.reduceAdd, Nat.reduceSub, Nat.reduceEqDiff, Nat.reduceLeDiff, Nat.reduceLT, Bool.true_eq_false, Bool.false_eq_true, n1, n2, eP6, lN_mul]
    exact this
theorem s9_all_o {I : xMem} {s : Int64} {x : Int32} {l7 : Option Value} (hx : xRg x 4 = false) : ∃ y z, xgo k_X9_runScript 6 [some (.ref 189), some (.int x), some (.long s), none, some (.long 1), none, some (.int (nI 0)), l7] [] I = xgo k_X9_runScript 32 [some (.ref 189), some (.int x), some (.long s), none, some (.long y), none, some (.int z), l7] [] I := by
  have hok0 : xcat2 (none : Option Value) = false := rfl
  unfold xRg at hx
  have hx := of_decide_eq_false hx
  by_cases q : x ≤ nI 0
  · refine ⟨1, nI 0, ?_⟩
    rw [q_X9_runScript_6]
    simp (disch := first | omega | assumption) only [q_X9_runScript_8, q_X9_runScript_9, q_X9_runScript_12, q_X9_runScript_14, q_X9_runScript_15, q_X9_runScript_18, q_X9_runScript_20, q_X9_runScript_23, q_X9_runScript_24, q_X9_runScript_26, q_X9_runScript_29, nI_add, pI_le, pI_lt, pI_eq, pI_neg, pI_nn, pI_le0, pI_gt0, pI_eq0, xbV_s, xbU_s, if_true, if_false, bI_eq0, Nat.reduceAdd, Nat.reduceSub, Nat.reduceEqDiff, Nat.reduceLeDiff, Nat.reduceLT, Bool.true_eq_false, Bool.false_eq_true, q]
  · have hq : ∀ j, j ≤ 3 → ¬ x ≤ nI j := fun j hj => by
      rw [Int32.le_iff_toInt_le, nI_toInt (by omega)] at q ⊢
      omega
    have key : ∀ d k (y : Int64), k + d = 3 → ∃ y', xgo k_X9_runScript 6 [some (.ref 189), some (.int x), some (.long s), none, some (.long y), none, some (.int (nI k)), l7] [] I = xgo k_X9_runScript 32 [some (.ref 189), some (.int x), some (.long s), none, some (.long y'), none, some (.int (nI 3)), l7] [] I := by
      intro d
      induction d with
      | zero =>
        intro k y hk
        have e : k = 3 := by omega
        subst e
        have n1 := hq 3 (by omega)
        refine ⟨y, ?_⟩
        rw [q_X9_runScript_6]
        simp (disch := first | omega | assumption) only [q_X9_runScript_8, q_X9_runScript_9, q_X9_runScript_12, q_X9_runScript_14, q_X9_runScript_15, q_X9_runScript_18, q_X9_runScript_20, q_X9_runScript_23, q_X9_runScript_24, q_X9_runScript_26, q_X9_runScript_29, nI_add, pI_le, pI_lt, pI_eq, pI_neg, pI_nn, pI_le0, pI_gt0, pI_eq0, xbV_s, xbU_s, if_true, if_false, bI_eq0, Nat.reduceAdd, Nat.reduceSub, Nat.reduceEqDiff, Nat.reduceLeDiff, Nat.reduceLT, Bool.true_eq_false, Bool.false_eq_true, n1, Nat.le_refl]
      | succ d ih =>
        intro k y hk
        have n1 := hq k (by omega)
        have n2 : ¬ 3 ≤ k := by omega
        obtain ⟨y', f⟩ := ih (k + 1) (y * 1000000) (by omega)
        refine ⟨y', ?_⟩
        rw [q_X9_runScript_6]
        simp (disch := first | omega | assumption) only [q_X9_runScript_8, q_X9_runScript_9, q_X9_runScript_12, q_X9_runScript_14, q_X9_runScript_15, q_X9_runScript_18, q_X9_runScript_20, q_X9_runScript_23, q_X9_runScript_24, q_X9_runScript_26, q_X9_runScript_29, nI_add, pI_le, pI_lt, pI_eq, pI_neg, pI_nn, pI_le0, pI_gt0, pI_eq0, xbV_s, xbU_s, if_true, if_false, bI_eq0, Nat.reduceAdd, Nat.reduceSub, Nat.reduceEqDiff, Nat.reduceLeDiff, Nat.reduceLT, Bool.true_eq_false, Bool.false_eq_true, n1, n2]
        exact f
    obtain ⟨y', f⟩ := key 3 0 1 rfl
    exact ⟨y', nI 3, f⟩
theorem b3 : (3 : Int64).toInt = (3 : Nat) := by decide
theorem s9_in3 {x : Int32} {I : xMem} : f_X9_in [.long x.toInt64, .long 1, .long 3] I = some (.inl (some (.int (bI (xRg x 4)))), I) := by
  have e : decide ((1 : Int64).toInt ≤ x.toInt64.toInt ∧ x.toInt64.toInt ≤ (3 : Int64).toInt) = xRg x 4 := by
    rw [Int32.toInt_toInt64, b3, b1]
    unfold xRg
    by_cases q : 1 ≤ x.toInt ∧ x.toInt < (4 : Int)
    · rw [decide_eq_true (show 1 ≤ x.toInt ∧ x.toInt < ((4 : Nat) : Int) from q), decide_eq_true (by omega)]
    · rw [decide_eq_false (show ¬ (1 ≤ x.toInt ∧ x.toInt < ((4 : Nat) : Int)) from q), decide_eq_false (by omega)]
  rw [s9_in, e]
/-- both sides run the groups alike -/
theorem scr2 {n m : Nat} (hn : n ≤ 3) (hm : m < 2 ^ 63) : ∀ d k (S : cS), k + d = n → sWF S → ∃ v : Int32, (∀ (I : xMem) (x2 x4 : Int64), cR I 202 S → (∀ j, j < n → I 188 j = nI (gG m (n - 1 - j))) → ∃ I', xgo k_X8_runScript 113 [some (.ref 0), some (.int (nI n)), some (.long x2), none, some (.long x4), none, some (.int (nI k))] [] I = some (.inl (some (.int v)), I') ∧ zG 202 9 I I') ∧ (∀ (I : xMem) (l7 : Option Value), mR I 192 S → ∃ I', xgo k_X9_runScript 86 [some (.ref 189), some (.int (nI n)), some (.long (lN m)), none, some (.long (lN (gP (n - k)))), none, some (.int (nI k)), l7] [] I = some (.inl (some (.int v)), I') ∧ xO 192 I I') := by
  have hok0 : xcat2 (none : Option Value) = false := rfl
  have k0 := x0
  have k5 := x187
  have k6 := x182
  have k9 := x189
  have n6 := nP6
  have n7 : ¬ nI 100000 = 0 := by decide
  have n8 : ¬ nI 10000 = 0 := by decide
  have n9 : ¬ nI 10 = 0 := by decide
  intro d
  induction d with
  | zero =>
    intro k S hk hW
    have e : k = n := by omega
    subst e
    refine ⟨-9999, fun I x2 x4 hR hg => ⟨I, ?_, zG.rf⟩, fun I l7 hR => ⟨I, ?_, xO.rf⟩⟩
    · rw [q_X8_runScript_113]
      simp (disch := first | omega | assumption) only [q_X8_runScript_115, q_X8_runScript_116, q_X8_runScript_119, q_X8_runScript_120, q_X8_runScript_123, q_X8_runScript_124, q_X8_runScript_127, q_X8_runScript_129, q_X8_runScript_132, q_X8_runScript_135, q_X8_runScript_138, q_X8_runScript_140, q_X8_runScript_141, q_X8_runScript_144, q_X8_runScript_147, q_X8_runScript_150, nI_add, pI_le, pI_lt, pI_eq, pI_neg, pI_nn, pI_le0, pI_gt0, pI_eq0, xbV_s, xbU_s, if_true, if_false, bI_eq0, Nat.reduceAdd, Nat.reduceSub, Nat.reduceEqDiff, Nat.reduceLeDiff, Nat.reduceLT, Bool.true_eq_false, Bool.false_eq_true, Nat.le_refl]
    · rw [q_X9_runScript_86]
      simp (disch := first | omega | assumption) only [q_X9_runScript_88, q_X9_runScript_89, q_X9_runScript_92, q_X9_runScript_94, q_X9_runScript_97, q_X9_runScript_98, q_X9_runScript_100, q_X9_runScript_101, q_X9_runScript_103, q_X9_runScript_104, q_X9_runScript_107, q_X9_runScript_108, q_X9_runScript_109, q_X9_runScript_111, q_X9_runScript_112, q_X9_runScript_114, q_X9_runScript_116, q_X9_runScript_117, q_X9_runScript_119, q_X9_runScript_122, q_X9_runScript_123, q_X9_runScript_125, q_X9_runScript_126, q_X9_runScript_128, q_X9_runScript_131, q_X9_runScript_132, q_X9_runScript_135, q_X9_runScript_138, q_X9_runScript_140, q_X9_runScript_141, q_X9_runScript_144, q_X9_runScript_147, q_X9_runScript_150, nI_add, pI_le, pI_lt, pI_eq, pI_neg, pI_nn, pI_le0, pI_gt0, pI_eq0, xbV_s, xbU_s, if_true, if_false, bI_eq0, Nat.reduceAdd, Nat.reduceSub, Nat.reduceEqDiff, Nat.reduceLeDiff, Nat.reduceLT, Bool.true_eq_false, Bool.false_eq_true, Nat.le_refl]
  | succ d ih =>
    intro k S hk hW
    have n1 : ¬ n ≤ k := by omega
    have hgl := gG_lt m (n - 1 - k)
    obtain ⟨b, S', w1, w2, w3⟩ := cmd2 hW hgl
    have c1 : ∀ I, cR I 202 S → (∀ j, j < n → I 188 j = nI (gG m (n - 1 - j))) → f_X5_get [.ref 187, .int (nI k)] I = some (.inl (some (.int (nI (gG m (n - 1 - k))))), I) := fun I hR hg => by
      rw [s_get w187 (by omega)]
      rw [show I (187 + 1) k = _ from hg k (by omega)]
    have p1 : gP (n - k) = gP (n - 1 - k) * 1000000 := by rw [← gP_s, show n - 1 - k + 1 = n - k by omega]
    have p2 := gP_le (j := n - k) (by omega)
    have p3 := gP_pos (n - 1 - k)
    have p4 := gP_le (j := n - 1 - k) (by omega)
    have d1 : lN (gP (n - k)) / lN 1000000 = lN (gP (n - 1 - k)) := by
      rw [pl_dv (by omega) (by omega) (by omega), p1, Nat.mul_div_cancel _ (by omega)]
    have d2 : lN m / lN (gP (n - 1 - k)) = lN (m / gP (n - 1 - k)) := pl_dv hm p3 (by omega)
    have b1 : m / gP (n - 1 - k) < 2 ^ 63 := Nat.lt_of_le_of_lt (Nat.div_le_self _ _) hm
    have d3 : lN (m / gP (n - 1 - k)) / lN 1000000 = lN (m / gP (n - 1 - k) / 1000000) := pl_dv b1 (by omega) (by omega)
    have d4 : lN (m / gP (n - 1 - k)) - lN (m / gP (n - 1 - k) / 1000000) * lN 1000000 = lN (gG m (n - 1 - k)) := pl_rm
    have n5 : ¬ lN (gP (n - 1 - k)) = 0 := by
      rw [show (0 : Int64) = lN 0 from rfl, pk_lEQ (by omega) (by omega)]
      omega
    generalize gG m (n - 1 - k) = g at *
    have a1 : nI g / nI 100000 = nI (g / 100000) := pk_div (by omega) (by omega) (by omega)
    have a2 : nI g / nI 10000 = nI (g / 10000) := pk_div (by omega) (by omega) (by omega)
    have a3 : nI (g / 10000) / nI 10 = nI (g / 10000 / 10) := pk_div (by omega) (by omega) (by omega)
    have a4 : nI (g / 10000) - nI (g / 10000 / 10) * nI 10 = nI (g / 10000 % 10) := pk_rm (by omega)
    have a5 : nI g - nI (g / 10000) * nI 10000 = nI (g % 10000) := pk_rm (by omega)
    cases b with
    | false =>
      refine ⟨nI k, fun I x2 x4 hR hg => ?_, fun I l7 hR => ?_⟩
      · obtain ⟨I', f1, f2, f3⟩ := w2 I hR
        refine ⟨I', ?_, f2⟩
        rw [bI_f] at f1
        rw [q_X8_runScript_113]
        simp (disch := first | omega | assumption) only [q_X8_runScript_115, q_X8_runScript_116, q_X8_runScript_119, q_X8_runScript_120, q_X8_runScript_123, q_X8_runScript_124, q_X8_runScript_127, q_X8_runScript_129, q_X8_runScript_132, q_X8_runScript_135, q_X8_runScript_138, q_X8_runScript_140, q_X8_runScript_141, q_X8_runScript_144, nI_add, pI_le, pI_lt, pI_eq, pI_neg, pI_nn, pI_le0, pI_gt0, pI_eq0, xbV_s, xbU_s, if_true, if_false, bI_eq0, Nat.reduceAdd, Nat.reduceSub, Nat.reduceEqDiff, Nat.reduceLeDiff, Nat.reduceLT, Bool.true_eq_false, Bool.false_eq_true, n1, k0, k5, k6, r0_6, r0_9, c1 I hR hg, f1]
      · obtain ⟨I', f1, f2, f3⟩ := w3 I hR
        refine ⟨I', ?_, f2⟩
        rw [bI_f] at f1
        rw [q_X9_runScript_86]
        simp (disch := first | omega | assumption) only [q_X9_runScript_88, q_X9_runScript_89, q_X9_runScript_92, q_X9_runScript_94, q_X9_runScript_97, q_X9_runScript_98, q_X9_runScript_100, q_X9_runScript_101, q_X9_runScript_103, q_X9_runScript_104, q_X9_runScript_107, q_X9_runScript_108, q_X9_runScript_109, q_X9_runScript_111, q_X9_runScript_112, q_X9_runScript_114, q_X9_runScript_116, q_X9_runScript_117, q_X9_runScript_119, q_X9_runScript_122, q_X9_runScript_123, q_X9_runScript_125, q_X9_runScript_126, q_X9_runScript_128, q_X9_runScript_131, q_X9_runScript_132, q_X9_runScript_135, q_X9_runScript_138, q_X9_runScript_140, q_X9_runScript_141, q_X9_runScript_144, nI_add, pI_le, pI_lt, pI_eq, pI_neg, pI_nn, pI_le0, pI_gt0, pI_eq0, xbV_s, xbU_s, if_true, if_false, bI_eq0, Nat.reduceAdd, Nat.reduceSub, Nat.reduceEqDiff, Nat.reduceLeDiff, Nat.reduceLT, Bool.true_eq_false, Bool.false_eq_true, n1, k9, eP6, d1, d2, d3, d4, lN_i, a1, a2, a3, a4, a5, f1]
    | true =>
      obtain ⟨v, u1, u2⟩ := ih (k + 1) S' (by omega) w1
      refine ⟨v, fun I x2 x4 hR hg => ?_, fun I l7 hR => ?_⟩
      · obtain ⟨I1, f1, f2, f3⟩ := w2 I hR
        obtain ⟨I', g1, g2⟩ := u1 I1 x2 x4 f3 (fun j hj => by rw [f2 188 (by omega)]; exact hg j hj)
        refine ⟨I', ?_, f2.tr g2⟩
        rw [bI_t] at f1
        rw [q_X8_runScript_113]
        simp (disch := first | omega | assumption) only [q_X8_runScript_115, q_X8_runScript_116, q_X8_runScript_119, q_X8_runScript_120, q_X8_runScript_123, q_X8_runScript_124, q_X8_runScript_127, q_X8_runScript_129, q_X8_runScript_132, q_X8_runScript_135, q_X8_runScript_138, q_X8_runScript_140, q_X8_runScript_141, q_X8_runScript_144, nI_add, pI_le, pI_lt, pI_eq, pI_neg, pI_nn, pI_le0, pI_gt0, pI_eq0, xbV_s, xbU_s, if_true, if_false, bI_eq0, Nat.reduceAdd, Nat.reduceSub, Nat.reduceEqDiff, Nat.reduceLeDiff, Nat.reduceLT, Bool.true_eq_false, Bool.false_eq_true, n1, k0, k5, k6, r0_6, r0_9, c1 I hR hg, f1]
        exact g1
      · obtain ⟨I1, f1, f2, f3⟩ := w3 I hR
        obtain ⟨I', g1, g2⟩ := u2 I1 (some (.int (nI g))) f3
        refine ⟨I', ?_, f2.tr g2⟩
        rw [show n - (k + 1) = n - 1 - k by omega] at g1
        rw [bI_t] at f1
        rw [q_X9_runScript_86]
        simp (disch := first | omega | assumption) only [q_X9_runScript_88, q_X9_runScript_89, q_X9_runScript_92, q_X9_runScript_94, q_X9_runScript_97, q_X9_runScript_98, q_X9_runScript_100, q_X9_runScript_101, q_X9_runScript_103, q_X9_runScript_104, q_X9_runScript_107, q_X9_runScript_108, q_X9_runScript_109, q_X9_runScript_111, q_X9_runScript_112, q_X9_runScript_114, q_X9_runScript_116, q_X9_runScript_117, q_X9_runScript_119, q_X9_runScript_122, q_X9_runScript_123, q_X9_runScript_125, q_X9_runScript_126, q_X9_runScript_128, q_X9_runScript_131, q_X9_runScript_132, q_X9_runScript_135, q_X9_runScript_138, q_X9_runScript_140, q_X9_runScript_141, q_X9_runScript_144, nI_add, pI_le, pI_lt, pI_eq, pI_neg, pI_nn, pI_le0, pI_gt0, pI_eq0, xbV_s, xbU_s, if_true, if_false, bI_eq0, Nat.reduceAdd, Nat.reduceSub, Nat.reduceEqDiff, Nat.reduceLeDiff, Nat.reduceLT, Bool.true_eq_false, Bool.false_eq_true, n1, k9, eP6, d1, d2, d3, d4, lN_i, a1, a2, a3, a4, a5, f1]
        exact g1
theorem s6_start {I : xMem} {S : cS} (h : cR I 1 S) (hW : sWF S) : ∃ I', f_X6_startFrom [.ref 182, .ref 1] I = some (.inl none, I') ∧ zG 202 9 I I' ∧ cR I' 202 S := by
  have k1 := x1
  have k6 := x182
  have k202 := x202
  obtain ⟨I', g1, g2, g3⟩ := s0_copy xCol_202 xCol_1 (by omega) h hW
  refine ⟨I', ?_, g2, g3⟩
  rw [e_X6_startFrom]
  simp (disch := omega) only [q_X6_startFrom_0, q_X6_startFrom_1, q_X6_startFrom_4, q_X6_startFrom_5, q_X6_startFrom_8, nI_add, pI_le, pI_lt, pI_eq, pI_neg, pI_nn, pI_le0, pI_gt0, pI_eq0, xbV_s, xbU_s, if_true, if_false, bI_eq0, Nat.reduceAdd, Nat.reduceSub, Nat.reduceEqDiff, Nat.reduceLeDiff, Nat.reduceLT, Bool.true_eq_false, Bool.false_eq_true, k1, k6, k202, r182, g1]
section PS
variable {α : aS}
theorem op_runScript (x : Int32) (s : Int64) : AgreeW f_X8_runScript f_X9_runScript [.int x, .long s] [1] α := AgreeW.wf fun hw => by
  have k0 := x0
  have k1 := x1
  have k9 := x189
  have k6 := x182
  have k202 := x202
  have hW := hw.1
  have ex1 : xEx [1] 1 = 1 := rfl
  have z0 : (0 : Int64).toInt = 0 := by decide
  have hok0 : xcat2 (none : Option Value) = false := rfl
  cases hx : xRg x 4 with
  | false =>
    refine Agree.w (Agree.no 1 (by omega) (by decide) (fun I hI => ?_) (fun I hI => ?_))
    · show f_X8_runScript [.ref 0, .int x, .long s] I = some (.inr 1, I)
      unfold xRg at hx
      have hx := of_decide_eq_false hx
      rw [e_X8_runScript]
      by_cases q : x < nI 1
      · simp (disch := first | omega | assumption) only [q_X8_runScript_0, q_X8_runScript_1, q_X8_runScript_2, q_X8_runScript_5, q_X8_runScript_6, q_X8_runScript_7, q_X8_runScript_10, nI_add, pI_le, pI_lt, pI_eq, pI_neg, pI_nn, pI_le0, pI_gt0, pI_eq0, xbV_s, xbU_s, if_true, if_false, bI_eq0, Nat.reduceAdd, Nat.reduceSub, Nat.reduceEqDiff, Nat.reduceLeDiff, Nat.reduceLT, Bool.true_eq_false, Bool.false_eq_true, q]
      · have r : ¬ x ≤ nI 3 := by
          rw [Int32.lt_iff_toInt_lt, nI_toInt (by omega)] at q
          rw [Int32.le_iff_toInt_le, nI_toInt (by omega)]
          omega
        simp (disch := first | omega | assumption) only [q_X8_runScript_0, q_X8_runScript_1, q_X8_runScript_2, q_X8_runScript_5, q_X8_runScript_6, q_X8_runScript_7, q_X8_runScript_10, nI_add, pI_le, pI_lt, pI_eq, pI_neg, pI_nn, pI_le0, pI_gt0, pI_eq0, xbV_s, xbU_s, if_true, if_false, bI_eq0, Nat.reduceAdd, Nat.reduceSub, Nat.reduceEqDiff, Nat.reduceLeDiff, Nat.reduceLT, Bool.true_eq_false, Bool.false_eq_true, q, r]
    · obtain ⟨y, z, f⟩ := s9_all_o (I := I) (s := s) (l7 := none) hx
      rw [e_X9_runScript]
      simp (disch := first | omega | assumption) only [q_X9_runScript_0, q_X9_runScript_1, q_X9_runScript_3, q_X9_runScript_4, nI_add, pI_le, pI_lt, pI_eq, pI_neg, pI_nn, pI_le0, pI_gt0, pI_eq0, xbV_s, xbU_s, if_true, if_false, bI_eq0, Nat.reduceAdd, Nat.reduceSub, Nat.reduceEqDiff, Nat.reduceLeDiff, Nat.reduceLT, Bool.true_eq_false, Bool.false_eq_true, hok0]
      rw [f]
      simp (disch := first | omega | assumption) only [q_X9_runScript_32, q_X9_runScript_33, q_X9_runScript_34, q_X9_runScript_35, q_X9_runScript_36, q_X9_runScript_39, q_X9_runScript_42, q_X9_runScript_45, q_X9_runScript_46, q_X9_runScript_47, q_X9_runScript_49, q_X9_runScript_50, q_X9_runScript_51, q_X9_runScript_54, q_X9_runScript_57, q_X9_runScript_58, q_X9_runScript_61, q_X9_runScript_62, q_X9_runScript_65, q_X9_runScript_68, q_X9_runScript_69, nI_add, pI_le, pI_lt, pI_eq, pI_neg, pI_nn, pI_le0, pI_gt0, pI_eq0, xbV_s, xbU_s, if_true, if_false, bI_eq0, Nat.reduceAdd, Nat.reduceSub, Nat.reduceEqDiff, Nat.reduceLeDiff, Nat.reduceLT, Bool.true_eq_false, Bool.false_eq_true, k9, s9_in3, hx, s9_rf1]
  | true =>
    obtain ⟨n, hn1, hn4, rfl⟩ := xRg_ex hx (by omega)
    have n1 : ¬ n < 1 := by omega
    have n3 : n ≤ 3 := by omega
    have nc : n = 1 ∨ n = 2 ∨ n = 3 := by omega
    have hM := gP_le n3
    have hM0 := gP_pos n
    have eM : (lN (gP n) - 1).toInt = (gP n : Int) - 1 := by
      rw [show (1 : Int64) = lN 1 from rfl, lN_sub (by omega), pk_lT (by omega)]
      omega
    have fall : ∀ I, xgo k_X9_runScript 6 [some (.ref 189), some (.int (nI n)), some (.long s), none, some (.long 1), none, some (.int (nI 0)), none] [] I = xgo k_X9_runScript 32 [some (.ref 189), some (.int (nI n)), some (.long s), none, some (.long (lN (gP n))), none, some (.int (nI n)), none] [] I := fun I => s9_all (I := I) (s := s) (l7 := none) n3 n 0 (by omega)
    by_cases hs : s < 0
    · have hs' : s.toInt < 0 := by rw [Int64.lt_iff_toInt_lt] at hs; exact hs
      have hs2 : ¬ ((0 : Int64).toInt ≤ s.toInt) := by rw [z0]; omega
      refine Agree.w (Agree.no 1 (by omega) (by decide) (fun I hI => ?_) (fun I hI => ?_))
      · show f_X8_runScript [.ref 0, .int (nI n), .long s] I = some (.inr 1, I)
        rw [e_X8_runScript]
        simp (disch := first | omega | assumption) only [q_X8_runScript_0, q_X8_runScript_1, q_X8_runScript_2, q_X8_runScript_5, q_X8_runScript_6, q_X8_runScript_7, q_X8_runScript_10, q_X8_runScript_21, q_X8_runScript_22, q_X8_runScript_23, q_X8_runScript_24, q_X8_runScript_27, nI_add, pI_le, pI_lt, pI_eq, pI_neg, pI_nn, pI_le0, pI_gt0, pI_eq0, xbV_s, xbU_s, if_true, if_false, bI_eq0, Nat.reduceAdd, Nat.reduceSub, Nat.reduceEqDiff, Nat.reduceLeDiff, Nat.reduceLT, Bool.true_eq_false, Bool.false_eq_true, n1, n3, lgc_ge, hs2]
      · have e : decide ((0 : Int64).toInt ≤ s.toInt ∧ s.toInt ≤ (lN (gP n) - 1).toInt) = false := decide_eq_false (fun z => hs2 z.1)
        have hin : ∀ I : xMem, f_X9_in [.long s, .long 0, .long (lN (gP n) - 1)] I = some (.inl (some (.int (bI false))), I) := fun I => by rw [s9_in, e]
        rw [e_X9_runScript]
        simp (disch := first | omega | assumption) only [q_X9_runScript_0, q_X9_runScript_1, q_X9_runScript_3, q_X9_runScript_4, nI_add, pI_le, pI_lt, pI_eq, pI_neg, pI_nn, pI_le0, pI_gt0, pI_eq0, xbV_s, xbU_s, if_true, if_false, bI_eq0, Nat.reduceAdd, Nat.reduceSub, Nat.reduceEqDiff, Nat.reduceLeDiff, Nat.reduceLT, Bool.true_eq_false, Bool.false_eq_true, hok0]
        rw [fall]
        simp (disch := first | omega | assumption) only [q_X9_runScript_32, q_X9_runScript_33, q_X9_runScript_34, q_X9_runScript_35, q_X9_runScript_36, q_X9_runScript_39, q_X9_runScript_42, q_X9_runScript_45, q_X9_runScript_46, q_X9_runScript_47, q_X9_runScript_49, q_X9_runScript_50, q_X9_runScript_51, q_X9_runScript_54, q_X9_runScript_57, q_X9_runScript_58, q_X9_runScript_61, q_X9_runScript_62, q_X9_runScript_65, q_X9_runScript_68, q_X9_runScript_69, nI_add, pI_le, pI_lt, pI_eq, pI_neg, pI_nn, pI_le0, pI_gt0, pI_eq0, xbV_s, xbU_s, if_true, if_false, bI_eq0, Nat.reduceAdd, Nat.reduceSub, Nat.reduceEqDiff, Nat.reduceLeDiff, Nat.reduceLT, Bool.true_eq_false, Bool.false_eq_true, k9, s9_in3, hx, hin, s9_rf1]
    · obtain ⟨m, hm, rfl⟩ := pk_lOf hs
      have hs2 : (0 : Int64).toInt ≤ (lN m).toInt := by rw [z0, pk_lT hm]; omega
      have g0 : ∀ I, ∃ I', xgo k_X8_runScript 46 [some (.ref 0), some (.int (nI n)), some (.long (lN m)), none, some (.long (lN m)), none, some (.int (nI n - nI 1))] [] I = xgo k_X8_runScript 81 [some (.ref 0), some (.int (nI n)), some (.long (lN m)), none, some (.long (lN (m / gP n))), none, some (.int (nI 0 - nI 1))] [] I' ∧ zG 188 1 I I' ∧ (∀ j, j < n → I' 188 j = nI (gG m (n - 1 - j))) := fun I => by
        have := s8_groups (I := I) (s := lN m) n3 hm n I (Nat.le_refl _) zG.rf (fun j h1 h2 => absurd h1 (by omega))
        rw [Nat.sub_self, gP_0, Nat.div_one] at this
        exact this
      by_cases hmM : m < gP n
      · have q0 : m / gP n = 0 := Nat.div_eq_of_lt hmM
        obtain ⟨v, u1, u2⟩ := scr2 n3 hm n 0 (zS α) (by omega) hW
        refine ⟨0, v, α, by decide, fun I hI => ?_, fun I hI => ?_⟩
        · obtain ⟨I1, f1, f2, f3⟩ := g0 I
          rw [q0] at f1
          have hR1 : cR I1 1 (zS α) := hI.2.1.cg (fun c h1 h2 => f2 c (by omega))
          obtain ⟨I2, g1, g2, g3⟩ := s6_start hR1 hW
          obtain ⟨I', j1, j2⟩ := u1 I2 (lN m) (lN 0) g3 (fun j hj => by rw [g2 188 (by omega)]; exact f3 j hj)
          have hfr : ∀ c, c < 188 ∨ (188 < c ∧ c < 202) → I' c = I c := fun c hc => by rw [j2 c (by omega), g2 c (by omega), f2 c (by omega)]
          refine ⟨I', ?_, hI.cg (fun c hc => hfr c (by omega)) (by rw [hfr 163 (by omega)]), fun c hc hc2 => hfr c (by omega)⟩
          have z1 : (lN 0 = (0 : Int64)) = True := eq_true rfl
          rw [if_pos rfl, e_X8_runScript]
          simp (disch := first | omega | assumption) only [q_X8_runScript_0, q_X8_runScript_1, q_X8_runScript_2, q_X8_runScript_5, q_X8_runScript_6, q_X8_runScript_7, q_X8_runScript_10, q_X8_runScript_21, q_X8_runScript_22, q_X8_runScript_23, q_X8_runScript_24, q_X8_runScript_27, q_X8_runScript_38, q_X8_runScript_39, q_X8_runScript_41, q_X8_runScript_42, q_X8_runScript_43, q_X8_runScript_44, nI_add, pI_le, pI_lt, pI_eq, pI_neg, pI_nn, pI_le0, pI_gt0, pI_eq0, xbV_s, xbU_s, if_true, if_false, bI_eq0, Nat.reduceAdd, Nat.reduceSub, Nat.reduceEqDiff, Nat.reduceLeDiff, Nat.reduceLT, Bool.true_eq_false, Bool.false_eq_true, n1, n3, lgc_ge, hs2, hok0]
          rw [f1]
          simp (disch := first | omega | assumption) only [q_X8_runScript_81, q_X8_runScript_83, q_X8_runScript_84, q_X8_runScript_85, q_X8_runScript_88, q_X8_runScript_99, q_X8_runScript_100, q_X8_runScript_103, q_X8_runScript_104, q_X8_runScript_107, q_X8_runScript_110, q_X8_runScript_111, nI_add, pI_le, pI_lt, pI_eq, pI_neg, pI_nn, pI_le0, pI_gt0, pI_eq0, xbV_s, xbU_s, if_true, if_false, bI_eq0, Nat.reduceAdd, Nat.reduceSub, Nat.reduceEqDiff, Nat.reduceLeDiff, Nat.reduceLT, Bool.true_eq_false, Bool.false_eq_true, lgc_eq, z1, k0, k1, k6, r0_0, r0_6, g1, hok0]
          exact j1
        · have e : decide ((0 : Int64).toInt ≤ (lN m).toInt ∧ (lN m).toInt ≤ (lN (gP n) - 1).toInt) = true := decide_eq_true ⟨hs2, by rw [eM, pk_lT hm]; omega⟩
          have hin : ∀ I : xMem, f_X9_in [.long (lN m), .long 0, .long (lN (gP n) - 1)] I = some (.inl (some (.int (bI true))), I) := fun I => by rw [s9_in, e]
          have hI0 := hI.rf 0
          obtain ⟨I1, f1, f2, f3⟩ := s9_cpc (f := 191) (fa := 0) (t := 192) (ta := 0) (I := xup I 189 0 (nI 0)) x191 x192 (by rw [l191]; decide) (by rw [l192]; decide) (by omega) (by omega) (by omega)
          have hR2 : mR I1 192 (zS α) := by
            obtain ⟨a1, a2, a3, a4, a5, a6, a7⟩ := hI0.2.1
            have hq := hW.1
            have hn' := sn_120 hW
            have f3 := f3.1
            have f3' : ∀ j, j < 142 → I1 192 j = (xup I 189 0 (nI 0)) 191 j := fun j hj => by
              have := f3 j hj
              rw [Nat.zero_add] at this
              exact this
            exact ⟨x192, l192, by rw [f3' 0 (by omega)]; exact a3, by rw [f3' 1 (by omega)]; exact a4, fun p hp => by rw [f3' (2 + p) (by omega)]; exact a5 p hp, fun p hp => by rw [f3' (12 + p) (by omega)]; exact a6 p hp, fun j hj => by rw [f3' (22 + j) (by omega)]; exact a7 j hj⟩
          obtain ⟨I', j1, j2⟩ := u2 I1 none hR2
          have hfr : ∀ c, c ≠ 189 → c ≠ 192 → I' c = I c := fun c h1 h2 => by rw [j2 c h2, f2 c h2, xup_o h1]
          have hfr9 : I' 189 = xup I 189 0 (nI 0) 189 := by rw [j2 189 (by omega), f2 189 (by omega)]
          refine ⟨I', ?_, hI.cg (fun c hc => hfr c (by omega) (by omega)) (by rw [hfr9, xup_d (by omega)]) (by rw [hfr9, xup_d (by omega)]), fun c hc => hfr c (by omega) (by omega), by rw [hfr9, xup_s]⟩
          rw [Nat.sub_zero] at j1
          rw [if_pos rfl, e_X9_runScript]
          simp (disch := first | omega | assumption) only [q_X9_runScript_0, q_X9_runScript_1, q_X9_runScript_3, q_X9_runScript_4, nI_add, pI_le, pI_lt, pI_eq, pI_neg, pI_nn, pI_le0, pI_gt0, pI_eq0, xbV_s, xbU_s, if_true, if_false, bI_eq0, Nat.reduceAdd, Nat.reduceSub, Nat.reduceEqDiff, Nat.reduceLeDiff, Nat.reduceLT, Bool.true_eq_false, Bool.false_eq_true, hok0]
          rw [fall]
          simp (disch := first | omega | assumption) only [q_X9_runScript_32, q_X9_runScript_33, q_X9_runScript_34, q_X9_runScript_35, q_X9_runScript_36, q_X9_runScript_39, q_X9_runScript_42, q_X9_runScript_45, q_X9_runScript_46, q_X9_runScript_47, q_X9_runScript_49, q_X9_runScript_50, q_X9_runScript_51, q_X9_runScript_54, q_X9_runScript_57, q_X9_runScript_58, q_X9_runScript_61, q_X9_runScript_62, q_X9_runScript_65, q_X9_runScript_68, q_X9_runScript_69, q_X9_runScript_70, q_X9_runScript_71, q_X9_runScript_74, q_X9_runScript_75, q_X9_runScript_76, q_X9_runScript_79, q_X9_runScript_80, q_X9_runScript_83, q_X9_runScript_84, nI_add, pI_le, pI_lt, pI_eq, pI_neg, pI_nn, pI_le0, pI_gt0, pI_eq0, xbV_s, xbU_s, if_true, if_false, bI_eq0, Nat.reduceAdd, Nat.reduceSub, Nat.reduceEqDiff, Nat.reduceLeDiff, Nat.reduceLT, Bool.true_eq_false, Bool.false_eq_true, k9, r9_4, r9_5, s9_in3, hx, hin, s9_rf0, f1, hok0]
          exact j1
      · have q0 : ¬ m / gP n = 0 := by
          have := Nat.div_pos (Nat.le_of_not_lt hmM) hM0
          omega
        refine ⟨1, 0, α, by decide, fun I hI => ?_, fun I hI => ?_⟩
        · obtain ⟨I1, f1, f2, f3⟩ := g0 I
          refine ⟨I1, ?_, hI.cg (fun c hc => f2 c (by omega)) (by rw [f2 163 (by omega)]), fun c hc hc2 => f2 c (by omega)⟩
          have b1 : m / gP n < 2 ^ 63 := Nat.lt_of_le_of_lt (Nat.div_le_self _ _) hm
          have z1 : (lN (m / gP n) = (0 : Int64)) = False := by
            rw [show (0 : Int64) = lN 0 from rfl, pk_lEQ b1 (by omega)]
            exact eq_false q0
          rw [if_neg (by omega), ex1, e_X8_runScript]
          simp (disch := first | omega | assumption) only [q_X8_runScript_0, q_X8_runScript_1, q_X8_runScript_2, q_X8_runScript_5, q_X8_runScript_6, q_X8_runScript_7, q_X8_runScript_10, q_X8_runScript_21, q_X8_runScript_22, q_X8_runScript_23, q_X8_runScript_24, q_X8_runScript_27, q_X8_runScript_38, q_X8_runScript_39, q_X8_runScript_41, q_X8_runScript_42, q_X8_runScript_43, q_X8_runScript_44, nI_add, pI_le, pI_lt, pI_eq, pI_neg, pI_nn, pI_le0, pI_gt0, pI_eq0, xbV_s, xbU_s, if_true, if_false, bI_eq0, Nat.reduceAdd, Nat.reduceSub, Nat.reduceEqDiff, Nat.reduceLeDiff, Nat.reduceLT, Bool.true_eq_false, Bool.false_eq_true, n1, n3, lgc_ge, hs2, hok0]
          rw [f1]
          simp (disch := first | omega | assumption) only [q_X8_runScript_81, q_X8_runScript_83, q_X8_runScript_84, q_X8_runScript_85, q_X8_runScript_88, nI_add, pI_le, pI_lt, pI_eq, pI_neg, pI_nn, pI_le0, pI_gt0, pI_eq0, xbV_s, xbU_s, if_true, if_false, bI_eq0, Nat.reduceAdd, Nat.reduceSub, Nat.reduceEqDiff, Nat.reduceLeDiff, Nat.reduceLT, Bool.true_eq_false, Bool.false_eq_true, lgc_eq, z1]
        · have e : decide ((0 : Int64).toInt ≤ (lN m).toInt ∧ (lN m).toInt ≤ (lN (gP n) - 1).toInt) = false := decide_eq_false (fun z => by
            have z2 := z.2
            rw [eM, pk_lT hm] at z2
            omega)
          have hin : ∀ I : xMem, f_X9_in [.long (lN m), .long 0, .long (lN (gP n) - 1)] I = some (.inl (some (.int (bI false))), I) := fun I => by rw [s9_in, e]
          refine ⟨xup I 189 0 (nI 1), ?_, hI.rf 1, zG.rf.up (by omega) (by omega), xup_s⟩
          rw [if_neg (by omega), e_X9_runScript]
          simp (disch := first | omega | assumption) only [q_X9_runScript_0, q_X9_runScript_1, q_X9_runScript_3, q_X9_runScript_4, nI_add, pI_le, pI_lt, pI_eq, pI_neg, pI_nn, pI_le0, pI_gt0, pI_eq0, xbV_s, xbU_s, if_true, if_false, bI_eq0, Nat.reduceAdd, Nat.reduceSub, Nat.reduceEqDiff, Nat.reduceLeDiff, Nat.reduceLT, Bool.true_eq_false, Bool.false_eq_true, hok0]
          rw [fall]
          simp (disch := first | omega | assumption) only [q_X9_runScript_32, q_X9_runScript_33, q_X9_runScript_34, q_X9_runScript_35, q_X9_runScript_36, q_X9_runScript_39, q_X9_runScript_42, q_X9_runScript_45, q_X9_runScript_46, q_X9_runScript_47, q_X9_runScript_49, q_X9_runScript_50, q_X9_runScript_51, q_X9_runScript_54, q_X9_runScript_57, q_X9_runScript_58, q_X9_runScript_61, q_X9_runScript_62, q_X9_runScript_65, q_X9_runScript_68, q_X9_runScript_69, nI_add, pI_le, pI_lt, pI_eq, pI_neg, pI_nn, pI_le0, pI_gt0, pI_eq0, xbV_s, xbU_s, if_true, if_false, bI_eq0, Nat.reduceAdd, Nat.reduceSub, Nat.reduceEqDiff, Nat.reduceLeDiff, Nat.reduceLT, Bool.true_eq_false, Bool.false_eq_true, k9, s9_in3, hx, hin, s9_rf1]
end PS
end P55
