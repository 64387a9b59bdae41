/-! ===== numbers, rows ===== -/
section P20
theorem pI_le {a b : Nat} (ha : a < 2147483648) (hb : b < 2147483648) : (nI a ≤ nI b) = (a ≤ b) := propext (nI_leI ha hb)
theorem pI_lt {a b : Nat} (ha : a < 2147483648) (hb : b < 2147483648) : (nI a < nI b) = (a < b) := propext (nI_ltI ha hb)
theorem pI_eq {a b : Nat} (ha : a < 2147483648) (hb : b < 2147483648) : (nI a = nI b) = (a = b) := propext (nI_eq ha hb)
theorem pI_neg {a : Nat} (ha : a < 2147483648) : (nI a < 0) = False := eq_false (nI_pos ha)
theorem pI_nn {a : Nat} (ha : a < 2147483648) : (0 ≤ nI a) = True := eq_true (nI_pos' ha)
theorem pI_le0 {a : Nat} (ha : a < 2147483648) : (nI a ≤ 0) = (a = 0) := by
  rw [show (0 : Int32) = nI 0 from rfl, pI_le ha (by omega)]
  exact propext Nat.le_zero
theorem pI_gt0 {a : Nat} (ha : a < 2147483648) : (0 < nI a) = (0 < a) := by
  rw [show (0 : Int32) = nI 0 from rfl, pI_lt (by omega) ha]
theorem pI_eq0 {a : Nat} (ha : a < 2147483648) : (nI a = 0) = (a = 0) := by
  rw [show (0 : Int32) = nI 0 from rfl, pI_eq ha (by omega)]
theorem pI_sub {a b : Nat} (h : b ≤ a) : nI a - nI b = nI (a - b) := pk_sub h
/-- row r: an object, and its n cells behind it -/
def xRow (r n : Nat) : Prop := xK r = 5 ∧ xR r 0 = r + 1 ∧ xK (r + 1) = 10 ∧ xL (r + 1) = n ∧ n < 2147483648
theorem s_get {r n i : Nat} {I : xMem} (hr : xRow r n) (hi : i < n) : f_X5_get [.ref r, .int (nI i)] I = some (.inl (some (.int (I (r + 1) i))), I) := by
  obtain ⟨h1, h2, h3, h4, h5⟩ := hr
  rw [e_X5_get]
  simp (disch := omega) only [q_X5_get_0, q_X5_get_1, q_X5_get_4, q_X5_get_5, q_X5_get_6, q_X5_get_9, q_X5_get_10, q_X5_get_13, q_X5_get_14, q_X5_get_17, q_X5_get_18, q_X5_get_19, q_X5_get_22, q_X5_get_23, h1, h2, h3, h4, pI_neg, pI_le, if_false, Nat.not_le.mpr hi]
theorem s_set {r n i : Nat} {x : Int32} {I : xMem} (hr : xRow r n) (hi : i < n) : f_X5_set [.ref r, .int (nI i), .int x] I = some (.inl none, xup I (r + 1) i x) := by
  obtain ⟨h1, h2, h3, h4, h5⟩ := hr
  rw [e_X5_set]
  simp (disch := omega) only [q_X5_set_0, q_X5_set_1, q_X5_set_4, q_X5_set_5, q_X5_set_6, q_X5_set_9, q_X5_set_10, q_X5_set_13, q_X5_set_14, q_X5_set_17, q_X5_set_18, q_X5_set_19, q_X5_set_20, h1, h2, h3, h4, pI_neg, pI_le, if_false, Nat.not_le.mpr hi]
theorem bI_eq0 {b : Bool} : (bI b = 0) = (b = false) := by cases b <;> exact propext (by decide)
theorem bI_t : bI true = nI 1 := rfl
theorem bI_f : bI false = nI 0 := rfl
def xLt (x : Int32) (n : Nat) : Bool := decide (0 ≤ x.toInt ∧ x.toInt < n)
theorem xLt_nI {j n : Nat} (h : j < 2147483648) : xLt (nI j) n = decide (j < n) := by
  unfold xLt
  rw [nI_toInt h]
  by_cases q : j < n
  · rw [decide_eq_true q, decide_eq_true]; omega
  · rw [decide_eq_false q, decide_eq_false]; omega
theorem xLt_ex {x : Int32} {n : Nat} (h : xLt x n = true) (hn : n < 2147483648) : ∃ j, j < n ∧ x = nI j := by
  unfold xLt at h
  have h := of_decide_eq_true h
  refine ⟨x.toInt.toNat, by omega, ?_⟩
  apply Int32.toInt_inj.mp
  rw [nI_toInt (by omega)]
  omega
theorem xLt_lt {x : Int32} (h : x < 0) (n : Nat) : xLt x n = false := by
  unfold xLt
  rw [Int32.lt_iff_toInt_lt, Int32.toInt_zero] at h
  exact decide_eq_false (by omega)
theorem xLt_ge {x : Int32} {n : Nat} (h : nI n ≤ x) (hn : n < 2147483648) : xLt x n = false := by
  unfold xLt
  rw [Int32.le_iff_toInt_le, nI_toInt hn] at h
  exact decide_eq_false (by omega)
theorem xLt_in {x : Int32} {n : Nat} (h0 : ¬ x < 0) (h : ¬ nI n ≤ x) (hn : n < 2147483648) : xLt x n = true := by
  unfold xLt
  rw [Int32.le_iff_toInt_le, nI_toInt hn] at h
  rw [Int32.lt_iff_toInt_lt, Int32.toInt_zero] at h0
  exact decide_eq_true (by omega)
theorem lgc_lt {x y : Int64} : (lg_cmp x y < 0) = (x.toInt < y.toInt) := by
  unfold lg_cmp
  apply propext
  by_cases h : x > y
  · rw [if_pos h]
    have h1 : y.toInt < x.toInt := Int64.lt_iff_toInt_lt.mp h
    constructor
    · intro q; exact absurd q (by decide)
    · intro q; omega
  · rw [if_neg h]
    have h1 : ¬ y.toInt < x.toInt := fun q => h (Int64.lt_iff_toInt_lt.mpr q)
    by_cases e : x = y
    · rw [if_pos e, e]
      constructor
      · intro q; exact absurd q (by decide)
      · intro q; omega
    · rw [if_neg e]
      have h2 : x.toInt ≠ y.toInt := fun q => e (Int64.toInt_inj.mp q)
      constructor
      · intro _; omega
      · intro _; decide
theorem lgc_gt {x y : Int64} : (0 < lg_cmp x y) = (y.toInt < x.toInt) := by
  unfold lg_cmp
  apply propext
  by_cases h : x > y
  · rw [if_pos h]
    have h1 : y.toInt < x.toInt := Int64.lt_iff_toInt_lt.mp h
    constructor
    · intro _; exact h1
    · intro _; decide
  · rw [if_neg h]
    have h1 : ¬ y.toInt < x.toInt := fun q => h (Int64.lt_iff_toInt_lt.mpr q)
    by_cases e : x = y
    · rw [if_pos e, e]
      constructor
      · intro q; exact absurd q (by decide)
      · intro q; omega
    · rw [if_neg e]
      constructor
      · intro q; exact absurd q (by decide)
      · intro q; omega
def xsum (f : Nat → Nat) : Nat → Nat
  | 0 => 0
  | n + 1 => xsum f n + f n
theorem xsum_le {f : Nat → Nat} {b : Nat} : ∀ {n : Nat}, (∀ k, k < n → f k ≤ b) → xsum f n ≤ b * n
  | 0, _ => Nat.le_refl _
  | n + 1, h => by
    have h1 := xsum_le (n := n) (fun k hk => h k (by omega))
    have h2 := h n (by omega)
    show xsum f n + f n ≤ b * (n + 1)
    rw [Nat.mul_succ]
    omega
theorem xsum_mono {f : Nat → Nat} {n m : Nat} (h : n ≤ m) : xsum f n ≤ xsum f m := by
  induction h with
  | refl => exact Nat.le_refl _
  | step _ ih => exact Nat.le_trans ih (Nat.le_add_right _ _)
theorem xsum_congr {f g : Nat → Nat} : ∀ {n : Nat}, (∀ k, k < n → f k = g k) → xsum f n = xsum g n
  | 0, _ => rfl
  | n + 1, h => by
    show xsum f n + f n = xsum g n + g n
    rw [xsum_congr (fun k hk => h k (by omega)), h n (by omega)]
end P20
