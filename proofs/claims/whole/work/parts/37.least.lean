/-! ===== the fewest bits of all divisions ===== -/
section P37
/-- the bits of the values a .. a+k-1 as a page -/
def sSeg (S : cS) (a k : Nat) : Nat := pPin (fun j => sv S (a + j)) k 0
theorem sSeg_le {S : cS} (hW : sWF S) {a k : Nat} (hk : k ≤ 12) (h : a + k ≤ sn S) : sSeg S a k ≤ 189 := pPin_le hk (fun j hj => hW.2.2.2.2.1 _ (by omega)) 0
def isQ (c : Nat → Nat → Nat) (n : Nat) (Q : Nat → Nat) (a : Nat) : Prop := (∀ k, 1 ≤ k → k ≤ 12 → a + k ≤ n → Q a ≤ c a k + Q (a + k)) ∧ ∃ k, 1 ≤ k ∧ k ≤ 12 ∧ a + k ≤ n ∧ Q a = c a k + Q (a + k)
def isP (c : Nat → Nat → Nat) (P : Nat → Nat) (e : Nat) : Prop := (∀ k, 1 ≤ k → k ≤ 12 → k ≤ e → P e ≤ P (e - k) + c (e - k) k) ∧ ∃ k, 1 ≤ k ∧ k ≤ 12 ∧ k ≤ e ∧ P e = P (e - k) + c (e - k) k
def mnF (f : Nat → Nat) : Nat → Nat
  | 0 => f 0
  | t + 1 => min (mnF f t) (f (t + 1))
theorem mnF_le (f : Nat → Nat) : ∀ {t s : Nat}, s ≤ t → mnF f t ≤ f s
  | 0, s, h => by
    have : s = 0 := by omega
    subst this
    exact Nat.le_refl _
  | t + 1, s, h => by
    unfold mnF
    by_cases e : s = t + 1
    · subst e; exact Nat.min_le_right _ _
    · exact Nat.le_trans (Nat.min_le_left _ _) (mnF_le f (by omega))
theorem mnF_at (f : Nat → Nat) : ∀ t, ∃ s, s ≤ t ∧ mnF f t = f s
  | 0 => ⟨0, Nat.le_refl _, rfl⟩
  | t + 1 => by
    obtain ⟨s, h1, h2⟩ := mnF_at f t
    unfold mnF
    by_cases q : mnF f t ≤ f (t + 1)
    · exact ⟨s, by omega, by rw [Nat.min_eq_left q, h2]⟩
    · exact ⟨t + 1, Nat.le_refl _, by rw [Nat.min_eq_right (by omega)]⟩
theorem isQ_mn {c : Nat → Nat → Nat} {n : Nat} {Q : Nat → Nat} {a : Nat} (h : isQ c n Q a) (ha : a < n) : Q a = mnF (fun t => c a (t + 1) + Q (a + t + 1)) (min 12 (n - a) - 1) := by
  obtain ⟨h1, k, k1, k2, k3, k4⟩ := h
  obtain ⟨s, s1, s2⟩ := mnF_at (fun t => c a (t + 1) + Q (a + t + 1)) (min 12 (n - a) - 1)
  have a1 := h1 (s + 1) (by omega) (by omega) (by omega)
  have a2 := mnF_le (fun t => c a (t + 1) + Q (a + t + 1)) (t := min 12 (n - a) - 1) (s := k - 1) (by omega)
  try dsimp only at s2 a2
  rw [show a + (k - 1) + 1 = a + k by omega, show k - 1 + 1 = k by omega] at a2
  rw [show a + s + 1 = a + (s + 1) by omega] at s2
  omega
theorem isP_mn {c : Nat → Nat → Nat} {P : Nat → Nat} {e : Nat} (h : isP c P e) (he : 0 < e) : P e = mnF (fun t => P (e - (t + 1)) + c (e - (t + 1)) (t + 1)) (min 12 e - 1) := by
  obtain ⟨h1, k, k1, k2, k3, k4⟩ := h
  obtain ⟨s, s1, s2⟩ := mnF_at (fun t => P (e - (t + 1)) + c (e - (t + 1)) (t + 1)) (min 12 e - 1)
  have a1 := h1 (s + 1) (by omega) (by omega) (by omega)
  have a2 := mnF_le (fun t => P (e - (t + 1)) + c (e - (t + 1)) (t + 1)) (t := min 12 e - 1) (s := k - 1) (by omega)
  try dsimp only at s2 a2
  rw [show k - 1 + 1 = k by omega] at a2
  omega
theorem exQ (c : Nat → Nat → Nat) (n : Nat) : ∀ d, d ≤ n → ∃ Q : Nat → Nat, Q n = 0 ∧ ∀ a, a < n → n - d ≤ a → isQ c n Q a
  | 0, _ => ⟨fun _ => 0, rfl, fun a h1 h2 => by omega⟩
  | d + 1, hd => by
    obtain ⟨Q, h1, h2⟩ := exQ c n d (by omega)
    obtain ⟨s, s1, s2⟩ := mnF_at (fun t => c (n - (d + 1)) (t + 1) + Q (n - (d + 1) + t + 1)) (min 12 (d + 1) - 1)
    refine ⟨nup Q (n - (d + 1)) (mnF (fun t => c (n - (d + 1)) (t + 1) + Q (n - (d + 1) + t + 1)) (min 12 (d + 1) - 1)), ?_, fun a ha hda => ?_⟩
    · unfold nup
      rw [if_neg (by omega)]
      exact h1
    · by_cases e : a = n - (d + 1)
      · subst e
        refine ⟨fun k k1 k2 k3 => ?_, s + 1, by omega, by omega, by omega, ?_⟩
        · unfold nup
          rw [if_pos rfl, if_neg (by omega)]
          have := mnF_le (fun t => c (n - (d + 1)) (t + 1) + Q (n - (d + 1) + t + 1)) (t := min 12 (d + 1) - 1) (s := k - 1) (by omega)
          try dsimp only at this
          rw [show n - (d + 1) + (k - 1) + 1 = n - (d + 1) + k by omega, show k - 1 + 1 = k by omega] at this
          exact this
        · unfold nup
          rw [if_pos rfl, if_neg (by omega)]
          exact s2
      · obtain ⟨g1, k, k1, k2, k3, k4⟩ := h2 a ha (by omega)
        refine ⟨fun k k1 k2 k3 => ?_, k, k1, k2, k3, ?_⟩
        · unfold nup
          rw [if_neg e, if_neg (by omega)]
          exact g1 k k1 k2 k3
        · unfold nup
          rw [if_neg e, if_neg (by omega)]
          exact k4
theorem exP (c : Nat → Nat → Nat) : ∀ n, ∃ P : Nat → Nat, P 0 = 0 ∧ ∀ e, 0 < e → e ≤ n → isP c P e
  | 0 => ⟨fun _ => 0, rfl, fun a h1 h2 => by omega⟩
  | n + 1 => by
    obtain ⟨P, h1, h2⟩ := exP c n
    obtain ⟨s, s1, s2⟩ := mnF_at (fun t => P (n + 1 - (t + 1)) + c (n + 1 - (t + 1)) (t + 1)) (min 12 (n + 1) - 1)
    refine ⟨nup P (n + 1) (mnF (fun t => P (n + 1 - (t + 1)) + c (n + 1 - (t + 1)) (t + 1)) (min 12 (n + 1) - 1)), ?_, fun e he hen => ?_⟩
    · unfold nup
      rw [if_neg (by omega)]
      exact h1
    · by_cases q : e = n + 1
      · subst q
        refine ⟨fun k k1 k2 k3 => ?_, s + 1, by omega, by omega, by omega, ?_⟩
        · unfold nup
          rw [if_pos rfl, if_neg (by omega)]
          have := mnF_le (fun t => P (n + 1 - (t + 1)) + c (n + 1 - (t + 1)) (t + 1)) (t := min 12 (n + 1) - 1) (s := k - 1) (by omega)
          try dsimp only at this
          rw [show k - 1 + 1 = k by omega] at this
          exact this
        · unfold nup
          rw [if_pos rfl, if_neg (by omega)]
          exact s2
      · obtain ⟨g1, k, k1, k2, k3, k4⟩ := h2 e he (by omega)
        refine ⟨fun k k1 k2 k3 => ?_, k, k1, k2, k3, ?_⟩
        · unfold nup
          rw [if_neg q, if_neg (by omega)]
          exact g1 k k1 k2 k3
        · unfold nup
          rw [if_neg q, if_neg (by omega)]
          exact k4
/-- from the front or from the back: the same -/
theorem PQ {c : Nat → Nat → Nat} {n : Nat} {P Q : Nat → Nat} (hP0 : P 0 = 0) (hP : ∀ e, 0 < e → e ≤ n → isP c P e) (hQn : Q n = 0) (hQ : ∀ a, a < n → isQ c n Q a) : P n = Q 0 := by
  have h1 : ∀ m e, e ≤ m → e ≤ n → Q 0 ≤ P e + Q e := by
    intro m
    induction m with
    | zero =>
      intro e h1 h2
      have : e = 0 := by omega
      subst this
      omega
    | succ m ih =>
      intro e h1 h2
      by_cases e0 : e = 0
      · subst e0; omega
      · obtain ⟨-, k, k1, k2, k3, k4⟩ := hP e (by omega) h2
        have a1 := ih (e - k) (by omega) (by omega)
        have a2 := (hQ (e - k) (by omega)).1 k k1 k2 (by omega)
        rw [show e - k + k = e by omega] at a2
        omega
  have h2 : ∀ m a, n - a ≤ m → a ≤ n → P n ≤ P a + Q a := by
    intro m
    induction m with
    | zero =>
      intro a h1 h2
      have : a = n := by omega
      subst this
      omega
    | succ m ih =>
      intro a h1 h2
      by_cases e0 : a = n
      · subst e0; omega
      · obtain ⟨-, k, k1, k2, k3, k4⟩ := hQ a (by omega)
        have a1 := ih (a + k) (by omega) (by omega)
        have a2 := (hP (a + k) (by omega) (by omega)).1 k k1 k2 (by omega)
        rw [show a + k - k = a by omega] at a2
        omega
  have a1 := h1 n n (Nat.le_refl _) (Nat.le_refl _)
  have a2 := h2 n 0 (by omega) (Nat.zero_le _)
  omega
theorem Q_le {c : Nat → Nat → Nat} {n : Nat} {Q : Nat → Nat} (hc : ∀ a, a + 1 ≤ n → c a 1 ≤ 189) (hQn : Q n = 0) (hQ : ∀ a, a < n → isQ c n Q a) : ∀ d a, n - a ≤ d → a ≤ n → Q a ≤ 189 * (n - a) := by
  intro d
  induction d with
  | zero =>
    intro a h1 h2
    have : a = n := by omega
    subst this
    omega
  | succ d ih =>
    intro a h1 h2
    by_cases e0 : a = n
    · subst e0; omega
    · have a1 := (hQ a (by omega)).1 1 (by omega) (by omega) (by omega)
      have a2 := ih (a + 1) (by omega) (by omega)
      have a3 := hc a (by omega)
      omega
theorem P_le {c : Nat → Nat → Nat} {n : Nat} {P : Nat → Nat} (hc : ∀ a, a + 1 ≤ n → c a 1 ≤ 189) (hP0 : P 0 = 0) (hP : ∀ e, 0 < e → e ≤ n → isP c P e) : ∀ e, e ≤ n → P e ≤ 189 * e := by
  intro e
  induction e with
  | zero => intro _; omega
  | succ e ih =>
    intro he
    have a1 := (hP (e + 1) (by omega) he).1 1 (by omega) (by omega) (by omega)
    rw [show e + 1 - 1 = e by omega] at a1
    have a2 := ih (by omega)
    have a3 := hc e he
    omega
theorem x185 : xK 185 = 5 := by decide
theorem w185 : xRow 185 121 := ⟨by decide, by decide, by decide, by decide, by decide⟩
theorem r0_8 : xR 0 8 = 185 := by decide
section PL
variable {S : cS} {I : xMem}
/-- one candidate of the class -/
theorem s8_seg {a s : Nat} (hW : sWF S) (h : cR I 1 S) (hs : s < 12) (ha : a + s < sn S) (hM : cM I 183 (fun j => sv S (a + j)) s) : ∃ I', f_X2_include [.ref 183, .int (nI (sv S (a + s)))] I = some (.inl none, I') ∧ zG 183 2 I I' ∧ cM I' 183 (fun j => sv S (a + j)) (s + 1) ∧ f_X2_sizeWhen [.ref 183, .int (-9999)] I' = some (.inl (some (.int (nI (sSeg S a (s + 1))))), I') := by
  obtain ⟨I', f1, f2, f3⟩ := s2_include xMes183 hM hs (fun j hj => hW.2.2.2.2.1 _ (by omega))
  exact ⟨I', f1, f2, f3, s2_size (c := 0) xMes183 f3 (by omega) (by omega) (fun j hj => hW.2.2.2.2.1 _ (by omega)) (by omega)⟩
theorem s8_lb_l {a : Nat} {Q : Nat → Nat} (hW : sWF S) (hQ : ∀ j, a < j → j ≤ sn S → Q j ≤ 30000) (hR : ∀ j, a < j → j ≤ sn S → I 186 j = nI (Q j)) (ha : a < sn S) : ∀ d s (I1 : xMem) (l : Option Value), s + 1 + d = min 12 (sn S - a) → zG 183 2 I I1 → cR I1 1 S → cM I1 183 (fun j => sv S (a + j)) (s + 1) → ∃ I', xgo k_X8_leastBitsFrom 11 [some (.ref 0), some (.int (nI a)), some (.int (nI (mnF (fun t => sSeg S a (t + 1) + Q (a + t + 1)) s))), some (.int (nI (a + s + 1))), l] [] I1 = some (.inl (some (.int (nI (mnF (fun t => sSeg S a (t + 1) + Q (a + t + 1)) (min 12 (sn S - a) - 1))))), I') ∧ zG 183 2 I I' := by
  have k0 := x0
  have k1 := x1
  have k83 := x183
  have k85 := x185
  have hn := sn_120 hW
  intro d
  induction d with
  | zero =>
    intro s I1 l hs hG h hM
    have e : s = min 12 (sn S - a) - 1 := by omega
    have g := h.1
    refine ⟨I1, ?_, hG⟩
    rw [← e, q_X8_leastBitsFrom_11]
    by_cases q : sn S ≤ a + s + 1
    · simp (disch := omega) only [q_X8_leastBitsFrom_0, q_X8_leastBitsFrom_1, q_X8_leastBitsFrom_2, q_X8_leastBitsFrom_3, q_X8_leastBitsFrom_6, q_X8_leastBitsFrom_9, q_X8_leastBitsFrom_10, q_X8_leastBitsFrom_12, q_X8_leastBitsFrom_13, q_X8_leastBitsFrom_16, q_X8_leastBitsFrom_19, q_X8_leastBitsFrom_22, q_X8_leastBitsFrom_23, q_X8_leastBitsFrom_24, q_X8_leastBitsFrom_26, q_X8_leastBitsFrom_27, q_X8_leastBitsFrom_30, q_X8_leastBitsFrom_31, q_X8_leastBitsFrom_34, q_X8_leastBitsFrom_35, q_X8_leastBitsFrom_38, q_X8_leastBitsFrom_39, q_X8_leastBitsFrom_42, q_X8_leastBitsFrom_45, q_X8_leastBitsFrom_46, q_X8_leastBitsFrom_49, q_X8_leastBitsFrom_52, q_X8_leastBitsFrom_55, q_X8_leastBitsFrom_56, q_X8_leastBitsFrom_59, q_X8_leastBitsFrom_60, q_X8_leastBitsFrom_61, q_X8_leastBitsFrom_62, q_X8_leastBitsFrom_65, q_X8_leastBitsFrom_66, q_X8_leastBitsFrom_68, q_X8_leastBitsFrom_69, q_X8_leastBitsFrom_70, q_X8_leastBitsFrom_73, q_X8_leastBitsFrom_75, q_X8_leastBitsFrom_78, q_X8_leastBitsFrom_79, q_X8_leastBitsFrom_81, q_X8_leastBitsFrom_84, q_X8_leastBitsFrom_85, q_X8_leastBitsFrom_88, q_X8_leastBitsFrom_91, q_X8_leastBitsFrom_92, nI_add, pI_le, pI_lt, pI_eq, pI_neg, pI_nn, pI_le0, pI_gt0, pI_eq0, xbV_s, xbU_s, if_true, if_false, bI_eq0, Nat.reduceAdd, Nat.reduceSub, Nat.reduceEqDiff, Nat.reduceLeDiff, Nat.reduceLT, Bool.true_eq_false, Bool.false_eq_true, k0, k1, r0_0, g, q]
    · have q2 : a + 12 ≤ a + s + 1 := by omega
      simp (disch := omega) only [q_X8_leastBitsFrom_0, q_X8_leastBitsFrom_1, q_X8_leastBitsFrom_2, q_X8_leastBitsFrom_3, q_X8_leastBitsFrom_6, q_X8_leastBitsFrom_9, q_X8_leastBitsFrom_10, q_X8_leastBitsFrom_12, q_X8_leastBitsFrom_13, q_X8_leastBitsFrom_16, q_X8_leastBitsFrom_19, q_X8_leastBitsFrom_22, q_X8_leastBitsFrom_23, q_X8_leastBitsFrom_24, q_X8_leastBitsFrom_26, q_X8_leastBitsFrom_27, q_X8_leastBitsFrom_30, q_X8_leastBitsFrom_31, q_X8_leastBitsFrom_34, q_X8_leastBitsFrom_35, q_X8_leastBitsFrom_38, q_X8_leastBitsFrom_39, q_X8_leastBitsFrom_42, q_X8_leastBitsFrom_45, q_X8_leastBitsFrom_46, q_X8_leastBitsFrom_49, q_X8_leastBitsFrom_52, q_X8_leastBitsFrom_55, q_X8_leastBitsFrom_56, q_X8_leastBitsFrom_59, q_X8_leastBitsFrom_60, q_X8_leastBitsFrom_61, q_X8_leastBitsFrom_62, q_X8_leastBitsFrom_65, q_X8_leastBitsFrom_66, q_X8_leastBitsFrom_68, q_X8_leastBitsFrom_69, q_X8_leastBitsFrom_70, q_X8_leastBitsFrom_73, q_X8_leastBitsFrom_75, q_X8_leastBitsFrom_78, q_X8_leastBitsFrom_79, q_X8_leastBitsFrom_81, q_X8_leastBitsFrom_84, q_X8_leastBitsFrom_85, q_X8_leastBitsFrom_88, q_X8_leastBitsFrom_91, q_X8_leastBitsFrom_92, nI_add, pI_le, pI_lt, pI_eq, pI_neg, pI_nn, pI_le0, pI_gt0, pI_eq0, xbV_s, xbU_s, if_true, if_false, bI_eq0, Nat.reduceAdd, Nat.reduceSub, Nat.reduceEqDiff, Nat.reduceLeDiff, Nat.reduceLT, Bool.true_eq_false, Bool.false_eq_true, k0, k1, r0_0, g, q, q2]
  | succ d ih =>
    intro s I1 l hs hG h hM
    have g := h.1
    have n1 : ¬ sn S ≤ a + s + 1 := by omega
    have n2 : ¬ a + 12 ≤ a + s + 1 := by omega
    have n3 : ¬ a + s + 1 = a := by omega
    obtain ⟨I2, f1, f2, f3, f4⟩ := s8_seg hW h (by omega : s + 1 < 12) (by omega) hM
    rw [show a + (s + 1) = a + s + 1 by omega] at f1
    have g2 : I2 186 (a + s + 1 + 1) = nI (Q (a + s + 1 + 1)) := by
      rw [f2 186 (by omega), hG 186 (by omega)]
      exact hR _ (by omega) (by omega)
    have hseg := sSeg_le hW (a := a) (k := s + 1 + 1) (by omega) (by omega)
    have hq := hQ (a + s + 1 + 1) (by omega) (by omega)
    have hmn := mnF_le (fun t => sSeg S a (t + 1) + Q (a + t + 1)) (t := s) (s := 0) (by omega)
    have hseg0 := sSeg_le hW (a := a) (k := 0 + 1) (by omega) (by omega)
    have hq0 := hQ (a + 0 + 1) (by omega) (by omega)
    try dsimp only at hmn
    obtain ⟨I', j1, j2⟩ := ih (s + 1) I2 (some (.int (nI (sSeg S a (s + 1 + 1) + Q (a + s + 1 + 1))))) (by omega) (hG.tr f2) (h.cg (fun c h6 h7 => f2 c (by omega))) f3
    refine ⟨I', ?_, j2⟩
    rw [show mnF (fun t => sSeg S a (t + 1) + Q (a + t + 1)) (s + 1) = min (mnF (fun t => sSeg S a (t + 1) + Q (a + t + 1)) s) (sSeg S a (s + 1 + 1) + Q (a + s + 1 + 1)) from rfl] at j1
    rw [q_X8_leastBitsFrom_11]
    simp (disch := omega) only [q_X8_leastBitsFrom_0, q_X8_leastBitsFrom_1, q_X8_leastBitsFrom_2, q_X8_leastBitsFrom_3, q_X8_leastBitsFrom_6, q_X8_leastBitsFrom_9, q_X8_leastBitsFrom_10, q_X8_leastBitsFrom_12, q_X8_leastBitsFrom_13, q_X8_leastBitsFrom_16, q_X8_leastBitsFrom_19, q_X8_leastBitsFrom_22, q_X8_leastBitsFrom_23, q_X8_leastBitsFrom_24, q_X8_leastBitsFrom_26, q_X8_leastBitsFrom_27, q_X8_leastBitsFrom_30, q_X8_leastBitsFrom_31, q_X8_leastBitsFrom_34, q_X8_leastBitsFrom_35, q_X8_leastBitsFrom_38, q_X8_leastBitsFrom_39, q_X8_leastBitsFrom_42, q_X8_leastBitsFrom_45, q_X8_leastBitsFrom_46, q_X8_leastBitsFrom_49, q_X8_leastBitsFrom_52, q_X8_leastBitsFrom_55, q_X8_leastBitsFrom_56, q_X8_leastBitsFrom_59, q_X8_leastBitsFrom_60, q_X8_leastBitsFrom_61, q_X8_leastBitsFrom_62, q_X8_leastBitsFrom_65, q_X8_leastBitsFrom_66, q_X8_leastBitsFrom_68, q_X8_leastBitsFrom_69, q_X8_leastBitsFrom_70, q_X8_leastBitsFrom_73, q_X8_leastBitsFrom_75, q_X8_leastBitsFrom_78, q_X8_leastBitsFrom_79, q_X8_leastBitsFrom_81, q_X8_leastBitsFrom_84, q_X8_leastBitsFrom_85, q_X8_leastBitsFrom_88, q_X8_leastBitsFrom_91, q_X8_leastBitsFrom_92, nI_add, pI_le, pI_lt, pI_eq, pI_neg, pI_nn, pI_le0, pI_gt0, pI_eq0, xbV_s, xbU_s, if_true, if_false, bI_eq0, Nat.reduceAdd, Nat.reduceSub, Nat.reduceEqDiff, Nat.reduceLeDiff, Nat.reduceLT, Bool.true_eq_false, Bool.false_eq_true, k0, k1, k83, k85, r0_0, r0_7, r0_8, g, n1, n2, n3, s0_valueAt xCol_1 h hW (by omega : a + s + 1 < sn S), f1, f4, s_get w185, g2, pI_mn]
    exact j1
theorem s8_lb {a : Nat} {Q : Nat → Nat} (hW : sWF S) (h : cR I 1 S) (hQ : ∀ j, a < j → j ≤ sn S → Q j ≤ 30000) (hR : ∀ j, a < j → j ≤ sn S → I 186 j = nI (Q j)) (ha : a < sn S) (hq : isQ (sSeg S) (sn S) Q a) : ∃ I', f_X8_leastBitsFrom [.ref 0, .int (nI a)] I = some (.inl (some (.int (nI (Q a)))), I') ∧ zG 183 2 I I' := by
  have k0 := x0
  have k1 := x1
  have k83 := x183
  have k85 := x185
  have hn := sn_120 hW
  obtain ⟨I1, e1, e2, e3⟩ := s2_start (w := fun j => sv S (a + j)) (I := I) xMes183
  have h1 : cR I1 1 S := h.cg (fun c h6 h7 => e2 c (by omega))
  have g := h1.1
  have n1 : ¬ sn S ≤ a := by omega
  have n2 : ¬ a + 12 ≤ a := by omega
  obtain ⟨I2, f1, f2, f3, f4⟩ := s8_seg hW h1 (by omega : 0 < 12) (by omega) e3
  rw [show a + 0 = a from rfl] at f1
  have g2 : I2 186 (a + 1) = nI (Q (a + 1)) := by
    rw [f2 186 (by omega), e2 186 (by omega)]
    exact hR _ (by omega) (by omega)
  obtain ⟨I', j1, j2⟩ := s8_lb_l (I := I) hW hQ hR ha (min 12 (sn S - a) - 1) 0 I2 (some (.int (nI (sSeg S a (0 + 1) + Q (a + 1))))) (by omega) (e2.tr f2) (h1.cg (fun c h6 h7 => f2 c (by omega))) f3
  refine ⟨I', ?_, j2⟩
  rw [isQ_mn hq ha, e_X8_leastBitsFrom]
  simp (disch := omega) only [q_X8_leastBitsFrom_0, q_X8_leastBitsFrom_1, q_X8_leastBitsFrom_2, q_X8_leastBitsFrom_3, q_X8_leastBitsFrom_6, q_X8_leastBitsFrom_9, q_X8_leastBitsFrom_10, q_X8_leastBitsFrom_12, q_X8_leastBitsFrom_13, q_X8_leastBitsFrom_16, q_X8_leastBitsFrom_19, q_X8_leastBitsFrom_22, q_X8_leastBitsFrom_23, q_X8_leastBitsFrom_24, q_X8_leastBitsFrom_26, q_X8_leastBitsFrom_27, q_X8_leastBitsFrom_30, q_X8_leastBitsFrom_31, q_X8_leastBitsFrom_34, q_X8_leastBitsFrom_35, q_X8_leastBitsFrom_38, q_X8_leastBitsFrom_39, q_X8_leastBitsFrom_42, q_X8_leastBitsFrom_45, q_X8_leastBitsFrom_46, q_X8_leastBitsFrom_49, q_X8_leastBitsFrom_52, q_X8_leastBitsFrom_55, q_X8_leastBitsFrom_56, q_X8_leastBitsFrom_59, q_X8_leastBitsFrom_60, q_X8_leastBitsFrom_61, q_X8_leastBitsFrom_62, q_X8_leastBitsFrom_65, q_X8_leastBitsFrom_66, q_X8_leastBitsFrom_68, q_X8_leastBitsFrom_69, q_X8_leastBitsFrom_70, q_X8_leastBitsFrom_73, q_X8_leastBitsFrom_75, q_X8_leastBitsFrom_78, q_X8_leastBitsFrom_79, q_X8_leastBitsFrom_81, q_X8_leastBitsFrom_84, q_X8_leastBitsFrom_85, q_X8_leastBitsFrom_88, q_X8_leastBitsFrom_91, q_X8_leastBitsFrom_92, nI_add, pI_le, pI_lt, pI_eq, pI_neg, pI_nn, pI_le0, pI_gt0, pI_eq0, xbV_s, xbU_s, if_true, if_false, bI_eq0, Nat.reduceAdd, Nat.reduceSub, Nat.reduceEqDiff, Nat.reduceLeDiff, Nat.reduceLT, Bool.true_eq_false, Bool.false_eq_true, k0, k83, r0_7, e1]
  rw [q_X8_leastBitsFrom_11]
  simp (disch := omega) only [q_X8_leastBitsFrom_0, q_X8_leastBitsFrom_1, q_X8_leastBitsFrom_2, q_X8_leastBitsFrom_3, q_X8_leastBitsFrom_6, q_X8_leastBitsFrom_9, q_X8_leastBitsFrom_10, q_X8_leastBitsFrom_12, q_X8_leastBitsFrom_13, q_X8_leastBitsFrom_16, q_X8_leastBitsFrom_19, q_X8_leastBitsFrom_22, q_X8_leastBitsFrom_23, q_X8_leastBitsFrom_24, q_X8_leastBitsFrom_26, q_X8_leastBitsFrom_27, q_X8_leastBitsFrom_30, q_X8_leastBitsFrom_31, q_X8_leastBitsFrom_34, q_X8_leastBitsFrom_35, q_X8_leastBitsFrom_38, q_X8_leastBitsFrom_39, q_X8_leastBitsFrom_42, q_X8_leastBitsFrom_45, q_X8_leastBitsFrom_46, q_X8_leastBitsFrom_49, q_X8_leastBitsFrom_52, q_X8_leastBitsFrom_55, q_X8_leastBitsFrom_56, q_X8_leastBitsFrom_59, q_X8_leastBitsFrom_60, q_X8_leastBitsFrom_61, q_X8_leastBitsFrom_62, q_X8_leastBitsFrom_65, q_X8_leastBitsFrom_66, q_X8_leastBitsFrom_68, q_X8_leastBitsFrom_69, q_X8_leastBitsFrom_70, q_X8_leastBitsFrom_73, q_X8_leastBitsFrom_75, q_X8_leastBitsFrom_78, q_X8_leastBitsFrom_79, q_X8_leastBitsFrom_81, q_X8_leastBitsFrom_84, q_X8_leastBitsFrom_85, q_X8_leastBitsFrom_88, q_X8_leastBitsFrom_91, q_X8_leastBitsFrom_92, nI_add, pI_le, pI_lt, pI_eq, pI_neg, pI_nn, pI_le0, pI_gt0, pI_eq0, xbV_s, xbU_s, if_true, if_false, bI_eq0, Nat.reduceAdd, Nat.reduceSub, Nat.reduceEqDiff, Nat.reduceLeDiff, Nat.reduceLT, Bool.true_eq_false, Bool.false_eq_true, k0, k1, k83, k85, r0_0, r0_7, r0_8, g, n1, n2, s0_valueAt xCol_1 h1 hW (by omega : a < sn S), f1, f4, s_get w185, g2]
  exact j1
theorem s8_sm_l {Q : Nat → Nat} (hW : sWF S) (hB : ∀ j, j ≤ sn S → Q j ≤ 30000) (hq : ∀ a, a < sn S → isQ (sSeg S) (sn S) Q a) : ∀ t (I1 : xMem), t ≤ sn S → zG 183 4 I I1 → cR I1 1 S → (∀ j, t ≤ j → j ≤ sn S → I1 186 j = nI (Q j)) → ∃ I', xgo k_X8_smallest 21 [some (.ref 0), some (.int (nI (sn S))), some (.int (nI t - nI 1))] [] I1 = some (.inl (some (.int (nI (Q 0)))), I') ∧ zG 183 4 I I' := by
  have k0 := x0
  have k85 := x185
  have hn := sn_120 hW
  intro t
  induction t with
  | zero =>
    intro I1 ht hG h hR
    have g := hR 0 (by omega) (by omega)
    have e : nI 0 - nI 1 < 0 := by decide
    refine ⟨I1, ?_, hG⟩
    rw [q_X8_smallest_21]
    simp (disch := omega) only [q_X8_smallest_0, q_X8_smallest_1, q_X8_smallest_4, q_X8_smallest_7, q_X8_smallest_8, q_X8_smallest_9, q_X8_smallest_12, q_X8_smallest_13, q_X8_smallest_14, q_X8_smallest_17, q_X8_smallest_18, q_X8_smallest_19, q_X8_smallest_20, q_X8_smallest_22, q_X8_smallest_25, q_X8_smallest_26, q_X8_smallest_29, q_X8_smallest_30, q_X8_smallest_31, q_X8_smallest_32, q_X8_smallest_35, q_X8_smallest_38, q_X8_smallest_41, q_X8_smallest_44, q_X8_smallest_45, q_X8_smallest_48, q_X8_smallest_49, q_X8_smallest_52, nI_add, pI_le, pI_lt, pI_eq, pI_neg, pI_nn, pI_le0, pI_gt0, pI_eq0, xbV_s, xbU_s, if_true, if_false, bI_eq0, Nat.reduceAdd, Nat.reduceSub, Nat.reduceEqDiff, Nat.reduceLeDiff, Nat.reduceLT, Bool.true_eq_false, Bool.false_eq_true, e, k0, k85, r0_8, s_get w185, g]
  | succ t ih =>
    intro I1 ht hG h hR
    have e : nI (t + 1) - nI 1 = nI t := by rw [pI_sub (by omega)]; rfl
    have e2 : nI t + -1 = nI t - nI 1 := by rw [Int32.sub_eq_add_neg]; rfl
    obtain ⟨I2, f1, f2⟩ := s8_lb hW h (fun j _ hj => hB j hj) (fun j hj hj2 => hR j (by omega) hj2) (by omega : t < sn S) (hq t (by omega))
    obtain ⟨I', j1, j2⟩ := ih (xup I2 186 t (nI (Q t))) (by omega) ((hG.tr (f2.wd (by omega) (by omega))).up (by omega) (by omega)) (h.cg (fun c h6 h7 => by rw [xup_o (by omega), f2 c (by omega)])) (fun j hj hj2 => by
      by_cases q : j = t
      · subst q; rw [xup_s]
      · rw [xup_d q, f2 186 (by omega)]; exact hR j (by omega) hj2)
    refine ⟨I', ?_, j2⟩
    rw [e, q_X8_smallest_21]
    simp (disch := omega) only [q_X8_smallest_0, q_X8_smallest_1, q_X8_smallest_4, q_X8_smallest_7, q_X8_smallest_8, q_X8_smallest_9, q_X8_smallest_12, q_X8_smallest_13, q_X8_smallest_14, q_X8_smallest_17, q_X8_smallest_18, q_X8_smallest_19, q_X8_smallest_20, q_X8_smallest_22, q_X8_smallest_25, q_X8_smallest_26, q_X8_smallest_29, q_X8_smallest_30, q_X8_smallest_31, q_X8_smallest_32, q_X8_smallest_35, q_X8_smallest_38, q_X8_smallest_41, q_X8_smallest_44, q_X8_smallest_45, q_X8_smallest_48, q_X8_smallest_49, q_X8_smallest_52, nI_add, pI_le, pI_lt, pI_eq, pI_neg, pI_nn, pI_le0, pI_gt0, pI_eq0, xbV_s, xbU_s, if_true, if_false, bI_eq0, Nat.reduceAdd, Nat.reduceSub, Nat.reduceEqDiff, Nat.reduceLeDiff, Nat.reduceLT, Bool.true_eq_false, Bool.false_eq_true, k0, k85, r0_8, f1, s_set w185, e2]
    exact j1
theorem x200 : xK 200 = 10 := by decide
theorem l200 : xL 200 = 121 := by decide
theorem r9_16 : xR 189 16 = 200 := by decide
def lvF (h : Nat → Nat) (s : Nat) : Nat := if s = 0 then 1000000 else mnF h (s - 1)
theorem lvF_s (h : Nat → Nat) (s : Nat) (h0 : h 0 ≤ 1000000) : lvF h (s + 1) = min (lvF h s) (h s) := by
  unfold lvF
  rw [if_neg (by omega)]
  by_cases e : s = 0
  · subst e
    rw [if_pos rfl]
    show h 0 = _
    omega
  · rw [if_neg e]
    obtain ⟨t, rfl⟩ : ∃ t, s = t + 1 := ⟨s - 1, by omega⟩
    rfl
theorem s9_seg {a k : Nat} (h : mR I 191 S) (hW : sWF S) (h1 : 1 ≤ k) (h2 : k ≤ 12) (ha : a + k ≤ sn S) : f_X9_pinnedSize [.ref 191, .int (nI (22 + a)), .int (nI k), .int (nI 0)] I = some (.inl (some (.int (nI (sSeg S a k)))), I) := by
  have hn := sn_120 hW
  have e : mW I 191 (22 + a) k (fun j => sv S (a + j)) := by
    refine ⟨h.1, by rw [h.2.1]; omega, by rw [h.2.1]; decide, fun j hj => ?_, fun j hj => hW.2.2.2.2.1 _ (by omega)⟩
    rw [show 22 + a + j = 22 + (a + j) by omega]
    exact h.2.2.2.2.2.2 (a + j) (by omega)
  exact s9_pinned e h1 h2 (by omega)
theorem s9_sm_i {e : Nat} {P : Nat → Nat} (hW : sWF S) (hB : ∀ j, j ≤ sn S → P j ≤ 30000) (he : 0 < e) (hen : e ≤ sn S) : ∀ d s (I1 : xMem), s + d = min 12 e → xO 200 I I1 → mR I1 191 S → (∀ j, j < e → I1 200 j = nI (P j)) → I1 200 e = nI (lvF (fun t => P (e - (t + 1)) + sSeg S (e - (t + 1)) (t + 1)) s) → ∃ I' l, xgo k_X9_smallest 32 [some (.ref 189), some (.int (nI (sn S))), some (.int (nI e)), some (.int (nI (s + 1)))] [] I1 = xgo k_X9_smallest 17 [some (.ref 189), some (.int (nI (sn S))), some (.int (nI (e + 1))), l] [] I' ∧ xO 200 I I' ∧ (∀ j, j < e → I' 200 j = nI (P j)) ∧ I' 200 e = nI (lvF (fun t => P (e - (t + 1)) + sSeg S (e - (t + 1)) (t + 1)) (min 12 e)) := by
  have k9 := x189
  have k20 := x200
  have l20 := l200
  have hn := sn_120 hW
  have h0 : P (e - (0 + 1)) + sSeg S (e - (0 + 1)) (0 + 1) ≤ 1000000 := by
    have a := hB (e - (0 + 1)) (by omega)
    have b := sSeg_le hW (a := e - (0 + 1)) (k := 0 + 1) (by omega) (by omega)
    omega
  intro d
  induction d with
  | zero =>
    intro s I1 hs hO h hP hv
    have q : s = min 12 e := by omega
    refine ⟨I1, some (.int (nI (s + 1))), ?_, hO, hP, by rw [← q]; exact hv⟩
    rw [q_X9_smallest_32]
    by_cases q1 : 12 < s + 1
    · simp (disch := omega) only [q_X9_smallest_33, q_X9_smallest_35, q_X9_smallest_38, q_X9_smallest_39, q_X9_smallest_40, q_X9_smallest_43, q_X9_smallest_44, q_X9_smallest_47, q_X9_smallest_48, q_X9_smallest_49, q_X9_smallest_52, q_X9_smallest_53, q_X9_smallest_54, q_X9_smallest_55, q_X9_smallest_58, q_X9_smallest_59, q_X9_smallest_60, q_X9_smallest_61, q_X9_smallest_62, q_X9_smallest_63, q_X9_smallest_66, q_X9_smallest_68, q_X9_smallest_69, q_X9_smallest_70, q_X9_smallest_71, q_X9_smallest_72, q_X9_smallest_73, q_X9_smallest_74, q_X9_smallest_77, q_X9_smallest_78, q_X9_smallest_81, q_X9_smallest_82, q_X9_smallest_85, q_X9_smallest_88, q_X9_smallest_91, nI_add, pI_le, pI_lt, pI_eq, pI_neg, pI_nn, pI_le0, pI_gt0, pI_eq0, xbV_s, xbU_s, if_true, if_false, bI_eq0, Nat.reduceAdd, Nat.reduceSub, Nat.reduceEqDiff, Nat.reduceLeDiff, Nat.reduceLT, Bool.true_eq_false, Bool.false_eq_true, q1]
    · have q2 : e < s + 1 := by omega
      simp (disch := omega) only [q_X9_smallest_33, q_X9_smallest_35, q_X9_smallest_38, q_X9_smallest_39, q_X9_smallest_40, q_X9_smallest_43, q_X9_smallest_44, q_X9_smallest_47, q_X9_smallest_48, q_X9_smallest_49, q_X9_smallest_52, q_X9_smallest_53, q_X9_smallest_54, q_X9_smallest_55, q_X9_smallest_58, q_X9_smallest_59, q_X9_smallest_60, q_X9_smallest_61, q_X9_smallest_62, q_X9_smallest_63, q_X9_smallest_66, q_X9_smallest_68, q_X9_smallest_69, q_X9_smallest_70, q_X9_smallest_71, q_X9_smallest_72, q_X9_smallest_73, q_X9_smallest_74, q_X9_smallest_77, q_X9_smallest_78, q_X9_smallest_81, q_X9_smallest_82, q_X9_smallest_85, q_X9_smallest_88, q_X9_smallest_91, nI_add, pI_le, pI_lt, pI_eq, pI_neg, pI_nn, pI_le0, pI_gt0, pI_eq0, xbV_s, xbU_s, if_true, if_false, bI_eq0, Nat.reduceAdd, Nat.reduceSub, Nat.reduceEqDiff, Nat.reduceLeDiff, Nat.reduceLT, Bool.true_eq_false, Bool.false_eq_true, q1, q2]
  | succ d ih =>
    intro s I1 hs hO h hP hv
    have n1 : ¬ 12 < s + 1 := by omega
    have n2 : ¬ e < s + 1 := by omega
    have e1 : nI e - nI (s + 1) = nI (e - (s + 1)) := pI_sub (by omega)
    have e2 : nI (22 + e) - nI (s + 1) = nI (22 + (e - (s + 1))) := by rw [pI_sub (by omega), show 22 + e - (s + 1) = 22 + (e - (s + 1)) by omega]
    have g := hP (e - (s + 1)) (by omega)
    have hseg := sSeg_le hW (a := e - (s + 1)) (k := s + 1) (by omega) (by omega)
    have hq := hB (e - (s + 1)) (by omega)
    have hlv : lvF (fun t => P (e - (t + 1)) + sSeg S (e - (t + 1)) (t + 1)) s ≤ 1000000 := by
      unfold lvF
      split
      · exact Nat.le_refl _
      · exact Nat.le_trans (mnF_le _ (Nat.zero_le _)) h0
    obtain ⟨I', l, f1, f2⟩ := ih (s + 1) (xup I1 200 e (nI (lvF (fun t => P (e - (t + 1)) + sSeg S (e - (t + 1)) (t + 1)) (s + 1)))) (by omega) hO.up (h.cg (xup_o (by omega))) (fun j hj => by rw [xup_d (by omega)]; exact hP j hj) xup_s
    refine ⟨I', l, ?_, f2⟩
    rw [lvF_s (fun t => P (e - (t + 1)) + sSeg S (e - (t + 1)) (t + 1)) s h0] at f1
    rw [q_X9_smallest_32]
    simp (disch := omega) only [q_X9_smallest_33, q_X9_smallest_35, q_X9_smallest_38, q_X9_smallest_39, q_X9_smallest_40, q_X9_smallest_43, q_X9_smallest_44, q_X9_smallest_47, q_X9_smallest_48, q_X9_smallest_49, q_X9_smallest_52, q_X9_smallest_53, q_X9_smallest_54, q_X9_smallest_55, q_X9_smallest_58, q_X9_smallest_59, q_X9_smallest_60, q_X9_smallest_61, q_X9_smallest_62, q_X9_smallest_63, q_X9_smallest_66, q_X9_smallest_68, q_X9_smallest_69, q_X9_smallest_70, q_X9_smallest_71, q_X9_smallest_72, q_X9_smallest_73, q_X9_smallest_74, q_X9_smallest_77, q_X9_smallest_78, q_X9_smallest_81, q_X9_smallest_82, q_X9_smallest_85, q_X9_smallest_88, q_X9_smallest_91, nI_add, pI_le, pI_lt, pI_eq, pI_neg, pI_nn, pI_le0, pI_gt0, pI_eq0, xbV_s, xbU_s, if_true, if_false, bI_eq0, Nat.reduceAdd, Nat.reduceSub, Nat.reduceEqDiff, Nat.reduceLeDiff, Nat.reduceLT, Bool.true_eq_false, Bool.false_eq_true, n1, n2, k9, k20, l20, r9_16, r9_4, hv, e1, e2, g, s9_seg h hW (by omega : 1 ≤ s + 1) (by omega) (by omega : e - (s + 1) + (s + 1) ≤ sn S), s9_less]
    exact f1
theorem s9_sm_l {P : Nat → Nat} (hW : sWF S) (hB : ∀ j, j ≤ sn S → P j ≤ 30000) (hp : ∀ e, 0 < e → e ≤ sn S → isP (sSeg S) P e) : ∀ d e (I1 : xMem) (l : Option Value), e + d = sn S + 1 → 0 < e → xO 200 I I1 → mR I1 191 S → (∀ j, j < e → I1 200 j = nI (P j)) → ∃ I', xgo k_X9_smallest 17 [some (.ref 189), some (.int (nI (sn S))), some (.int (nI e)), l] [] I1 = some (.inl (some (.int (nI (P (sn S))))), I') ∧ xO 200 I I' := by
  have k9 := x189
  have k20 := x200
  have l20 := l200
  have hn := sn_120 hW
  intro d
  induction d with
  | zero =>
    intro e I1 l he h0 hO h hP
    have n1 : sn S < e := by omega
    have g := hP (sn S) (by omega)
    refine ⟨I1, ?_, hO⟩
    rw [q_X9_smallest_17]
    simp (disch := omega) only [q_X9_smallest_0, q_X9_smallest_1, q_X9_smallest_4, q_X9_smallest_7, q_X9_smallest_8, q_X9_smallest_9, q_X9_smallest_12, q_X9_smallest_13, q_X9_smallest_14, q_X9_smallest_15, q_X9_smallest_16, q_X9_smallest_18, q_X9_smallest_19, q_X9_smallest_22, q_X9_smallest_23, q_X9_smallest_26, q_X9_smallest_27, q_X9_smallest_29, q_X9_smallest_30, q_X9_smallest_31, q_X9_smallest_33, q_X9_smallest_35, q_X9_smallest_38, q_X9_smallest_39, q_X9_smallest_40, q_X9_smallest_43, q_X9_smallest_44, q_X9_smallest_47, q_X9_smallest_48, q_X9_smallest_49, q_X9_smallest_52, q_X9_smallest_53, q_X9_smallest_54, q_X9_smallest_55, q_X9_smallest_58, q_X9_smallest_59, q_X9_smallest_60, q_X9_smallest_61, q_X9_smallest_62, q_X9_smallest_63, q_X9_smallest_66, q_X9_smallest_68, q_X9_smallest_69, q_X9_smallest_70, q_X9_smallest_71, q_X9_smallest_72, q_X9_smallest_73, q_X9_smallest_74, q_X9_smallest_77, q_X9_smallest_78, q_X9_smallest_81, q_X9_smallest_82, q_X9_smallest_85, q_X9_smallest_88, q_X9_smallest_91, q_X9_smallest_94, q_X9_smallest_95, q_X9_smallest_98, q_X9_smallest_99, q_X9_smallest_100, nI_add, pI_le, pI_lt, pI_eq, pI_neg, pI_nn, pI_le0, pI_gt0, pI_eq0, xbV_s, xbU_s, if_true, if_false, bI_eq0, Nat.reduceAdd, Nat.reduceSub, Nat.reduceEqDiff, Nat.reduceLeDiff, Nat.reduceLT, Bool.true_eq_false, Bool.false_eq_true, n1, k9, k20, l20, r9_16, g]
  | succ d ih =>
    intro e I1 l he h0 hO h hP
    have n1 : ¬ sn S < e := by omega
    obtain ⟨I2, l2, f1, f2, f3, f4⟩ := s9_sm_i (I := I1) hW hB h0 (by omega : e ≤ sn S) (min 12 e) 0 (xup I1 200 e (nI 1000000)) (by omega) xO.rf.up (h.cg (xup_o (by omega))) (fun j hj => by rw [xup_d (by omega)]; exact hP j hj) xup_s
    have e9 : lvF (fun t => P (e - (t + 1)) + sSeg S (e - (t + 1)) (t + 1)) (min 12 e) = P e := by
      rw [isP_mn (hp e h0 (by omega)) h0]
      unfold lvF
      rw [if_neg (by omega)]
    rw [e9] at f4
    obtain ⟨I', j1, j2⟩ := ih (e + 1) I2 l2 (by omega) (by omega) (hO.tr f2) (h.cg (f2 191 (by omega))) (fun j hj => by
      by_cases q : j = e
      · subst q; exact f4
      · exact f3 j (by omega))
    refine ⟨I', ?_, j2⟩
    rw [q_X9_smallest_17]
    simp (disch := omega) only [q_X9_smallest_18, q_X9_smallest_19, q_X9_smallest_22, q_X9_smallest_23, q_X9_smallest_26, q_X9_smallest_27, q_X9_smallest_29, q_X9_smallest_30, q_X9_smallest_31, nI_add, pI_le, pI_lt, pI_eq, pI_neg, pI_nn, pI_le0, pI_gt0, pI_eq0, xbV_s, xbU_s, if_true, if_false, bI_eq0, Nat.reduceAdd, Nat.reduceSub, Nat.reduceEqDiff, Nat.reduceLeDiff, Nat.reduceLT, Bool.true_eq_false, Bool.false_eq_true, n1, k9, k20, l20, r9_16]
    rw [f1]
    exact j1
end PL
theorem op_smallest {α : aS} : Agree0 f_X8_smallest f_X9_smallest [] α := Agree0.wf fun hw => by
  have k0 := x0
  have k1 := x1
  have k85 := x185
  have k9 := x189
  have k20 := x200
  have l20 := l200
  have hW := hw.1
  have hn := sn_120 hW
  obtain ⟨Q, q1, q2⟩ := exQ (sSeg (zS α)) (sn (zS α)) (sn (zS α)) (Nat.le_refl _)
  obtain ⟨P, p1, p2⟩ := exP (sSeg (zS α)) (sn (zS α))
  have q2 : ∀ a, a < sn (zS α) → isQ (sSeg (zS α)) (sn (zS α)) Q a := fun a ha => q2 a ha (by omega)
  have hc : ∀ a, a + 1 ≤ sn (zS α) → sSeg (zS α) a 1 ≤ 189 := fun a ha => sSeg_le hW (by omega) ha
  have bQ : ∀ j, j ≤ sn (zS α) → Q j ≤ 30000 := fun j hj => by
    have := Q_le hc q1 q2 (sn (zS α)) j (by omega) hj
    omega
  have bP : ∀ j, j ≤ sn (zS α) → P j ≤ 30000 := fun j hj => by
    have := P_le hc p1 p2 j hj
    omega
  have hPQ := PQ p1 p2 q1 q2
  refine ⟨nI (Q 0), α, fun I hI => ?_, fun I hI => ?_⟩
  · have g := hI.2.1.1
    obtain ⟨I', f1, f2⟩ := s8_sm_l (I := I) hW bQ q2 (sn (zS α)) (xup I 186 (sn (zS α)) (nI 0)) (Nat.le_refl _) (zG.rf.up (by omega) (by omega)) (hI.2.1.cg (fun c h6 h7 => by rw [xup_o (by omega)])) (fun j hj hj2 => by
      have : j = sn (zS α) := by omega
      subst this
      rw [xup_s, q1])
    refine ⟨I', ?_, hI.cg (fun c hc => f2 c (by omega)) (by rw [f2 163 (by omega)]), f2.wd (by omega) (by omega)⟩
    rw [if_pos rfl, e_X8_smallest]
    simp (disch := omega) only [q_X8_smallest_0, q_X8_smallest_1, q_X8_smallest_4, q_X8_smallest_7, q_X8_smallest_8, q_X8_smallest_9, q_X8_smallest_12, q_X8_smallest_13, q_X8_smallest_14, q_X8_smallest_17, q_X8_smallest_18, q_X8_smallest_19, q_X8_smallest_20, q_X8_smallest_22, q_X8_smallest_25, q_X8_smallest_26, q_X8_smallest_29, q_X8_smallest_30, q_X8_smallest_31, q_X8_smallest_32, q_X8_smallest_35, q_X8_smallest_38, q_X8_smallest_41, q_X8_smallest_44, q_X8_smallest_45, q_X8_smallest_48, q_X8_smallest_49, q_X8_smallest_52, nI_add, pI_le, pI_lt, pI_eq, pI_neg, pI_nn, pI_le0, pI_gt0, pI_eq0, xbV_s, xbU_s, if_true, if_false, bI_eq0, Nat.reduceAdd, Nat.reduceSub, Nat.reduceEqDiff, Nat.reduceLeDiff, Nat.reduceLT, Bool.true_eq_false, Bool.false_eq_true, k0, k1, k85, r0_0, r0_8, g, s_set w185]
    exact f1
  · obtain ⟨I', f1, f2⟩ := s9_sm_l (I := I) hW bP p2 (sn (zS α)) 1 (xup I 200 0 (nI 0)) none (by omega) (by omega) xO.rf.up (hI.2.1.cg (xup_o (by omega))) (fun j hj => by
      have : j = 0 := by omega
      subst this
      rw [xup_s, p1])
    refine ⟨I', ?_, hI.cg (fun c hc => f2 c (by omega)) (by rw [f2 189 (by omega)]) (by rw [f2 189 (by omega)]), fun c hc => f2 c (by omega)⟩
    rw [e_X9_smallest]
    simp (disch := omega) only [q_X9_smallest_0, q_X9_smallest_1, q_X9_smallest_4, q_X9_smallest_7, q_X9_smallest_8, q_X9_smallest_9, q_X9_smallest_12, q_X9_smallest_13, q_X9_smallest_14, q_X9_smallest_15, q_X9_smallest_16, q_X9_smallest_18, q_X9_smallest_19, q_X9_smallest_22, q_X9_smallest_23, q_X9_smallest_26, q_X9_smallest_27, q_X9_smallest_29, q_X9_smallest_30, q_X9_smallest_31, q_X9_smallest_33, q_X9_smallest_35, q_X9_smallest_38, q_X9_smallest_39, q_X9_smallest_40, q_X9_smallest_43, q_X9_smallest_44, q_X9_smallest_47, q_X9_smallest_48, q_X9_smallest_49, q_X9_smallest_52, q_X9_smallest_53, q_X9_smallest_54, q_X9_smallest_55, q_X9_smallest_58, q_X9_smallest_59, q_X9_smallest_60, q_X9_smallest_61, q_X9_smallest_62, q_X9_smallest_63, q_X9_smallest_66, q_X9_smallest_68, q_X9_smallest_69, q_X9_smallest_70, q_X9_smallest_71, q_X9_smallest_72, q_X9_smallest_73, q_X9_smallest_74, q_X9_smallest_77, q_X9_smallest_78, q_X9_smallest_81, q_X9_smallest_82, q_X9_smallest_85, q_X9_smallest_88, q_X9_smallest_91, q_X9_smallest_94, q_X9_smallest_95, q_X9_smallest_98, q_X9_smallest_99, q_X9_smallest_100, nI_add, pI_le, pI_lt, pI_eq, pI_neg, pI_nn, pI_le0, pI_gt0, pI_eq0, xbV_s, xbU_s, if_true, if_false, bI_eq0, Nat.reduceAdd, Nat.reduceSub, Nat.reduceEqDiff, Nat.reduceLeDiff, Nat.reduceLT, Bool.true_eq_false, Bool.false_eq_true, k9, k20, l20, r9_16, r9_4, s9_values hI.2.1 hW]
    rw [f1, hPQ]
end P37
