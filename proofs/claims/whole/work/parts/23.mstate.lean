/-! ===== the state, and how the reference holds it ===== -/
section P23
/-- values, how many, the pages' lengths, what they are pinned to (0: nothing, else the coding + 1), how many pages, the limit -/
abbrev cS : Type := (Nat → Nat) × Nat × (Nat → Nat) × (Nat → Nat) × Nat × Nat
abbrev sv (S : cS) : Nat → Nat := S.1
abbrev sn (S : cS) : Nat := S.2.1
abbrev sl (S : cS) : Nat → Nat := S.2.2.1
abbrev sp (S : cS) : Nat → Nat := S.2.2.2.1
abbrev sq (S : cS) : Nat := S.2.2.2.2.1
abbrev sm (S : cS) : Nat := S.2.2.2.2.2
def sF (S : cS) (p : Nat) : Nat := xsum (sl S) p
def sw (S : cS) (p : Nat) : Nat → Nat := fun j => sv S (sF S p + j)
def sZ (S : cS) (p : Nat) : Nat := pPin (sw S p) (sl S p) (sp S p)
def sC (S : cS) (p : Nat) : Nat := pCod (sw S p) (sl S p) (sp S p)
def sT (S : cS) : Nat := xsum (sZ S) (sq S)
def sWF (S : cS) : Prop := sq S ≤ 10 ∧ (1 ≤ sm S ∧ sm S ≤ 12) ∧ (∀ p, p < sq S → 1 ≤ sl S p ∧ sl S p ≤ 12) ∧ sn S = sF S (sq S) ∧ (∀ j, j < sn S → sv S j ≤ 1023) ∧ (∀ p, p < sq S → sp S p ≤ 5)
theorem sF_s (S : cS) (p : Nat) : sF S (p + 1) = sF S p + sl S p := rfl
theorem sF_mono (S : cS) {p q : Nat} (h : p ≤ q) : sF S p ≤ sF S q := xsum_mono h
theorem sF_le {S : cS} (h : sWF S) {p : Nat} (hp : p ≤ sq S) : sF S p ≤ sn S := by rw [h.2.2.2.1]; exact sF_mono S hp
theorem sF_12 {S : cS} (h : sWF S) {p : Nat} (hp : p ≤ sq S) : sF S p ≤ 12 * p := xsum_le (fun k hk => (h.2.2.1 k (by omega)).2)
theorem sn_120 {S : cS} (h : sWF S) : sn S ≤ 120 := by
  have h1 := sF_12 h (Nat.le_refl (sq S))
  have h2 := h.1
  rw [h.2.2.2.1]
  omega
theorem sF_in {S : cS} (h : sWF S) {p : Nat} (hp : p < sq S) : sF S p + sl S p ≤ sn S := by
  have := sF_le h (p := p + 1) hp
  rw [sF_s] at this
  exact this
theorem sw_le {S : cS} (h : sWF S) {p : Nat} (hp : p < sq S) : ∀ j, j < sl S p → sw S p j ≤ 1023 := fun j hj => h.2.2.2.2.1 _ (by have := sF_in h hp; omega)
theorem sZ_le {S : cS} (h : sWF S) {p : Nat} (hp : p < sq S) : sZ S p ≤ 189 := pPin_le (h.2.2.1 p hp).2 (sw_le h hp) _
theorem sT_le {S : cS} (h : sWF S) : sT S ≤ 1890 := by
  have h1 : sT S ≤ 189 * sq S := xsum_le (fun k hk => sZ_le h hk)
  have h2 := h.1
  omega
theorem sPg_ex {S : cS} (h : sWF S) {i : Nat} (hi : i < sn S) : ∃ p, p < sq S ∧ sF S p ≤ i ∧ i < sF S (p + 1) := by
  have key : ∀ q, q ≤ sq S → i < sF S q → ∃ p, p < q ∧ sF S p ≤ i ∧ i < sF S (p + 1) := by
    intro q
    induction q with
    | zero => intro _ h1; exact absurd h1 (Nat.not_lt_zero _)
    | succ q ih =>
      intro hq h1
      by_cases h2 : i < sF S q
      · obtain ⟨p, h3, h4⟩ := ih (by omega) h2
        exact ⟨p, by omega, h4⟩
      · exact ⟨q, by omega, by omega, h1⟩
  exact key (sq S) (Nat.le_refl _) (by rw [← h.2.2.2.1]; exact hi)
def mR (I : xMem) (m : Nat) (S : cS) : Prop := xK m = 10 ∧ xL m = 142 ∧ I m 0 = nI (sq S) ∧ I m 1 = nI (sm S) ∧ (∀ p, p < sq S → I m (2 + p) = nI (sl S p)) ∧ (∀ p, p < sq S → I m (12 + p) = nI (sp S p)) ∧ (∀ j, j < sn S → I m (22 + j) = nI (sv S j))
theorem mR.page {I : xMem} {m : Nat} {S : cS} (h : mR I m S) (hW : sWF S) {p : Nat} (hp : p < sq S) : mW I m (22 + sF S p) (sl S p) (sw S p) := by
  obtain ⟨h1, h2, h3, h4, h5, h6, h7⟩ := h
  have h8 := sF_in hW hp
  have h9 := sn_120 hW
  refine ⟨h1, by omega, by rw [h2]; decide, fun j hj => ?_, sw_le hW hp⟩
  have := h7 (sF S p + j) (by omega)
  rw [show 22 + sF S p + j = 22 + (sF S p + j) by omega]
  exact this
theorem mR.all {I : xMem} {m : Nat} {S : cS} (h : mR I m S) (hW : sWF S) : mW I m 22 (sn S) (sv S) := by
  obtain ⟨h1, h2, h3, h4, h5, h6, h7⟩ := h
  have h9 := sn_120 hW
  exact ⟨h1, by omega, by rw [h2]; decide, h7, hW.2.2.2.2.1⟩
theorem s9_first_l {m p : Nat} {S : cS} {I : xMem} (h : mR I m S) (hW : sWF S) (hp : p ≤ sq S) : ∀ d k, k + d = p → xgo k_X9_firstOf 4 [some (.ref m), some (.int (nI p)), some (.int (nI (sF S k))), some (.int (nI k))] [] I = some (.inl (some (.int (nI (sF S p)))), I) := by
  obtain ⟨h1, h2, h3, h4, h5, h6, h7⟩ := h
  have hq := hW.1
  intro d
  induction d with
  | zero =>
    intro k hk
    have e : k = p := by omega
    subst e
    rw [q_X9_firstOf_4]
    simp (disch := omega) only [q_X9_firstOf_0, q_X9_firstOf_1, q_X9_firstOf_2, q_X9_firstOf_3, q_X9_firstOf_5, q_X9_firstOf_6, q_X9_firstOf_9, q_X9_firstOf_10, q_X9_firstOf_11, q_X9_firstOf_12, q_X9_firstOf_13, q_X9_firstOf_14, q_X9_firstOf_15, q_X9_firstOf_16, q_X9_firstOf_17, q_X9_firstOf_20, q_X9_firstOf_23, q_X9_firstOf_24, nI_add, pI_le, pI_lt, pI_eq, pI_neg, pI_nn, pI_le0, pI_gt0, pI_eq0, xbV_s, xbU_s, if_true, if_false, bI_eq0, Nat.le_refl]
  | succ d ih =>
    intro k hk
    have hn9 : ¬ p ≤ k := by omega
    rw [q_X9_firstOf_4]
    simp (disch := omega) only [q_X9_firstOf_0, q_X9_firstOf_1, q_X9_firstOf_2, q_X9_firstOf_3, q_X9_firstOf_5, q_X9_firstOf_6, q_X9_firstOf_9, q_X9_firstOf_10, q_X9_firstOf_11, q_X9_firstOf_12, q_X9_firstOf_13, q_X9_firstOf_14, q_X9_firstOf_15, q_X9_firstOf_16, q_X9_firstOf_17, q_X9_firstOf_20, q_X9_firstOf_23, q_X9_firstOf_24, nI_add, pI_le, pI_lt, pI_eq, pI_neg, pI_nn, pI_le0, pI_gt0, pI_eq0, xbV_s, xbU_s, if_true, if_false, bI_eq0, h1, h2, h5 k (by omega), hn9]
    exact ih (k + 1) (by omega)
theorem s9_first {m p : Nat} {S : cS} {I : xMem} (h : mR I m S) (hW : sWF S) (hp : p ≤ sq S) : f_X9_firstOf [.ref m, .int (nI p)] I = some (.inl (some (.int (nI (sF S p)))), I) := by
  rw [e_X9_firstOf]
  simp only [q_X9_firstOf_0, q_X9_firstOf_1, q_X9_firstOf_2, q_X9_firstOf_3, q_X9_firstOf_5, q_X9_firstOf_6, q_X9_firstOf_9, q_X9_firstOf_10, q_X9_firstOf_11, q_X9_firstOf_12, q_X9_firstOf_13, q_X9_firstOf_14, q_X9_firstOf_15, q_X9_firstOf_16, q_X9_firstOf_17, q_X9_firstOf_20, q_X9_firstOf_23, q_X9_firstOf_24]
  exact s9_first_l h hW hp p 0 (by omega)
theorem s9_values {m : Nat} {S : cS} {I : xMem} (h : mR I m S) (hW : sWF S) : f_X9_valuesOf [.ref m] I = some (.inl (some (.int (nI (sn S)))), I) := by
  have h1 := h.1
  have h2 := h.2.1
  have h3 := h.2.2.1
  rw [e_X9_valuesOf, hW.2.2.2.1]
  simp (disch := omega) only [q_X9_valuesOf_0, q_X9_valuesOf_1, q_X9_valuesOf_2, q_X9_valuesOf_3, q_X9_valuesOf_4, q_X9_valuesOf_7, nI_add, pI_le, pI_lt, pI_eq, pI_neg, pI_nn, pI_le0, pI_gt0, pI_eq0, xbV_s, xbU_s, if_true, if_false, bI_eq0, h1, h2, h3, s9_first h hW (Nat.le_refl _)]
theorem xLt_in64 {x : Int32} {n : Nat} (hn : n < 1000000) : decide ((0 : Int64).toInt ≤ x.toInt64.toInt ∧ x.toInt64.toInt ≤ (nI n - nI 1).toInt64.toInt) = xLt x n := by
  rw [Int32.toInt_toInt64, Int32.toInt_toInt64, pk_sub_toInt (by omega) (by omega)]
  unfold xLt
  rw [show (0 : Int64).toInt = 0 from rfl]
  by_cases q : 0 ≤ x.toInt ∧ x.toInt < (n : Int)
  · rw [decide_eq_true q, decide_eq_true (by omega)]
  · rw [decide_eq_false q, decide_eq_false (by omega)]
theorem s9_isPage {m : Nat} {x : Int32} {S : cS} {I : xMem} (h : mR I m S) (hW : sWF S) : f_X9_isPage [.ref m, .int x] I = some (.inl (some (.int (bI (xLt x (sq S))))), I) := by
  have h1 := h.1
  have h2 := h.2.1
  have h3 := h.2.2.1
  have hq := hW.1
  rw [e_X9_isPage]
  simp (disch := omega) only [q_X9_isPage_0, q_X9_isPage_1, q_X9_isPage_2, q_X9_isPage_3, q_X9_isPage_4, q_X9_isPage_5, q_X9_isPage_6, q_X9_isPage_7, q_X9_isPage_8, q_X9_isPage_9, q_X9_isPage_12_b, q_X9_isPage_12_0, q_X9_isPage_12_1, nI_add, pI_le, pI_lt, pI_eq, pI_neg, pI_nn, pI_le0, pI_gt0, pI_eq0, xbV_s, xbU_s, if_true, if_false, bI_eq0, h1, h2, h3, s9_in, xLt_in64]
theorem s9_isValue {m : Nat} {x : Int32} {S : cS} {I : xMem} (h : mR I m S) (hW : sWF S) : f_X9_isValue [.ref m, .int x] I = some (.inl (some (.int (bI (xLt x (sn S))))), I) := by
  have hq := sn_120 hW
  rw [e_X9_isValue]
  simp (disch := omega) only [q_X9_isValue_0, q_X9_isValue_1, q_X9_isValue_2, q_X9_isValue_3, q_X9_isValue_4, q_X9_isValue_7, q_X9_isValue_8, q_X9_isValue_9, q_X9_isValue_10, q_X9_isValue_13_b, q_X9_isValue_13_0, q_X9_isValue_13_1, nI_add, pI_le, pI_lt, pI_eq, pI_neg, pI_nn, pI_le0, pI_gt0, pI_eq0, xbV_s, xbU_s, if_true, if_false, bI_eq0, s9_values h hW, s9_in, xLt_in64]
theorem s9_pageOf_l {m i p : Nat} {S : cS} {I : xMem} (h : mR I m S) (hW : sWF S) (hp : p < sq S) (h8 : sF S p ≤ i) (h9 : i < sF S (p + 1)) : ∀ d k, k + d = p → xgo k_X9_pageOf 6 [some (.ref m), some (.int (nI i)), some (.int (nI k)), some (.int (nI (sF S (k + 1))))] [] I = some (.inl (some (.int (nI p))), I) := by
  obtain ⟨h1, h2, h3, h4, h5, h6, h7⟩ := h
  have hq := hW.1
  have hi : i < 120 := Nat.lt_of_lt_of_le h9 (Nat.le_trans (sF_le hW hp) (sn_120 hW))
  intro d
  induction d with
  | zero =>
    intro k hk
    have e : k = p := by omega
    subst e
    have hb := Nat.le_trans (sF_le hW (p := k + 1) hp) (sn_120 hW)
    rw [q_X9_pageOf_6]
    simp (disch := omega) only [q_X9_pageOf_0, q_X9_pageOf_1, q_X9_pageOf_2, q_X9_pageOf_3, q_X9_pageOf_4, q_X9_pageOf_5, q_X9_pageOf_7, q_X9_pageOf_8, q_X9_pageOf_11, q_X9_pageOf_14, q_X9_pageOf_15, q_X9_pageOf_16, q_X9_pageOf_17, q_X9_pageOf_18, q_X9_pageOf_19, q_X9_pageOf_20, q_X9_pageOf_21, q_X9_pageOf_22, q_X9_pageOf_25, q_X9_pageOf_26, nI_add, pI_le, pI_lt, pI_eq, pI_neg, pI_nn, pI_le0, pI_gt0, pI_eq0, xbV_s, xbU_s, if_true, if_false, bI_eq0, h9]
  | succ d ih =>
    intro k hk
    have hb := Nat.le_trans (sF_le hW (p := k + 1) (by omega)) (sn_120 hW)
    have hn9 : ¬ i < sF S (k + 1) := by
      have := sF_mono S (p := k + 1) (q := p) (by omega)
      omega
    have e3 : 1 + k = k + 1 := by omega
    rw [q_X9_pageOf_6]
    simp (disch := omega) only [q_X9_pageOf_0, q_X9_pageOf_1, q_X9_pageOf_2, q_X9_pageOf_3, q_X9_pageOf_4, q_X9_pageOf_5, q_X9_pageOf_7, q_X9_pageOf_8, q_X9_pageOf_11, q_X9_pageOf_14, q_X9_pageOf_15, q_X9_pageOf_16, q_X9_pageOf_17, q_X9_pageOf_18, q_X9_pageOf_19, q_X9_pageOf_20, q_X9_pageOf_21, q_X9_pageOf_22, q_X9_pageOf_25, q_X9_pageOf_26, nI_add, pI_le, pI_lt, pI_eq, pI_neg, pI_nn, pI_le0, pI_gt0, pI_eq0, xbV_s, xbU_s, if_true, if_false, bI_eq0, h1, h2, hn9, h5 (k + 1) (by omega)]
    exact ih (k + 1) (by omega)
theorem s9_pageOf {m i p : Nat} {S : cS} {I : xMem} (h : mR I m S) (hW : sWF S) (hp : p < sq S) (h8 : sF S p ≤ i) (h9 : i < sF S (p + 1)) : f_X9_pageOf [.ref m, .int (nI i)] I = some (.inl (some (.int (nI p))), I) := by
  have h1 := h.1
  have h2 := h.2.1
  have h5 := h.2.2.2.2.1 0 (by omega)
  rw [show 2 + 0 = 2 from rfl] at h5
  have := s9_pageOf_l h hW hp h8 h9 p 0 (by omega)
  rw [show sF S (0 + 1) = sl S 0 from Nat.zero_add _] at this
  rw [e_X9_pageOf]
  simp (disch := omega) only [q_X9_pageOf_0, q_X9_pageOf_1, q_X9_pageOf_2, q_X9_pageOf_3, q_X9_pageOf_4, q_X9_pageOf_5, q_X9_pageOf_7, q_X9_pageOf_8, q_X9_pageOf_11, q_X9_pageOf_14, q_X9_pageOf_15, q_X9_pageOf_16, q_X9_pageOf_17, q_X9_pageOf_18, q_X9_pageOf_19, q_X9_pageOf_20, q_X9_pageOf_21, q_X9_pageOf_22, q_X9_pageOf_25, q_X9_pageOf_26, nI_add, pI_le, pI_lt, pI_eq, pI_neg, pI_nn, pI_le0, pI_gt0, pI_eq0, xbV_s, xbU_s, if_true, if_false, bI_eq0, h1, h2, h5]
  exact this
theorem s9_cod {m p : Nat} {S : cS} {I : xMem} (h : mR I m S) (hW : sWF S) (hp : p < sq S) : f_X9_codingOf [.ref m, .int (nI p)] I = some (.inl (some (.int (nI (sC S p)))), I) := by
  have hP := h.page hW hp
  have hl := hW.2.2.1 p hp
  have hpin := hW.2.2.2.2.2 p hp
  have h1 := h.1
  have h2 := h.2.1
  have h5 := h.2.2.2.2.1 p hp
  have h6 := h.2.2.2.2.2.1 p hp
  have hq := hW.1
  unfold sC pCod
  rw [e_X9_codingOf]
  by_cases q : sp S p = 0
  · rw [if_pos q]
    simp (disch := omega) only [q_X9_codingOf_0, q_X9_codingOf_1, q_X9_codingOf_3, q_X9_codingOf_4, q_X9_codingOf_5, q_X9_codingOf_6, q_X9_codingOf_9, q_X9_codingOf_10, q_X9_codingOf_12, q_X9_codingOf_13, q_X9_codingOf_14, q_X9_codingOf_17, q_X9_codingOf_18, q_X9_codingOf_19, q_X9_codingOf_20, q_X9_codingOf_21, q_X9_codingOf_22, q_X9_codingOf_23, q_X9_codingOf_26, q_X9_codingOf_29, q_X9_codingOf_30, q_X9_codingOf_32, q_X9_codingOf_33, q_X9_codingOf_34, q_X9_codingOf_35, q_X9_codingOf_36, q_X9_codingOf_37, nI_add, pI_le, pI_lt, pI_eq, pI_neg, pI_nn, pI_le0, pI_gt0, pI_eq0, xbV_s, xbU_s, if_true, if_false, bI_eq0, h1, h2, h5, h6, q, s9_first h hW (Nat.le_of_lt hp), s9_best hP hl.1 hl.2]
  · have e3 : nI (sp S p) - nI 1 = nI (sp S p - 1) := pI_sub (by omega)
    rw [if_neg q]
    simp (disch := omega) only [q_X9_codingOf_0, q_X9_codingOf_1, q_X9_codingOf_3, q_X9_codingOf_4, q_X9_codingOf_5, q_X9_codingOf_6, q_X9_codingOf_9, q_X9_codingOf_10, q_X9_codingOf_12, q_X9_codingOf_13, q_X9_codingOf_14, q_X9_codingOf_17, q_X9_codingOf_18, q_X9_codingOf_19, q_X9_codingOf_20, q_X9_codingOf_21, q_X9_codingOf_22, q_X9_codingOf_23, q_X9_codingOf_26, q_X9_codingOf_29, q_X9_codingOf_30, q_X9_codingOf_32, q_X9_codingOf_33, q_X9_codingOf_34, q_X9_codingOf_35, q_X9_codingOf_36, q_X9_codingOf_37, nI_add, pI_le, pI_lt, pI_eq, pI_neg, pI_nn, pI_le0, pI_gt0, pI_eq0, xbV_s, xbU_s, if_true, if_false, bI_eq0, h1, h2, h5, h6, q, e3]
theorem s9_size {m p : Nat} {S : cS} {I : xMem} (h : mR I m S) (hW : sWF S) (hp : p < sq S) : f_X9_sizeOfPage [.ref m, .int (nI p)] I = some (.inl (some (.int (nI (sZ S p)))), I) := by
  have hP := h.page hW hp
  have hl := hW.2.2.1 p hp
  have hpin := hW.2.2.2.2.2 p hp
  have h1 := h.1
  have h2 := h.2.1
  have h5 := h.2.2.2.2.1 p hp
  have h6 := h.2.2.2.2.2.1 p hp
  have hq := hW.1
  unfold sZ
  rw [e_X9_sizeOfPage]
  simp (disch := omega) only [q_X9_sizeOfPage_0, q_X9_sizeOfPage_1, q_X9_sizeOfPage_3, q_X9_sizeOfPage_4, q_X9_sizeOfPage_5, q_X9_sizeOfPage_8, q_X9_sizeOfPage_9, q_X9_sizeOfPage_10, q_X9_sizeOfPage_11, q_X9_sizeOfPage_12, q_X9_sizeOfPage_13, q_X9_sizeOfPage_14, q_X9_sizeOfPage_15, q_X9_sizeOfPage_17, q_X9_sizeOfPage_18, q_X9_sizeOfPage_19, q_X9_sizeOfPage_20, q_X9_sizeOfPage_23, nI_add, pI_le, pI_lt, pI_eq, pI_neg, pI_nn, pI_le0, pI_gt0, pI_eq0, xbV_s, xbU_s, if_true, if_false, bI_eq0, h1, h2, h5, h6, s9_first h hW (Nat.le_of_lt hp), s9_pinned hP hl.1 hl.2 hpin]
theorem s9_total_l {m : Nat} {S : cS} {I : xMem} (h : mR I m S) (hW : sWF S) : ∀ d k, k + d = sq S → xgo k_X9_sizeOfAll 4 [some (.ref m), some (.int (nI (xsum (sZ S) k))), some (.int (nI k))] [] I = some (.inl (some (.int (nI (sT S)))), I) := by
  have h1 := h.1
  have h2 := h.2.1
  have h3 := h.2.2.1
  have hq := hW.1
  intro d
  induction d with
  | zero =>
    intro k hk
    have e : k = sq S := by omega
    subst e
    rw [q_X9_sizeOfAll_4]
    simp (disch := omega) only [q_X9_sizeOfAll_0, q_X9_sizeOfAll_1, q_X9_sizeOfAll_2, q_X9_sizeOfAll_3, q_X9_sizeOfAll_5, q_X9_sizeOfAll_6, q_X9_sizeOfAll_7, q_X9_sizeOfAll_8, q_X9_sizeOfAll_11, q_X9_sizeOfAll_12, q_X9_sizeOfAll_13, q_X9_sizeOfAll_14, q_X9_sizeOfAll_17, q_X9_sizeOfAll_18, q_X9_sizeOfAll_19, q_X9_sizeOfAll_22, q_X9_sizeOfAll_25, q_X9_sizeOfAll_26, nI_add, pI_le, pI_lt, pI_eq, pI_neg, pI_nn, pI_le0, pI_gt0, pI_eq0, xbV_s, xbU_s, if_true, if_false, bI_eq0, h1, h2, h3, Nat.le_refl]
    rfl
  | succ d ih =>
    intro k hk
    have hn9 : ¬ sq S ≤ k := by omega
    rw [q_X9_sizeOfAll_4]
    simp (disch := omega) only [q_X9_sizeOfAll_0, q_X9_sizeOfAll_1, q_X9_sizeOfAll_2, q_X9_sizeOfAll_3, q_X9_sizeOfAll_5, q_X9_sizeOfAll_6, q_X9_sizeOfAll_7, q_X9_sizeOfAll_8, q_X9_sizeOfAll_11, q_X9_sizeOfAll_12, q_X9_sizeOfAll_13, q_X9_sizeOfAll_14, q_X9_sizeOfAll_17, q_X9_sizeOfAll_18, q_X9_sizeOfAll_19, q_X9_sizeOfAll_22, q_X9_sizeOfAll_25, q_X9_sizeOfAll_26, nI_add, pI_le, pI_lt, pI_eq, pI_neg, pI_nn, pI_le0, pI_gt0, pI_eq0, xbV_s, xbU_s, if_true, if_false, bI_eq0, h1, h2, h3, s9_size h hW (by omega : k < sq S), hn9]
    exact ih (k + 1) (by omega)
theorem s9_total {m : Nat} {S : cS} {I : xMem} (h : mR I m S) (hW : sWF S) : f_X9_sizeOfAll [.ref m] I = some (.inl (some (.int (nI (sT S)))), I) := by
  rw [e_X9_sizeOfAll]
  simp only [q_X9_sizeOfAll_0, q_X9_sizeOfAll_1, q_X9_sizeOfAll_2, q_X9_sizeOfAll_3, q_X9_sizeOfAll_5, q_X9_sizeOfAll_6, q_X9_sizeOfAll_7, q_X9_sizeOfAll_8, q_X9_sizeOfAll_11, q_X9_sizeOfAll_12, q_X9_sizeOfAll_13, q_X9_sizeOfAll_14, q_X9_sizeOfAll_17, q_X9_sizeOfAll_18, q_X9_sizeOfAll_19, q_X9_sizeOfAll_22, q_X9_sizeOfAll_25, q_X9_sizeOfAll_26]
  exact s9_total_l h hW (sq S) 0 (by omega)
end P23
