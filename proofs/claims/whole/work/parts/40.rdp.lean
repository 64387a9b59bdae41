/-! ===== pages in the text: plain ===== -/
section P40
def cG (I : xMem) (t : Nat → Nat) (L n p : Nat) : Prop := tC I t L ∧ I 163 4 = nI n ∧ I 163 5 = nI p ∧ I 163 6 = -9999
def mG (I : xMem) (t : Nat → Nat) (L p : Nat) : Prop := tM I t L ∧ I 189 3 = nI p
def tGw (I I' : xMem) : Prop := (∀ c, c ≠ 163 → c ≠ 167 → c ≠ 169 → I' c = I c) ∧ ∀ j, j ≠ 5 → j ≠ 6 → I' 163 j = I 163 j
def mGw (I I' : xMem) : Prop := (∀ c, c ≠ 189 → c ≠ 198 → c ≠ 199 → I' c = I c) ∧ ∀ j, j ≠ 3 → I' 189 j = I 189 j
theorem tGw.rf {I : xMem} : tGw I I := ⟨fun _ _ _ _ => rfl, fun _ _ _ => rfl⟩
theorem mGw.rf {I : xMem} : mGw I I := ⟨fun _ _ _ _ => rfl, fun _ _ => rfl⟩
theorem tGw.tr {I I' I'' : xMem} (h : tGw I I') (h' : tGw I' I'') : tGw I I'' := ⟨fun c h1 h2 h3 => (h'.1 c h1 h2 h3).trans (h.1 c h1 h2 h3), fun j h5 h6 => (h'.2 j h5 h6).trans (h.2 j h5 h6)⟩
theorem mGw.tr {I I' I'' : xMem} (h : mGw I I') (h' : mGw I' I'') : mGw I I'' := ⟨fun c h1 h2 h3 => (h'.1 c h1 h2 h3).trans (h.1 c h1 h2 h3), fun j h5 => (h'.2 j h5).trans (h.2 j h5)⟩
theorem tGn.w {I I' : xMem} (h : tGn I I') : tGw I I' := ⟨fun c h1 _ _ => h.1 c h1, h.2⟩
theorem mGn.w {I I' : xMem} (h : mGn I I') : mGw I I' := ⟨fun c h1 _ _ => h.1 c h1, h.2⟩
theorem tGw.up {I I' : xMem} {a k : Nat} {x : Int32} (h : tGw I I') (ha : a = 167 ∨ a = 169) : tGw I (xup I' a k x) := ⟨fun c h1 h2 h3 => by rw [xup_o (by omega)]; exact h.1 c h1 h2 h3, fun j h5 h6 => by rw [xup_o (by omega)]; exact h.2 j h5 h6⟩
theorem mGw.up {I I' : xMem} {a k : Nat} {x : Int32} (h : mGw I I') (ha : a = 198 ∨ a = 199) : mGw I (xup I' a k x) := ⟨fun c h1 h2 h3 => by rw [xup_o (by omega)]; exact h.1 c h1 h2 h3, fun j h5 => by rw [xup_o (by omega)]; exact h.2 j h5⟩
abbrev rO : Type := Nat ⊕ (Nat × (Nat → Nat))
def rOk (r : rO) : Bool := match r with
  | .inl _ => false
  | .inr _ => true
def cOut (I I' : xMem) (L n : Nat) (r : rO) : Prop := tGw I I' ∧ match r with
  | .inl e => I' 163 6 = nI e ∧ e ≤ L
  | .inr x => I' 163 6 = -9999 ∧ I' 163 5 = nI x.1 ∧ x.1 ≤ L ∧ ∀ j, j < n → I' 167 j = nI (x.2 j) ∧ x.2 j ≤ 1023
def mOut (I I' : xMem) (n : Nat) (r : rO) : Prop := mGw I I' ∧ match r with
  | .inl e => I' 189 3 = nI e
  | .inr x => I' 189 3 = nI x.1 ∧ ∀ j, j < n → I' 198 j = nI (x.2 j)
theorem w166 : xRow 166 12 := ⟨by decide, by decide, by decide, by decide, by decide⟩
theorem w168 : xRow 168 12 := ⟨by decide, by decide, by decide, by decide, by decide⟩
theorem r163_1 : xR 163 1 = 166 := by decide
theorem r163_2 : xR 163 2 = 168 := by decide
theorem x198 : xK 198 = 10 := by decide
theorem x199 : xK 199 = 10 := by decide
theorem l198 : xL 198 = 12 := by decide
theorem l199 : xL 199 = 12 := by decide
theorem r9_13 : xR 189 13 = 198 := by decide
theorem r9_14 : xR 189 14 = 199 := by decide
section PQ
variable {t : Nat → Nat} {L : Nat}
theorem cG.go {I I' : xMem} {n p p' : Nat} (h : cG I t L n p) (hG : tGw I I') (h5 : I' 163 5 = nI p') (h6 : I' 163 6 = -9999) (e : I' 165 = I 165) : cG I' t L n p' := ⟨h.1.cg (hG.2 3 (by omega) (by omega)) e, by rw [hG.2 4 (by omega) (by omega)]; exact h.2.1, h5, h6⟩
theorem mG.go {I I' : xMem} {p p' : Nat} (h : mG I t L p) (hG : mGw I I') (h3 : I' 189 3 = nI p') (e : I' 190 = I 190) : mG I' t L p' := ⟨h.1.cg (hG.2 2 (by omega)) e, h3⟩
/-- both sides read a number alike -/
theorem num2 (hL : L ≤ 160) (ht : ∀ j, j < L → t j ≤ 255) {wd lo hi p : Nat} (hlh : lo ≤ hi) (hhi : hi ≤ 5000) (hw : wd ≤ 12) (hp : p ≤ L) (hw0 : 1 ≤ wd ∨ lo = 0) : (∃ e, e ≤ L ∧ (∀ I n, cG I t L n p → ∃ I', f_X3_readNumber [.ref 163, .int (nI wd), .int (nI lo), .int (nI hi)] I = some (.inl (some (.int (nI lo))), I') ∧ tGn I I' ∧ I' 163 6 = nI e) ∧ (∀ I, mG I t L p → ∃ I', f_X9_numberIn [.ref 189, .int (nI wd), .int (nI lo), .int (nI hi)] I = some (.inl (some (.int (-9999))), I') ∧ mGn I I' ∧ I' 189 3 = nI e)) ∨ (∃ v p', lo ≤ v ∧ v ≤ hi ∧ p' ≤ L ∧ (∀ I n, cG I t L n p → ∃ I', f_X3_readNumber [.ref 163, .int (nI wd), .int (nI lo), .int (nI hi)] I = some (.inl (some (.int (nI v))), I') ∧ tGn I I' ∧ cG I' t L n p') ∧ (∀ I, mG I t L p → ∃ I', f_X9_numberIn [.ref 189, .int (nI wd), .int (nI lo), .int (nI hi)] I = some (.inl (some (.int (nI v))), I') ∧ mGn I I' ∧ mG I' t L p')) := by
  have hc : ∀ I n, cG I t L n p → _ := fun I n h => s3_num (I := I) (wd := wd) (lo := lo) (hi := hi) hL ht (by omega) hhi hw (by omega) h.1 h.2.2.1 h.2.2.2
  have hm : ∀ I, mG I t L p → _ := fun I h => s9_numIn (I := I) (wd := wd) (lo := lo) (hi := hi) hL ht hlh hhi hw (by omega) h.1 h.2
  have hle := pN_le (t := t) (L := L) (ok := okc lo hi) (k := wd) (v := 0) hp
  have hrg := fun x => pN_range (t := t) (L := L) (lo := lo) (hi := hi) (k := wd) (v := 0) (p := p) (by omega) x
  cases hr : pN t L (okc lo hi) wd 0 p with
  | inl e =>
    refine Or.inl ⟨e, hle.1 e hr, fun I n h => ?_, fun I h => ?_⟩
    · obtain ⟨I', f1, f2, f3⟩ := hc I n h
      rw [hr] at f1 f3
      exact ⟨I', f1, f2, f3.1⟩
    · obtain ⟨I', f1, f2, f3⟩ := hm I h
      rw [hr] at f1 f3
      exact ⟨I', f1, f2, f3⟩
  | inr x =>
    have a := hrg x hr
    refine Or.inr ⟨x.1, x.2, a.1.1, a.1.2, hle.2 x hr, fun I n h => ?_, fun I h => ?_⟩
    · obtain ⟨I', f1, f2, f3⟩ := hc I n h
      rw [hr] at f1 f3
      exact ⟨I', f1, f2, h.go f2.w f3.2 f3.1 (f2.1 165 (by omega))⟩
    · obtain ⟨I', f1, f2, f3⟩ := hm I h
      rw [hr] at f1 f3
      exact ⟨I', f1, f2, h.go f2.w f3 (f2.1 190 (by omega))⟩
theorem s3_val {I : xMem} {r : Option (Option Value ⊕ Nat) × xMem} {I' : xMem} {v : Nat} (h : f_X3_readNumber [.ref 163, .int (nI 10), .int (nI 0), .int (nI 1023)] I = some (.inl (some (.int (nI v))), I')) : f_X3_readValue [.ref 163] I = some (.inl (some (.int (nI v))), I') := by
  have k3 := x163
  rw [e_X3_readValue]
  simp (disch := omega) only [q_X3_readValue_0, q_X3_readValue_1, q_X3_readValue_3, q_X3_readValue_4, q_X3_readValue_7, q_X3_readValue_10, nI_add, pI_le, pI_lt, pI_eq, pI_neg, pI_nn, pI_le0, pI_gt0, pI_eq0, xbV_s, xbU_s, if_true, if_false, bI_eq0, Nat.reduceAdd, Nat.reduceSub, Nat.reduceEqDiff, Nat.reduceLeDiff, Nat.reduceLT, Bool.true_eq_false, Bool.false_eq_true, k3, h]
theorem s3_valE {I : xMem} {e : Nat} (h6 : I 163 6 = nI e) (he : e ≤ 200) : f_X3_readValue [.ref 163] I = some (.inl (some (.int (nI 0))), I) := by
  have k3 := x163
  rw [e_X3_readValue]
  simp (disch := omega) only [q_X3_readValue_0, q_X3_readValue_1, q_X3_readValue_3, q_X3_readValue_4, q_X3_readValue_7, q_X3_readValue_10, nI_add, pI_le, pI_lt, pI_eq, pI_neg, pI_nn, pI_le0, pI_gt0, pI_eq0, xbV_s, xbU_s, if_true, if_false, bI_eq0, Nat.reduceAdd, Nat.reduceSub, Nat.reduceEqDiff, Nat.reduceLeDiff, Nat.reduceLT, Bool.true_eq_false, Bool.false_eq_true, k3, s3_numE (wd := 10) (lo := 0) (hi := 1023) (by omega) h6 he]
/-- a reader of pages: both alike -/
def RD (t : Nat → Nat) (L : Nat) (f g : List Value → xMem → Option ((Option Value ⊕ Nat) × xMem)) (n p : Nat) : Prop := ∃ r : rO, (∀ I, cG I t L n p → ∃ I', f [.ref 163] I = some (.inl none, I') ∧ cOut I I' L n r) ∧ (∀ I, mG I t L p → ∃ I', g [.ref 189, .int (nI n)] I = some (.inl (some (.int (bI (rOk r)))), I') ∧ mOut I I' n r)
theorem rp_E {n e : Nat} (hn : n ≤ 12) (he : e ≤ 200) : ∀ d k (I : xMem), k + d = n → I 163 4 = nI n → I 163 6 = nI e → ∃ I', xgo k_X3_readPlain 2 [some (.ref 163), some (.int (nI k))] [] I = some (.inl none, I') ∧ tGw I I' ∧ I' 163 6 = nI e := by
  have k3 := x163
  have kr := w166.1
  intro d
  induction d with
  | zero =>
    intro k I hk h4 h6
    have e1 : k = n := by omega
    refine ⟨I, ?_, tGw.rf, h6⟩
    rw [e1, q_X3_readPlain_2]
    simp (disch := omega) only [q_X3_readPlain_0, q_X3_readPlain_1, q_X3_readPlain_3, q_X3_readPlain_4, q_X3_readPlain_7, q_X3_readPlain_10, q_X3_readPlain_11, q_X3_readPlain_14, q_X3_readPlain_15, q_X3_readPlain_16, q_X3_readPlain_19, q_X3_readPlain_22, q_X3_readPlain_25, q_X3_readPlain_28, nI_add, pI_le, pI_lt, pI_eq, pI_neg, pI_nn, pI_le0, pI_gt0, pI_eq0, xbV_s, xbU_s, if_true, if_false, bI_eq0, Nat.reduceAdd, Nat.reduceSub, Nat.reduceEqDiff, Nat.reduceLeDiff, Nat.reduceLT, Bool.true_eq_false, Bool.false_eq_true, k3, h4, Nat.le_refl]
  | succ d ih =>
    intro k I hk h4 h6
    have n1 : ¬ n ≤ k := by omega
    obtain ⟨I', f1, f2, f3⟩ := ih (k + 1) (xup I 167 k (nI 0)) (by omega) (by rw [xup_o (by omega)]; exact h4) (by rw [xup_o (by omega)]; exact h6)
    refine ⟨I', ?_, (tGw.rf.up (Or.inl rfl)).tr f2, f3⟩
    rw [q_X3_readPlain_2]
    simp (disch := omega) only [q_X3_readPlain_0, q_X3_readPlain_1, q_X3_readPlain_3, q_X3_readPlain_4, q_X3_readPlain_7, q_X3_readPlain_10, q_X3_readPlain_11, q_X3_readPlain_14, q_X3_readPlain_15, q_X3_readPlain_16, q_X3_readPlain_19, q_X3_readPlain_22, q_X3_readPlain_25, q_X3_readPlain_28, nI_add, pI_le, pI_lt, pI_eq, pI_neg, pI_nn, pI_le0, pI_gt0, pI_eq0, xbV_s, xbU_s, if_true, if_false, bI_eq0, Nat.reduceAdd, Nat.reduceSub, Nat.reduceEqDiff, Nat.reduceLeDiff, Nat.reduceLT, Bool.true_eq_false, Bool.false_eq_true, k3, kr, r163_1, h4, n1, s3_valE h6 he, s_set w166]
    exact f1
theorem rp_l (hL : L ≤ 160) (ht : ∀ j, j < L → t j ≤ 255) {n : Nat} (hn : n ≤ 12) : ∀ d k p (w : Nat → Nat), k + d = n → p ≤ L → (∀ j, j < k → w j ≤ 1023) → ∃ r : rO, (∀ I, cG I t L n p → (∀ j, j < k → I 167 j = nI (w j)) → ∃ I', xgo k_X3_readPlain 2 [some (.ref 163), some (.int (nI k))] [] I = some (.inl none, I') ∧ cOut I I' L n r) ∧ (∀ I, mG I t L p → (∀ j, j < k → I 198 j = nI (w j)) → ∃ I', xgo k_X9_readPlain 2 [some (.ref 189), some (.int (nI n)), some (.int (nI k))] [] I = some (.inl (some (.int (bI (rOk r)))), I') ∧ mOut I I' n r) := by
  have k3 := x163
  have kr := w166.1
  have k9 := x189
  have k98 := x198
  have l98 := l198
  intro d
  induction d with
  | zero =>
    intro k p w hk hp hw
    have e1 : k = n := by omega
    refine ⟨.inr (p, w), fun I h hv => ⟨I, ?_, tGw.rf, h.2.2.2, h.2.2.1, hp, fun j hj => ⟨hv j (by omega), hw j (by omega)⟩⟩, fun I h hv => ⟨I, ?_, mGw.rf, h.2, fun j hj => hv j (by omega)⟩⟩
    · have h4 := h.2.1
      rw [e1, q_X3_readPlain_2]
      simp (disch := omega) only [q_X3_readPlain_0, q_X3_readPlain_1, q_X3_readPlain_3, q_X3_readPlain_4, q_X3_readPlain_7, q_X3_readPlain_10, q_X3_readPlain_11, q_X3_readPlain_14, q_X3_readPlain_15, q_X3_readPlain_16, q_X3_readPlain_19, q_X3_readPlain_22, q_X3_readPlain_25, q_X3_readPlain_28, nI_add, pI_le, pI_lt, pI_eq, pI_neg, pI_nn, pI_le0, pI_gt0, pI_eq0, xbV_s, xbU_s, if_true, if_false, bI_eq0, Nat.reduceAdd, Nat.reduceSub, Nat.reduceEqDiff, Nat.reduceLeDiff, Nat.reduceLT, Bool.true_eq_false, Bool.false_eq_true, k3, h4, Nat.le_refl]
    · rw [e1, q_X9_readPlain_2]
      simp (disch := omega) only [q_X9_readPlain_0, q_X9_readPlain_1, q_X9_readPlain_3, q_X9_readPlain_4, q_X9_readPlain_7, q_X9_readPlain_8, q_X9_readPlain_11, q_X9_readPlain_12, q_X9_readPlain_13, q_X9_readPlain_15, q_X9_readPlain_16, q_X9_readPlain_19, q_X9_readPlain_22, q_X9_readPlain_23, q_X9_readPlain_24, q_X9_readPlain_27, q_X9_readPlain_28, q_X9_readPlain_29, q_X9_readPlain_32, q_X9_readPlain_35, q_X9_readPlain_36_b, q_X9_readPlain_36_0, q_X9_readPlain_36_1, q_X9_readPlain_37, q_X9_readPlain_40, q_X9_readPlain_43, q_X9_readPlain_44_b, q_X9_readPlain_44_0, q_X9_readPlain_44_1, nI_add, pI_le, pI_lt, pI_eq, pI_neg, pI_nn, pI_le0, pI_gt0, pI_eq0, xbV_s, xbU_s, if_true, if_false, bI_eq0, Nat.reduceAdd, Nat.reduceSub, Nat.reduceEqDiff, Nat.reduceLeDiff, Nat.reduceLT, Bool.true_eq_false, Bool.false_eq_true, Nat.le_refl]
      rfl
  | succ d ih =>
    intro k p w hk hp hw
    have n1 : ¬ n ≤ k := by omega
    rcases num2 hL ht (wd := 10) (lo := 0) (hi := 1023) (p := p) (by omega) (by omega) (by omega) hp (by omega) with ⟨e, he, hc, hm⟩ | ⟨v, p', hv1, hv2, hp', hc, hm⟩
    · refine ⟨.inl e, fun I h hv => ?_, fun I h hv => ?_⟩
      · obtain ⟨I1, f1, f2, f3⟩ := hc I n h
        have h4 := h.2.1
        obtain ⟨I', g1, g2, g3⟩ := rp_E (n := n) (e := e) hn (by omega) d (k + 1) (xup I1 167 k (nI 0)) (by omega) (by rw [xup_o (by omega), f2.2 4 (by omega) (by omega)]; exact h4) (by rw [xup_o (by omega)]; exact f3)
        refine ⟨I', ?_, (f2.w.up (Or.inl rfl)).tr g2, g3, he⟩
        rw [q_X3_readPlain_2]
        simp (disch := omega) only [q_X3_readPlain_0, q_X3_readPlain_1, q_X3_readPlain_3, q_X3_readPlain_4, q_X3_readPlain_7, q_X3_readPlain_10, q_X3_readPlain_11, q_X3_readPlain_14, q_X3_readPlain_15, q_X3_readPlain_16, q_X3_readPlain_19, q_X3_readPlain_22, q_X3_readPlain_25, q_X3_readPlain_28, nI_add, pI_le, pI_lt, pI_eq, pI_neg, pI_nn, pI_le0, pI_gt0, pI_eq0, xbV_s, xbU_s, if_true, if_false, bI_eq0, Nat.reduceAdd, Nat.reduceSub, Nat.reduceEqDiff, Nat.reduceLeDiff, Nat.reduceLT, Bool.true_eq_false, Bool.false_eq_true, k3, kr, r163_1, h4, n1, s3_val (r := (none, I)) f1, s_set w166]
        exact g1
      · obtain ⟨I1, f1, f2, f3⟩ := hm I h
        refine ⟨xup I1 198 k (-9999), ?_, f2.w.up (Or.inl rfl), by rw [xup_o (by omega)]; exact f3⟩
        rw [q_X9_readPlain_2]
        simp (disch := omega) only [q_X9_readPlain_0, q_X9_readPlain_1, q_X9_readPlain_3, q_X9_readPlain_4, q_X9_readPlain_7, q_X9_readPlain_8, q_X9_readPlain_11, q_X9_readPlain_12, q_X9_readPlain_13, q_X9_readPlain_15, q_X9_readPlain_16, q_X9_readPlain_19, q_X9_readPlain_22, q_X9_readPlain_23, q_X9_readPlain_24, q_X9_readPlain_27, q_X9_readPlain_28, q_X9_readPlain_29, q_X9_readPlain_32, q_X9_readPlain_35, q_X9_readPlain_36_b, q_X9_readPlain_36_0, q_X9_readPlain_36_1, q_X9_readPlain_37, q_X9_readPlain_40, q_X9_readPlain_43, q_X9_readPlain_44_b, q_X9_readPlain_44_0, q_X9_readPlain_44_1, nI_add, pI_le, pI_lt, pI_eq, pI_neg, pI_nn, pI_le0, pI_gt0, pI_eq0, xbV_s, xbU_s, if_true, if_false, bI_eq0, Nat.reduceAdd, Nat.reduceSub, Nat.reduceEqDiff, Nat.reduceLeDiff, Nat.reduceLT, Bool.true_eq_false, Bool.false_eq_true, n1, k9, k98, l98, r9_13, f1, xup_s]
        rfl
    · obtain ⟨r, hc2, hm2⟩ := ih (k + 1) p' (nup w k v) (by omega) hp' (fun j hj => by
        unfold nup
        split
        · exact hv2
        · exact hw j (by omega))
      refine ⟨r, fun I h hv => ?_, fun I h hv => ?_⟩
      · obtain ⟨I1, f1, f2, f3⟩ := hc I n h
        have h4 := h.2.1
        obtain ⟨I', g1, g2⟩ := hc2 (xup I1 167 k (nI v)) (f3.go (tGw.rf.up (Or.inl rfl)) (by rw [xup_o (by omega)]; exact f3.2.2.1) (by rw [xup_o (by omega)]; exact f3.2.2.2) (by rw [xup_o (by omega)])) (fun j hj => by
          unfold nup
          by_cases q : j = k
          · rw [if_pos q, q, xup_s]
          · rw [if_neg q, xup_d q, f2.1 167 (by omega)]; exact hv j (by omega))
        refine ⟨I', ?_, (f2.w.up (Or.inl rfl)).tr g2.1, g2.2⟩
        rw [q_X3_readPlain_2]
        simp (disch := omega) only [q_X3_readPlain_0, q_X3_readPlain_1, q_X3_readPlain_3, q_X3_readPlain_4, q_X3_readPlain_7, q_X3_readPlain_10, q_X3_readPlain_11, q_X3_readPlain_14, q_X3_readPlain_15, q_X3_readPlain_16, q_X3_readPlain_19, q_X3_readPlain_22, q_X3_readPlain_25, q_X3_readPlain_28, nI_add, pI_le, pI_lt, pI_eq, pI_neg, pI_nn, pI_le0, pI_gt0, pI_eq0, xbV_s, xbU_s, if_true, if_false, bI_eq0, Nat.reduceAdd, Nat.reduceSub, Nat.reduceEqDiff, Nat.reduceLeDiff, Nat.reduceLT, Bool.true_eq_false, Bool.false_eq_true, k3, kr, r163_1, h4, n1, s3_val (r := (none, I)) f1, s_set w166]
        exact g1
      · obtain ⟨I1, f1, f2, f3⟩ := hm I h
        obtain ⟨I', g1, g2⟩ := hm2 (xup I1 198 k (nI v)) (f3.go (mGw.rf.up (Or.inl rfl)) (by rw [xup_o (by omega)]; exact f3.2) (by rw [xup_o (by omega)])) (fun j hj => by
          unfold nup
          by_cases q : j = k
          · rw [if_pos q, q, xup_s]
          · rw [if_neg q, xup_d q, f2.1 198 (by omega)]; exact hv j (by omega))
        refine ⟨I', ?_, (f2.w.up (Or.inl rfl)).tr g2.1, g2.2⟩
        rw [q_X9_readPlain_2]
        simp (disch := omega) only [q_X9_readPlain_0, q_X9_readPlain_1, q_X9_readPlain_3, q_X9_readPlain_4, q_X9_readPlain_7, q_X9_readPlain_8, q_X9_readPlain_11, q_X9_readPlain_12, q_X9_readPlain_13, q_X9_readPlain_15, q_X9_readPlain_16, q_X9_readPlain_19, q_X9_readPlain_22, q_X9_readPlain_23, q_X9_readPlain_24, q_X9_readPlain_27, q_X9_readPlain_28, q_X9_readPlain_29, q_X9_readPlain_32, q_X9_readPlain_35, q_X9_readPlain_36_b, q_X9_readPlain_36_0, q_X9_readPlain_36_1, q_X9_readPlain_37, q_X9_readPlain_40, q_X9_readPlain_43, q_X9_readPlain_44_b, q_X9_readPlain_44_0, q_X9_readPlain_44_1, nI_add, pI_le, pI_lt, pI_eq, pI_neg, pI_nn, pI_le0, pI_gt0, pI_eq0, xbV_s, xbU_s, if_true, if_false, bI_eq0, Nat.reduceAdd, Nat.reduceSub, Nat.reduceEqDiff, Nat.reduceLeDiff, Nat.reduceLT, Bool.true_eq_false, Bool.false_eq_true, n1, k9, k98, l98, r9_13, f1, xup_s, pI_ne9]
        exact g1
theorem rd_plain (hL : L ≤ 160) (ht : ∀ j, j < L → t j ≤ 255) {n p : Nat} (hn : n ≤ 12) (hp : p ≤ L) : RD t L f_X3_readPlain f_X9_readPlain n p := by
  obtain ⟨r, h1, h2⟩ := rp_l hL ht hn n 0 p (fun _ => 0) (by omega) hp (fun j hj => absurd hj (Nat.not_lt_zero _))
  refine ⟨r, fun I h => ?_, fun I h => ?_⟩
  · obtain ⟨I', g1, g2⟩ := h1 I h (fun j hj => absurd hj (Nat.not_lt_zero _))
    refine ⟨I', ?_, g2⟩
    rw [e_X3_readPlain]
    simp (disch := omega) only [q_X3_readPlain_0, q_X3_readPlain_1, nI_add, pI_le, pI_lt, pI_eq, pI_neg, pI_nn, pI_le0, pI_gt0, pI_eq0, xbV_s, xbU_s, if_true, if_false, bI_eq0, Nat.reduceAdd, Nat.reduceSub, Nat.reduceEqDiff, Nat.reduceLeDiff, Nat.reduceLT, Bool.true_eq_false, Bool.false_eq_true]
    exact g1
  · obtain ⟨I', g1, g2⟩ := h2 I h (fun j hj => absurd hj (Nat.not_lt_zero _))
    refine ⟨I', ?_, g2⟩
    rw [e_X9_readPlain]
    simp (disch := omega) only [q_X9_readPlain_0, q_X9_readPlain_1, nI_add, pI_le, pI_lt, pI_eq, pI_neg, pI_nn, pI_le0, pI_gt0, pI_eq0, xbV_s, xbU_s, if_true, if_false, bI_eq0, Nat.reduceAdd, Nat.reduceSub, Nat.reduceEqDiff, Nat.reduceLeDiff, Nat.reduceLT, Bool.true_eq_false, Bool.false_eq_true]
    exact g1
end PQ
end P40
