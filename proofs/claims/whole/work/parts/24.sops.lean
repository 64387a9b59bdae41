/-! ===== what the actions do to the state ===== -/
section P24
def nup (f : Nat → Nat) (k x : Nat) : Nat → Nat := fun j => if j = k then x else f j
/-- without the place k; and with x ahead of the place k -/
def nrm (f : Nat → Nat) (k : Nat) : Nat → Nat := fun j => if j < k then f j else f (j + 1)
def nin (f : Nat → Nat) (k x : Nat) : Nat → Nat := fun j => if j < k then f j else if j = k then x else f (j - 1)
theorem xsum_s (f : Nat → Nat) (n : Nat) : xsum f (n + 1) = xsum f n + f n := rfl
theorem xsum_nup_out {f : Nat → Nat} {k x n : Nat} (h : n ≤ k) : xsum (nup f k x) n = xsum f n := xsum_congr (fun j hj => by unfold nup; rw [if_neg (by omega)])
theorem xsum_nup {f : Nat → Nat} {k x : Nat} : ∀ {n : Nat}, k < n → xsum (nup f k x) n + f k = xsum f n + x
  | 0, h => absurd h (Nat.not_lt_zero _)
  | n + 1, h => by
    rw [xsum_s, xsum_s]
    by_cases e : k = n
    · subst e
      rw [xsum_nup_out (Nat.le_refl _)]
      have : nup f k x k = x := by unfold nup; rw [if_pos rfl]
      omega
    · have h1 := xsum_nup (f := f) (k := k) (x := x) (n := n) (by omega)
      have : nup f k x n = f n := by unfold nup; rw [if_neg (by omega)]
      omega
theorem xsum_nrm_out {f : Nat → Nat} {k n : Nat} (h : n ≤ k) : xsum (nrm f k) n = xsum f n := xsum_congr (fun j hj => by unfold nrm; rw [if_pos (by omega)])
theorem xsum_nrm {f : Nat → Nat} {k : Nat} : ∀ {n : Nat}, k ≤ n → xsum (nrm f k) n + f k = xsum f (n + 1)
  | 0, h => by
    have : k = 0 := by omega
    subst this
    rfl
  | n + 1, h => by
    by_cases e : k = n + 1
    · subst e
      rw [xsum_nrm_out (Nat.le_refl _), xsum_s f (n + 1)]
    · have h1 := xsum_nrm (f := f) (k := k) (n := n) (by omega)
      have : nrm f k n = f (n + 1) := by unfold nrm; rw [if_neg (by omega)]
      rw [xsum_s, xsum_s f (n + 1)]
      omega
theorem xsum_nin_out {f : Nat → Nat} {k x n : Nat} (h : n ≤ k) : xsum (nin f k x) n = xsum f n := xsum_congr (fun j hj => by unfold nin; rw [if_pos (by omega)])
theorem xsum_nin {f : Nat → Nat} {k x : Nat} : ∀ {n : Nat}, k ≤ n → xsum (nin f k x) (n + 1) = xsum f n + x
  | 0, h => by
    have : k = 0 := by omega
    subst this
    show 0 + nin f 0 x 0 = 0 + x
    unfold nin
    rw [if_neg (by omega), if_pos rfl]
  | n + 1, h => by
    rw [xsum_s]
    by_cases e : k = n + 1
    · subst e
      rw [xsum_nin_out (Nat.le_refl _)]
      unfold nin
      rw [if_neg (by omega), if_pos rfl]
    · rw [xsum_nin (by omega), xsum_s f n]
      have : nin f k x (n + 1) = f n := by unfold nin; rw [if_neg (by omega), if_neg (by omega)]; rfl
      omega
def sHasRoom (S : cS) : Bool := decide (0 < sq S ∧ sl S (sq S - 1) < sm S)
def sCanAdd (S : cS) : Bool := sHasRoom S || decide (sq S < 10)
def sAdd (S : cS) (v : Nat) : cS := if sHasRoom S = true then (nup (sv S) (sn S) v, sn S + 1, nup (sl S) (sq S - 1) (sl S (sq S - 1) + 1), sp S, sq S, sm S) else (nup (sv S) (sn S) v, sn S + 1, nup (sl S) (sq S) 1, nup (sp S) (sq S) 0, sq S + 1, sm S)
def sPut (S : cS) (i v : Nat) : cS := (nup (sv S) i v, sn S, sl S, sp S, sq S, sm S)
def sRem (S : cS) (i p : Nat) : cS := if sl S p = 1 then (nrm (sv S) i, sn S - 1, nrm (nup (sl S) p 0) p, nrm (sp S) p, sq S - 1, sm S) else (nrm (sv S) i, sn S - 1, nup (sl S) p (sl S p - 1), sp S, sq S, sm S)
def sCut (S : cS) (p k : Nat) : cS := (sv S, sn S, nin (nup (sl S) p k) (p + 1) (sl S p - k), nin (sp S) (p + 1) (sp S p), sq S + 1, sm S)
def sMp (S : cS) (p : Nat) : Nat := if sp S p = sp S (p + 1) then sp S p else 0
def sMrg (S : cS) (p : Nat) : cS := (sv S, sn S, nrm (nup (sl S) p (sl S p + sl S (p + 1))) (p + 1), nrm (nup (sp S) p (sMp S p)) (p + 1), sq S - 1, sm S)
def sPin (S : cS) (p c : Nat) : cS := (sv S, sn S, sl S, nup (sp S) p c, sq S, sm S)
def sLim (S : cS) (v : Nat) : cS := (sv S, sn S, sl S, sp S, sq S, v)
def sTake (S : cS) (w : Nat → Nat) (n : Nat) : cS := (fun j => if j < sn S then sv S j else w (j - sn S), sn S + n, nup (sl S) (sq S) n, nup (sp S) (sq S) 0, sq S + 1, sm S)
/-- what the two pages p and p+1 would have as one -/
def sThen (S : cS) (p : Nat) : Nat := pPin (sw S p) (sl S p + sl S (p + 1)) (sMp S p)
def sOk (S : cS) (p : Nat) : Bool := decide (p + 1 < sq S ∧ sl S p + sl S (p + 1) ≤ 12)
def sGn (S : cS) (p : Nat) : Bool := sOk S p && decide (sThen S p < sZ S p + sZ S (p + 1))
/-- the first page from k on whose merge saves, k + d if there is none among d -/
def sFind (S : cS) : Nat → Nat → Nat
  | 0, k => k
  | d + 1, k => if sGn S k = true then k else sFind S d (k + 1)
def sCmp : Nat → cS → cS × Nat
  | 0, S => (S, 0)
  | f + 1, S => if sFind S (sq S - 1) 0 < sq S - 1 then ((sCmp f (sMrg S (sFind S (sq S - 1) 0))).1, (sCmp f (sMrg S (sFind S (sq S - 1) 0))).2 + 1) else (S, 0)
theorem sHasRoom_iff {S : cS} : sHasRoom S = true ↔ 0 < sq S ∧ sl S (sq S - 1) < sm S := by unfold sHasRoom; exact decide_eq_true_iff
theorem sCanAdd_iff {S : cS} : sCanAdd S = true ↔ sHasRoom S = true ∨ sq S < 10 := by unfold sCanAdd; rw [Bool.or_eq_true, decide_eq_true_iff]
theorem sWF_add {S : cS} (h : sWF S) {v : Nat} (hv : v ≤ 1023) (hc : sCanAdd S = true) : sWF (sAdd S v) := by
  obtain ⟨h1, h2, h3, h4, h5, h6⟩ := h
  have hv' : ∀ j, j < sn S + 1 → nup (sv S) (sn S) v j ≤ 1023 := by
    intro j hj
    unfold nup
    split
    · exact hv
    · exact h5 j (by omega)
  unfold sAdd
  by_cases hr : sHasRoom S = true
  · rw [if_pos hr]
    obtain ⟨r1, r2⟩ := sHasRoom_iff.mp hr
    refine ⟨h1, h2, fun p hp => ?_, ?_, hv', h6⟩
    · show 1 ≤ nup (sl S) (sq S - 1) (sl S (sq S - 1) + 1) p ∧ nup (sl S) (sq S - 1) (sl S (sq S - 1) + 1) p ≤ 12
      unfold nup
      split
      · omega
      · exact h3 p hp
    · have := xsum_nup (f := sl S) (k := sq S - 1) (x := sl S (sq S - 1) + 1) (n := sq S) (by omega)
      show sn S + 1 = xsum (nup (sl S) (sq S - 1) (sl S (sq S - 1) + 1)) (sq S)
      have h4 : sn S = xsum (sl S) (sq S) := h4
      omega
  · rw [if_neg hr]
    have r1 : sq S < 10 := by
      rcases sCanAdd_iff.mp hc with q | q
      · exact absurd q hr
      · exact q
    refine ⟨r1, h2, fun p hp => ?_, ?_, hv', fun p hp => ?_⟩
    · show 1 ≤ nup (sl S) (sq S) 1 p ∧ nup (sl S) (sq S) 1 p ≤ 12
      have hp : p < sq S + 1 := hp
      unfold nup
      split
      · omega
      · exact h3 p (by omega)
    · show sn S + 1 = xsum (nup (sl S) (sq S) 1) (sq S + 1)
      rw [xsum_s, xsum_nup_out (Nat.le_refl _)]
      have e : nup (sl S) (sq S) 1 (sq S) = 1 := by unfold nup; rw [if_pos rfl]
      have h4 : sn S = xsum (sl S) (sq S) := h4
      omega
    · show nup (sp S) (sq S) 0 p ≤ 5
      have hp : p < sq S + 1 := hp
      unfold nup
      split
      · omega
      · exact h6 p (by omega)
theorem sWF_put {S : cS} (h : sWF S) {i v : Nat} (hv : v ≤ 1023) : sWF (sPut S i v) := by
  obtain ⟨h1, h2, h3, h4, h5, h6⟩ := h
  refine ⟨h1, h2, h3, h4, fun j hj => ?_, h6⟩
  show nup (sv S) i v j ≤ 1023
  unfold nup
  split
  · exact hv
  · exact h5 j hj
theorem sWF_rem {S : cS} (h : sWF S) {i p : Nat} (hi : i < sn S) (hp : p < sq S) : sWF (sRem S i p) := by
  obtain ⟨h1, h2, h3, h4, h5, h6⟩ := h
  have h4 : sn S = xsum (sl S) (sq S) := h4
  have hl := h3 p hp
  have hv' : ∀ j, j < sn S - 1 → nrm (sv S) i j ≤ 1023 := by
    intro j hj
    unfold nrm
    split
    · exact h5 j (by omega)
    · exact h5 (j + 1) (by omega)
  unfold sRem
  by_cases e : sl S p = 1
  · rw [if_pos e]
    refine ⟨?_, h2, fun q hq => ?_, ?_, hv', fun q hq => ?_⟩
    · show sq S - 1 ≤ 10; omega
    · show 1 ≤ nrm (nup (sl S) p 0) p q ∧ nrm (nup (sl S) p 0) p q ≤ 12
      have hq : q < sq S - 1 := hq
      unfold nrm nup
      split
      · rw [if_neg (by omega)]; exact h3 q (by omega)
      · rw [if_neg (by omega)]; exact h3 (q + 1) (by omega)
    · show sn S - 1 = xsum (nrm (nup (sl S) p 0) p) (sq S - 1)
      have a1 := xsum_nrm (f := nup (sl S) p 0) (k := p) (n := sq S - 1) (by omega)
      have a2 := xsum_nup (f := sl S) (k := p) (x := 0) (n := sq S) hp
      have a3 : nup (sl S) p 0 p = 0 := by unfold nup; rw [if_pos rfl]
      rw [show sq S - 1 + 1 = sq S by omega] at a1
      omega
    · show nrm (sp S) p q ≤ 5
      have hq : q < sq S - 1 := hq
      unfold nrm
      split
      · exact h6 q (by omega)
      · exact h6 (q + 1) (by omega)
  · rw [if_neg e]
    refine ⟨h1, h2, fun q hq => ?_, ?_, hv', h6⟩
    · show 1 ≤ nup (sl S) p (sl S p - 1) q ∧ nup (sl S) p (sl S p - 1) q ≤ 12
      unfold nup
      split
      · omega
      · exact h3 q hq
    · show sn S - 1 = xsum (nup (sl S) p (sl S p - 1)) (sq S)
      have a2 := xsum_nup (f := sl S) (k := p) (x := sl S p - 1) (n := sq S) hp
      omega
theorem sWF_cut {S : cS} (h : sWF S) {p k : Nat} (hp : p < sq S) (hq : sq S < 10) (hk : 1 ≤ k) (hk2 : k < sl S p) : sWF (sCut S p k) := by
  obtain ⟨h1, h2, h3, h4, h5, h6⟩ := h
  have h4 : sn S = xsum (sl S) (sq S) := h4
  have hl := h3 p hp
  refine ⟨hq, h2, fun q hq => ?_, ?_, h5, fun q hq => ?_⟩
  · show 1 ≤ nin (nup (sl S) p k) (p + 1) (sl S p - k) q ∧ nin (nup (sl S) p k) (p + 1) (sl S p - k) q ≤ 12
    have hq : q < sq S + 1 := hq
    unfold nin
    split
    · unfold nup
      split
      · omega
      · exact h3 q (by omega)
    · split
      · omega
      · unfold nup
        rw [if_neg (by omega)]
        exact h3 (q - 1) (by omega)
  · show sn S = xsum (nin (nup (sl S) p k) (p + 1) (sl S p - k)) (sq S + 1)
    have a2 := xsum_nup (f := sl S) (k := p) (x := k) (n := sq S) hp
    rw [xsum_nin (by omega)]
    omega
  · show nin (sp S) (p + 1) (sp S p) q ≤ 5
    have hq : q < sq S + 1 := hq
    unfold nin
    split
    · exact h6 q (by omega)
    · split
      · exact h6 p hp
      · exact h6 (q - 1) (by omega)
theorem sMp_le {S : cS} (h : sWF S) {p : Nat} (hp : p < sq S) : sMp S p ≤ 5 := by
  unfold sMp
  split
  · exact h.2.2.2.2.2 p hp
  · omega
theorem sWF_mrg {S : cS} (h : sWF S) {p : Nat} (hp : p + 1 < sq S) (h12 : sl S p + sl S (p + 1) ≤ 12) : sWF (sMrg S p) := by
  have hm := sMp_le h (p := p) (by omega)
  obtain ⟨h1, h2, h3, h4, h5, h6⟩ := h
  have h4 : sn S = xsum (sl S) (sq S) := h4
  have hl := h3 p (by omega)
  refine ⟨?_, h2, fun q hq => ?_, ?_, h5, fun q hq => ?_⟩
  · show sq S - 1 ≤ 10; omega
  · show 1 ≤ nrm (nup (sl S) p (sl S p + sl S (p + 1))) (p + 1) q ∧ nrm (nup (sl S) p (sl S p + sl S (p + 1))) (p + 1) q ≤ 12
    have hq : q < sq S - 1 := hq
    unfold nrm
    split
    · unfold nup
      split
      · omega
      · exact h3 q (by omega)
    · unfold nup
      rw [if_neg (by omega)]
      exact h3 (q + 1) (by omega)
  · show sn S = xsum (nrm (nup (sl S) p (sl S p + sl S (p + 1))) (p + 1)) (sq S - 1)
    have a1 := xsum_nrm (f := nup (sl S) p (sl S p + sl S (p + 1))) (k := p + 1) (n := sq S - 1) (by omega)
    have a2 := xsum_nup (f := sl S) (k := p) (x := sl S p + sl S (p + 1)) (n := sq S) (by omega)
    have a3 : nup (sl S) p (sl S p + sl S (p + 1)) (p + 1) = sl S (p + 1) := by unfold nup; rw [if_neg (by omega)]
    rw [show sq S - 1 + 1 = sq S by omega] at a1
    omega
  · show nrm (nup (sp S) p (sMp S p)) (p + 1) q ≤ 5
    have hq : q < sq S - 1 := hq
    unfold nrm
    split
    · unfold nup
      split
      · exact hm
      · exact h6 q (by omega)
    · unfold nup
      rw [if_neg (by omega)]
      exact h6 (q + 1) (by omega)
theorem sWF_pin {S : cS} (h : sWF S) {p c : Nat} (hc : c ≤ 5) : sWF (sPin S p c) := by
  obtain ⟨h1, h2, h3, h4, h5, h6⟩ := h
  refine ⟨h1, h2, h3, h4, h5, fun q hq => ?_⟩
  show nup (sp S) p c q ≤ 5
  unfold nup
  split
  · exact hc
  · exact h6 q hq
theorem sWF_lim {S : cS} (h : sWF S) {v : Nat} (h1 : 1 ≤ v) (h2 : v ≤ 12) : sWF (sLim S v) := ⟨h.1, ⟨h1, h2⟩, h.2.2⟩
theorem sWF_take {S : cS} (h : sWF S) {w : Nat → Nat} {n : Nat} (hq : sq S < 10) (h1 : 1 ≤ n) (h12 : n ≤ 12) (hw : ∀ j, j < n → w j ≤ 1023) : sWF (sTake S w n) := by
  obtain ⟨g1, h2, h3, h4, h5, h6⟩ := h
  refine ⟨hq, h2, fun p hp => ?_, ?_, fun j hj => ?_, fun p hp => ?_⟩
  · show 1 ≤ nup (sl S) (sq S) n p ∧ nup (sl S) (sq S) n p ≤ 12
    have hp : p < sq S + 1 := hp
    unfold nup
    split
    · omega
    · exact h3 p (by omega)
  · show sn S + n = xsum (nup (sl S) (sq S) n) (sq S + 1)
    rw [xsum_s, xsum_nup_out (Nat.le_refl _)]
    have e : nup (sl S) (sq S) n (sq S) = n := by unfold nup; rw [if_pos rfl]
    have h4 : sn S = xsum (sl S) (sq S) := h4
    omega
  · show (if j < sn S then sv S j else w (j - sn S)) ≤ 1023
    have hj : j < sn S + n := hj
    split
    · exact h5 j (by assumption)
    · exact hw _ (by omega)
  · show nup (sp S) (sq S) 0 p ≤ 5
    have hp : p < sq S + 1 := hp
    unfold nup
    split
    · omega
    · exact h6 p (by omega)
theorem sOk_iff {S : cS} {p : Nat} : sOk S p = true ↔ p + 1 < sq S ∧ sl S p + sl S (p + 1) ≤ 12 := by unfold sOk; exact decide_eq_true_iff
theorem sGn_ok {S : cS} {p : Nat} (h : sGn S p = true) : p + 1 < sq S ∧ sl S p + sl S (p + 1) ≤ 12 := by
  unfold sGn at h
  rw [Bool.and_eq_true] at h
  exact sOk_iff.mp h.1
theorem sFind_ge (S : cS) : ∀ d k, k ≤ sFind S d k
  | 0, k => Nat.le_refl _
  | d + 1, k => by
    have := sFind_ge S d (k + 1)
    unfold sFind
    split <;> omega
theorem sFind_gn (S : cS) : ∀ d k, sFind S d k < k + d → sGn S (sFind S d k) = true
  | 0, k, h => absurd h (Nat.lt_irrefl _)
  | d + 1, k, h => by
    unfold sFind at h ⊢
    by_cases q : sGn S k = true
    · rw [if_pos q]; exact q
    · rw [if_neg q] at h ⊢
      exact sFind_gn S d (k + 1) (by omega)
theorem sWF_cmp : ∀ (f : Nat) {S : cS}, sWF S → sWF (sCmp f S).1
  | 0, S, h => h
  | f + 1, S, h => by
    unfold sCmp
    by_cases q : sFind S (sq S - 1) 0 < sq S - 1
    · rw [if_pos q]
      have g := sGn_ok (sFind_gn S (sq S - 1) 0 (by omega))
      exact sWF_cmp f (sWF_mrg h g.1 g.2)
    · rw [if_neg q]; exact h
theorem sMrg_q (S : cS) (p : Nat) : sq (sMrg S p) = sq S - 1 := rfl
/-- more fuel than pages changes nothing -/
theorem sCmp_fuel : ∀ (f g : Nat) (S : cS), sq S ≤ f + 1 → sq S ≤ g + 1 → sCmp f S = sCmp g S
  | 0, 0, S, _, _ => rfl
  | 0, g + 1, S, h, _ => by
    unfold sCmp
    rw [if_neg (by omega)]
  | f + 1, 0, S, _, h => by
    unfold sCmp
    rw [if_neg (by omega)]
  | f + 1, g + 1, S, h1, h2 => by
    have e : sCmp f (sMrg S (sFind S (sq S - 1) 0)) = sCmp g (sMrg S (sFind S (sq S - 1) 0)) := sCmp_fuel f g _ (by rw [sMrg_q]; omega) (by rw [sMrg_q]; omega)
    unfold sCmp
    rw [e]
end P24
