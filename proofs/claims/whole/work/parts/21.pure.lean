/-! ===== what a page's numbers are: of values w 0, w 1 .. (n of them) ===== -/
section P21
/-- x is not among the first k -/
def pFree (w : Nat → Nat) (x : Nat) : Nat → Bool
  | 0 => true
  | k + 1 => pFree w x k && !(decide (w k = x))
def pDiff (w : Nat → Nat) : Nat → Nat
  | 0 => 0
  | k + 1 => pDiff w k + (if pFree w (w k) k = true then 1 else 0)
/-- where x comes first, n if it doesn't -/
def pPos (w : Nat → Nat) (x : Nat) : Nat → Nat
  | 0 => 0
  | k + 1 => if pFree w x k = true then (if w k = x then k else k + 1) else pPos w x k
def pWord (w : Nat → Nat) (x n : Nat) : Nat := pDiff w (pPos w x n)
def pMn (w : Nat → Nat) : Nat → Nat
  | 0 => 1023
  | k + 1 => min (pMn w k) (w k)
def pMx (w : Nat → Nat) : Nat → Nat
  | 0 => 0
  | k + 1 => max (pMx w k) (w k)
def pRuns (w : Nat → Nat) : Nat → Nat
  | 0 => 1
  | 1 => 1
  | k + 2 => pRuns w (k + 1) + (if w (k + 1) = w k then 0 else 1)
def pWd (v : Nat) : Nat := if v = 0 then 0 else Nat.log2 v + 1
def pSt (a b : Nat) : Nat := 1 + pWd (if b < a then a - b - 1 else b - a)
def pStep (w : Nat → Nat) : Nat → Nat
  | 0 => 1
  | 1 => 1
  | k + 2 => max (pStep w (k + 1)) (pSt (w k) (w (k + 1)))
def pSize (w : Nat → Nat) (n : Nat) : Nat → Nat
  | 0 => 7 + 10 * n
  | 1 => 11 + 10 * pDiff w n + n * pWd (pDiff w n - 1)
  | 2 => 7 + 14 * pRuns w n
  | 3 => 21 + n * pWd (pMx w n - pMn w n)
  | _ => 21 + (n - 1) * pStep w n
def pBst (w : Nat → Nat) (n : Nat) : Nat → Nat
  | 0 => 0
  | c + 1 => if pSize w n (c + 1) < pSize w n (pBst w n c) then c + 1 else pBst w n c
def pBest (w : Nat → Nat) (n : Nat) : Nat := pBst w n 4
/-- the coding of a page pinned so (0: not) -/
def pCod (w : Nat → Nat) (n pin : Nat) : Nat := if pin = 0 then pBest w n else pin - 1
def pPin (w : Nat → Nat) (n pin : Nat) : Nat := pSize w n (pCod w n pin)
theorem pRuns_ss (w : Nat → Nat) (k : Nat) : pRuns w (k + 1 + 1) = pRuns w (k + 1) + (if w (k + 1) = w k then 0 else 1) := rfl
theorem pStep_ss (w : Nat → Nat) (k : Nat) : pStep w (k + 1 + 1) = max (pStep w (k + 1)) (pSt (w k) (w (k + 1))) := rfl
theorem pBst_s (w : Nat → Nat) (n c : Nat) : pBst w n (c + 1) = if pSize w n (c + 1) < pSize w n (pBst w n c) then c + 1 else pBst w n c := rfl
theorem pFree_iff {w : Nat → Nat} {x : Nat} : ∀ {k : Nat}, pFree w x k = true ↔ ∀ j, j < k → w j ≠ x
  | 0 => ⟨fun _ j hj => absurd hj (Nat.not_lt_zero j), fun _ => rfl⟩
  | k + 1 => by
    unfold pFree
    rw [Bool.and_eq_true, pFree_iff]
    constructor
    · rintro ⟨h1, h2⟩ j hj
      by_cases e : j = k
      · subst e; simpa using h2
      · exact h1 j (by omega)
    · intro h
      exact ⟨fun j hj => h j (by omega), by simpa using h k (by omega)⟩
theorem pFree_congr {w u : Nat → Nat} {x k : Nat} (h : ∀ j, j < k → w j = u j) : pFree w x k = pFree u x k := by
  induction k with
  | zero => rfl
  | succ k ih => unfold pFree; rw [ih (fun j hj => h j (by omega)), h k (by omega)]
theorem pDiff_congr {w u : Nat → Nat} {k : Nat} (h : ∀ j, j < k → w j = u j) : pDiff w k = pDiff u k := by
  induction k with
  | zero => rfl
  | succ k ih => unfold pDiff; rw [ih (fun j hj => h j (by omega)), h k (by omega), pFree_congr (fun j hj => h j (by omega))]
theorem pMn_congr {w u : Nat → Nat} {k : Nat} (h : ∀ j, j < k → w j = u j) : pMn w k = pMn u k := by
  induction k with
  | zero => rfl
  | succ k ih => unfold pMn; rw [ih (fun j hj => h j (by omega)), h k (by omega)]
theorem pMx_congr {w u : Nat → Nat} {k : Nat} (h : ∀ j, j < k → w j = u j) : pMx w k = pMx u k := by
  induction k with
  | zero => rfl
  | succ k ih => unfold pMx; rw [ih (fun j hj => h j (by omega)), h k (by omega)]
theorem pRuns_congr {w u : Nat → Nat} : ∀ {k : Nat}, (∀ j, j < k → w j = u j) → pRuns w k = pRuns u k
  | 0, _ => rfl
  | 1, _ => rfl
  | k + 2, h => by
    unfold pRuns
    rw [pRuns_congr (k := k + 1) (fun j hj => h j (by omega)), h k (by omega), h (k + 1) (by omega)]
theorem pStep_congr {w u : Nat → Nat} : ∀ {k : Nat}, (∀ j, j < k → w j = u j) → pStep w k = pStep u k
  | 0, _ => rfl
  | 1, _ => rfl
  | k + 2, h => by
    unfold pStep
    rw [pStep_congr (k := k + 1) (fun j hj => h j (by omega)), h k (by omega), h (k + 1) (by omega)]
theorem pSize_congr {w u : Nat → Nat} {n c : Nat} (h : ∀ j, j < n → w j = u j) : pSize w n c = pSize u n c := by
  unfold pSize
  rw [pDiff_congr h, pRuns_congr h, pMn_congr h, pMx_congr h, pStep_congr h]
theorem pBst_congr {w u : Nat → Nat} {n : Nat} (h : ∀ j, j < n → w j = u j) : ∀ c, pBst w n c = pBst u n c
  | 0 => rfl
  | c + 1 => by
    unfold pBst
    rw [pBst_congr h c, pSize_congr h, pSize_congr h]
theorem pCod_congr {w u : Nat → Nat} {n pin : Nat} (h : ∀ j, j < n → w j = u j) : pCod w n pin = pCod u n pin := by
  unfold pCod pBest
  rw [pBst_congr h]
theorem pPin_congr {w u : Nat → Nat} {n pin : Nat} (h : ∀ j, j < n → w j = u j) : pPin w n pin = pPin u n pin := by
  unfold pPin
  rw [pCod_congr h, pSize_congr h]
theorem pDiff_le (w : Nat → Nat) : ∀ n, pDiff w n ≤ n
  | 0 => Nat.le_refl _
  | n + 1 => by
    have := pDiff_le w n
    unfold pDiff
    split <;> omega
theorem pDiff_pos (w : Nat → Nat) : ∀ {n}, 0 < n → 0 < pDiff w n
  | 0, h => absurd h (by omega)
  | 1, _ => Nat.one_pos
  | n + 2, _ => by
    have := pDiff_pos w (n := n + 1) (by omega)
    unfold pDiff
    omega
theorem pDiff_mono (w : Nat → Nat) {n m : Nat} (h : n ≤ m) : pDiff w n ≤ pDiff w m := by
  induction h with
  | refl => exact Nat.le_refl _
  | step _ ih => exact Nat.le_trans ih (Nat.le_add_right _ _)
theorem pDiff_new (w : Nat → Nat) {n : Nat} (h : pFree w (w n) n = true) : pDiff w (n + 1) = pDiff w n + 1 := by
  show pDiff w n + (if pFree w (w n) n = true then 1 else 0) = pDiff w n + 1
  rw [if_pos h]
theorem pDiff_old (w : Nat → Nat) {n : Nat} (h : ¬ pFree w (w n) n = true) : pDiff w (n + 1) = pDiff w n := by
  show pDiff w n + (if pFree w (w n) n = true then 1 else 0) = pDiff w n
  rw [if_neg h, Nat.add_zero]
theorem pMn_le (w : Nat → Nat) : ∀ n, pMn w n ≤ 1023
  | 0 => Nat.le_refl _
  | n + 1 => by have := pMn_le w n; unfold pMn; omega
theorem pMn_at (w : Nat → Nat) : ∀ {n j}, j < n → pMn w n ≤ w j
  | 0, j, h => absurd h (by omega)
  | n + 1, j, h => by
    unfold pMn
    by_cases e : j = n
    · subst e; omega
    · have := pMn_at w (n := n) (j := j) (by omega); omega
theorem pMx_at (w : Nat → Nat) : ∀ {n j}, j < n → w j ≤ pMx w n
  | 0, j, h => absurd h (by omega)
  | n + 1, j, h => by
    unfold pMx
    by_cases e : j = n
    · subst e; omega
    · have := pMx_at w (n := n) (j := j) (by omega); omega
theorem pMx_le {w : Nat → Nat} {b : Nat} : ∀ {n}, (∀ j, j < n → w j ≤ b) → pMx w n ≤ b
  | 0, _ => Nat.zero_le _
  | n + 1, h => by
    have h1 := pMx_le (n := n) (fun j hj => h j (by omega))
    have h2 := h n (by omega)
    unfold pMx
    omega
theorem pMn_pMx (w : Nat → Nat) {n : Nat} (h : 0 < n) : pMn w n ≤ pMx w n := Nat.le_trans (pMn_at w h) (pMx_at w h)
theorem pRuns_le (w : Nat → Nat) : ∀ n, pRuns w n ≤ n + 1
  | 0 => by unfold pRuns; omega
  | 1 => by unfold pRuns; omega
  | n + 2 => by
    have := pRuns_le w (n + 1)
    unfold pRuns
    split <;> omega
theorem pRuns_pos (w : Nat → Nat) : ∀ n, 1 ≤ pRuns w n
  | 0 => Nat.le_refl _
  | 1 => Nat.le_refl _
  | n + 2 => by
    have := pRuns_pos w (n + 1)
    unfold pRuns
    omega
theorem pRuns_le1 (w : Nat → Nat) : ∀ {n}, 0 < n → pRuns w n ≤ n
  | 0, h => absurd h (by omega)
  | 1, _ => Nat.le_refl _
  | n + 2, _ => by
    have := pRuns_le1 w (n := n + 1) (by omega)
    unfold pRuns
    split <;> omega
theorem pWd_le {v k : Nat} : pWd v ≤ k ↔ v < 2 ^ k := by
  unfold pWd
  by_cases h : v = 0
  · rw [if_pos h, h]
    exact ⟨fun _ => Nat.pow_pos (by decide), fun _ => Nat.zero_le _⟩
  · rw [if_neg h]
    exact Nat.log2_lt h
theorem pWd_small {v k : Nat} (h : v < 2 ^ k) : pWd v ≤ k := pWd_le.mpr h
theorem pWd10 {v : Nat} (h : v ≤ 1023) : pWd v ≤ 10 := pWd_small (by omega)
theorem pWd4 {v : Nat} (h : v ≤ 11) : pWd v ≤ 4 := pWd_small (by omega)
theorem pSt_le {a b : Nat} (ha : a ≤ 1023) (hb : b ≤ 1023) : pSt a b ≤ 11 := by
  unfold pSt
  have : pWd (if b < a then a - b - 1 else b - a) ≤ 10 := pWd10 (by split <;> omega)
  omega
theorem pStep_pos (w : Nat → Nat) : ∀ n, 1 ≤ pStep w n
  | 0 => Nat.le_refl _
  | 1 => Nat.le_refl _
  | n + 2 => by
    have := pStep_pos w (n + 1)
    unfold pStep
    omega
theorem pStep_le {w : Nat → Nat} : ∀ {n}, (∀ j, j < n → w j ≤ 1023) → pStep w n ≤ 11
  | 0, _ => by unfold pStep; omega
  | 1, _ => by unfold pStep; omega
  | n + 2, h => by
    have h1 := pStep_le (n := n + 1) (fun j hj => h j (by omega))
    have h2 := pSt_le (h n (by omega)) (h (n + 1) (by omega))
    unfold pStep
    omega
theorem pSize_le {w : Nat → Nat} {n : Nat} (hn : n ≤ 12) (h : ∀ j, j < n → w j ≤ 1023) (c : Nat) : pSize w n c ≤ 189 := by
  have h1 := pDiff_le w n
  have h2 := pRuns_le w n
  have h3 := pStep_le h
  have h4 : pWd (pDiff w n - 1) ≤ 4 := pWd4 (by omega)
  have h5 : pWd (pMx w n - pMn w n) ≤ 10 := pWd10 (by have := pMx_le h; omega)
  have m1 : n * pWd (pDiff w n - 1) ≤ 12 * 4 := Nat.mul_le_mul hn h4
  have m2 : n * pWd (pMx w n - pMn w n) ≤ 12 * 10 := Nat.mul_le_mul hn h5
  have m3 : (n - 1) * pStep w n ≤ 12 * 11 := Nat.mul_le_mul (by omega) h3
  unfold pSize
  split <;> omega
theorem pBst_le (w : Nat → Nat) (n : Nat) : ∀ c, pBst w n c ≤ c
  | 0 => Nat.le_refl _
  | c + 1 => by
    have := pBst_le w n c
    unfold pBst
    split <;> omega
theorem pBest_le (w : Nat → Nat) (n : Nat) : pBest w n ≤ 4 := pBst_le w n 4
theorem pCod_le (w : Nat → Nat) (n : Nat) {pin : Nat} (h : pin ≤ 5) : pCod w n pin ≤ 4 := by
  unfold pCod
  have := pBest_le w n
  split <;> omega
theorem pPin_le {w : Nat → Nat} {n : Nat} (hn : n ≤ 12) (h : ∀ j, j < n → w j ≤ 1023) (pin : Nat) : pPin w n pin ≤ 189 := pSize_le hn h _
theorem pPos_le (w : Nat → Nat) (x : Nat) : ∀ n, pPos w x n ≤ n
  | 0 => Nat.le_refl _
  | n + 1 => by
    have := pPos_le w x n
    unfold pPos
    split
    · split <;> omega
    · omega
end P21
