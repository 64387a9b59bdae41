/-! ===== small rows for the equations of the steps ===== -/
section XM6
theorem xAll_c {P : Nat → xOp → Prop} {pc : Nat} {o : xOp} {t : xCode} (h : P pc o) (ht : xAll P t) : xAll P ((pc, o) :: t) := ⟨h, ht⟩
theorem xgo_ifd {k : xCode} {pc p1 p2 : Nat} {L L1 L2 : List (Option Value)} {st s1 s2 : List Value} {I I1 I2 : xMem} {P : Prop} {dP : Decidable P} (h : xstep k pc L st I = if @decide P dP = true then some (.inl (p1, L1, s1, I1)) else some (.inl (p2, L2, s2, I2))) : xgo k pc L st I = @ite _ P dP (xgo k p1 L1 s1 I1) (xgo k p2 L2 s2 I2) := by
  by_cases hP : P
  · rw [if_pos hP]
    rw [if_pos (by simpa using hP)] at h
    exact xgo_nx h
  · rw [if_neg hP]
    rw [if_neg (by simpa using hP)] at h
    exact xgo_nx h
theorem xgo_ifn {k : xCode} {pc p1 p2 : Nat} {L L1 L2 : List (Option Value)} {st s1 s2 : List Value} {I I1 I2 : xMem} {P : Prop} {dP : Decidable P} (h : xstep k pc L st I = if (!(@decide P dP)) = true then some (.inl (p1, L1, s1, I1)) else some (.inl (p2, L2, s2, I2))) : xgo k pc L st I = @ite _ P dP (xgo k p2 L2 s2 I2) (xgo k p1 L1 s1 I1) := by
  by_cases hP : P
  · rw [if_pos hP]
    rw [if_neg (by simpa using hP)] at h
    exact xgo_nx h
  · rw [if_neg hP]
    rw [if_pos (by simpa using hP)] at h
    exact xgo_nx h
theorem xL_small (a : Nat) : xL a < 2 ^ 31 := by
  unfold xL
  rw [List.getD_eq_getElem?_getD]
  cases h : xLl[a]? with
  | none => exact Nat.lt_of_lt_of_le Nat.zero_lt_one (Nat.le_of_ble_eq_true rfl)
  | some v =>
    have hm := List.mem_of_getElem? h
    have hall : ∀ v ∈ xLl, v < 2 ^ 31 := by decide +kernel
    exact hall v hm
theorem xInB_L {a j : Nat} (hj : j < xL a) : xInB (nI j) (xL a) = true := xInB_nI hj (xL_small a)
theorem xL_cl {a j : Nat} (hj : j < xL a) : (nI j).toNatClampNeg = j := nI_clamp (Nat.lt_trans hj (xL_small a))
theorem oIald_n {nx a j : Nat} {L : List (Option Value)} {r : List Value} {I : xMem} (h : xK a = 10) (hj : j < xL a) : oIald nx L (.int (nI j) :: .ref a :: r) I = some (.inl (nx, L, .int (I a j) :: r, I)) := by rw [oIald_ok h (xInB_L hj), xL_cl hj]
theorem oZald_n {nx a j : Nat} {L : List (Option Value)} {r : List Value} {I : xMem} (h : xK a = 11) (hj : j < xL a) : oZald nx L (.int (nI j) :: .ref a :: r) I = some (.inl (nx, L, .int (I a j) :: r, I)) := by rw [oZald_ok h (xInB_L hj), xL_cl hj]
theorem oQald_n {nx a j : Nat} {L : List (Option Value)} {r : List Value} {I : xMem} (h : xK a = 13) (hj : j < xL a) : oQald nx L (.int (nI j) :: .ref a :: r) I = some (.inl (nx, L, .ref (xR a j) :: r, I)) := by rw [oQald_ok h (xInB_L hj), xL_cl hj]
theorem oIast_n {nx a j : Nat} {x : Int32} {L : List (Option Value)} {r : List Value} {I : xMem} (h : xK a = 10) (hj : j < xL a) : oIast nx L (.int x :: .int (nI j) :: .ref a :: r) I = some (.inl (nx, L, r, xup I a j x)) := by rw [oIast_ok h (xInB_L hj), xL_cl hj]
theorem oZast_n {nx a j : Nat} {x : Int32} {L : List (Option Value)} {r : List Value} {I : xMem} (h : xK a = 11) (hj : j < xL a) : oZast nx L (.int x :: .int (nI j) :: .ref a :: r) I = some (.inl (nx, L, r, xup I a j (vp_nar .boolean x))) := by rw [oZast_ok h (xInB_L hj), xL_cl hj]
theorem oZret_0 {L : List (Option Value)} {I : xMem} : oZret L [.int (nI 0)] I = some (.inr (.inl (some (.int (nI 0))), I)) := by
  show (if nI 0 = 0 ∨ nI 0 = 1 then some (.inr (.inl (some (.int (nI 0))), I)) else none : Option xNx) = _
  exact if_pos (Or.inl rfl)
theorem oZret_1 {L : List (Option Value)} {I : xMem} : oZret L [.int (nI 1)] I = some (.inr (.inl (some (.int (nI 1))), I)) := by
  show (if nI 1 = 0 ∨ nI 1 = 1 then some (.inr (.inl (some (.int (nI 1))), I)) else none : Option xNx) = _
  exact if_pos (Or.inr rfl)
def bI (b : Bool) : Int32 := if b = true then nI 1 else nI 0
theorem oZret_b {L : List (Option Value)} {I : xMem} {b : Bool} : oZret L [.int (bI b)] I = some (.inr (.inl (some (.int (bI b))), I)) := by
  cases b
  · exact oZret_0
  · exact oZret_1
theorem oDiv_ok {f : Int32 → Int32 → Int32} {nx : Nat} {x y : Int32} {L : List (Option Value)} {r : List Value} {I : xMem} (h : ¬ y = 0) : oDiv f nx L (.int y :: .int x :: r) I = some (.inl (nx, L, .int (f x y) :: r, I)) := by
  show ite _ _ _ = _
  rw [if_neg h]
theorem oLDiv_ok {f : Int64 → Int64 → Int64} {nx : Nat} {x y : Int64} {L : List (Option Value)} {r : List Value} {I : xMem} (h : ¬ y = 0) : oLDiv f nx L (.long y :: .long x :: r) I = some (.inl (nx, L, .long (f x y) :: r, I)) := by
  show ite _ _ _ = _
  rw [if_neg h]
end XM6
