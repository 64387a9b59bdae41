/-! ===== the abstract walk: a method's code as a list of steps over numbers alone; what it computes is what the machine does ===== -/
section XM1
/-- numbers: object or array k, its slot j -/
abbrev xMem : Type := Nat → Nat → Int32
/-- a method's end: what it returns, or which exception it throws (1: argument, 2: state, 3: index), and the numbers then -/
abbrev xRes : Type := (Option Value ⊕ Nat) × xMem
abbrev xNx : Type := (Nat × List (Option Value) × List Value × xMem) ⊕ xRes
abbrev xOp : Type := List (Option Value) → List Value → xMem → Option xNx
abbrev xCode : Type := List (Nat × xOp)
def xlk : xCode → Nat → Option xOp
  | [], _ => none
  | q :: t, p => cond (Nat.beq p q.1) (some q.2) (xlk t p)
def xstep (k : xCode) (pc : Nat) (L : List (Option Value)) (st : List Value) (I : xMem) : Option xNx :=
  match xlk k pc with
  | none => none
  | some o => o L st I
def xit (k : xCode) : Nat → Nat → List (Option Value) → List Value → xMem → Option xRes
  | 0, _, _, _, _ => none
  | n + 1, pc, L, st, I => match xstep k pc L st I with
    | none => none
    | some (.inr r) => some r
    | some (.inl (pc', L', st', I')) => xit k n pc' L' st' I'
theorem xit_s {k : xCode} : ∀ {n pc : Nat} {L : List (Option Value)} {st : List Value} {I : xMem} {r : xRes}, xit k n pc L st I = some r → xit k (n + 1) pc L st I = some r := by
  intro n
  induction n with
  | zero => intro pc L st I r h; exact absurd h (by simp [xit])
  | succ n ih =>
    intro pc L st I r h
    unfold xit at h ⊢
    split at h
    · cases h
    · exact h
    · exact ih h
theorem xit_le {k : xCode} {n m pc : Nat} {L : List (Option Value)} {st : List Value} {I : xMem} {r : xRes} (hnm : n ≤ m) (h : xit k n pc L st I = some r) : xit k m pc L st I = some r := by
  induction hnm with
  | refl => exact h
  | step _ ih => exact xit_s ih
theorem xit_det {k : xCode} {n m pc : Nat} {L : List (Option Value)} {st : List Value} {I : xMem} {r r' : xRes} (h : xit k n pc L st I = some r) (h' : xit k m pc L st I = some r') : r = r' := by
  rcases Nat.le_total n m with q | q
  · exact Option.some.inj ((xit_le q h).symm.trans h')
  · exact Option.some.inj (h.symm.trans (xit_le q h'))
/-- what the code computes from here: the end, if it comes to one -/
noncomputable def xgo (k : xCode) (pc : Nat) (L : List (Option Value)) (st : List Value) (I : xMem) : Option xRes :=
  @dite _ (∃ (r : xRes) (n : Nat), xit k n pc L st I = some r) (Classical.propDecidable _) (fun h => some (Classical.choose h)) (fun _ => none)
theorem xgo_iff {k : xCode} {pc : Nat} {L : List (Option Value)} {st : List Value} {I : xMem} {r : xRes} : xgo k pc L st I = some r ↔ ∃ n, xit k n pc L st I = some r := by
  unfold xgo
  by_cases h : ∃ (r : xRes) (n : Nat), xit k n pc L st I = some r
  · rw [dif_pos h]
    obtain ⟨n, hn⟩ := Classical.choose_spec h
    constructor
    · intro e
      exact ⟨n, by rw [hn]; exact e⟩
    · rintro ⟨m, hm⟩
      rw [xit_det hn hm]
  · rw [dif_neg h]
    constructor
    · intro e; cases e
    · rintro ⟨m, hm⟩
      exact absurd ⟨r, m, hm⟩ h
theorem xgo_nx {k : xCode} {pc pc' : Nat} {L L' : List (Option Value)} {st st' : List Value} {I I' : xMem} (h : xstep k pc L st I = some (.inl (pc', L', st', I'))) : xgo k pc L st I = xgo k pc' L' st' I' := by
  apply Option.ext
  intro r
  show xgo k pc L st I = some r ↔ xgo k pc' L' st' I' = some r
  rw [xgo_iff, xgo_iff]
  constructor
  · rintro ⟨n, hn⟩
    cases n with
    | zero => exact absurd hn (by simp [xit])
    | succ n =>
      refine ⟨n, ?_⟩
      unfold xit at hn
      rw [h] at hn
      exact hn
  · rintro ⟨n, hn⟩
    refine ⟨n + 1, ?_⟩
    unfold xit
    rw [h]
    exact hn
theorem xgo_fin {k : xCode} {pc : Nat} {L : List (Option Value)} {st : List Value} {I : xMem} {r : xRes} (h : xstep k pc L st I = some (.inr r)) : xgo k pc L st I = some r := by
  rw [xgo_iff]
  refine ⟨1, ?_⟩
  unfold xit
  rw [h]
theorem xgo_no {k : xCode} {pc : Nat} {L : List (Option Value)} {st : List Value} {I : xMem} (h : xstep k pc L st I = none) : xgo k pc L st I = none := by
  apply Option.ext
  intro r
  show xgo k pc L st I = some r ↔ none = some r
  rw [xgo_iff]
  constructor
  · rintro ⟨n, hn⟩
    cases n with
    | zero => exact absurd hn (by simp [xit])
    | succ n =>
      unfold xit at hn
      rw [h] at hn
      cases hn
  · intro e; cases e
theorem xgo_if {k : xCode} {pc p1 p2 : Nat} {L L1 L2 : List (Option Value)} {st s1 s2 : List Value} {I I1 I2 : xMem} (P : Prop) {dP : Decidable P} (h : xstep k pc L st I = @ite _ P dP (some (.inl (p1, L1, s1, I1))) (some (.inl (p2, L2, s2, I2)))) : xgo k pc L st I = @ite _ P dP (xgo k p1 L1 s1 I1) (xgo k p2 L2 s2 I2) := by
  by_cases hP : P
  · rw [if_pos hP] at h ⊢
    exact xgo_nx h
  · rw [if_neg hP] at h ⊢
    exact xgo_nx h
/-- a call's value goes on -/
def xbV (r : Option xRes) (f : Value → xMem → Option xRes) : Option xRes := match r with
  | some (.inl (some v), I') => f v I'
  | _ => none
def xbU (r : Option xRes) (f : xMem → Option xRes) : Option xRes := match r with
  | some (.inl none, I') => f I'
  | _ => none
theorem xbV_s {v : Value} {I' : xMem} {f : Value → xMem → Option xRes} : xbV (some (.inl (some v), I')) f = f v I' := rfl
theorem xbU_s {I' : xMem} {f : xMem → Option xRes} : xbU (some (.inl none, I')) f = f I' := rfl
theorem xgo_cV {k : xCode} {pc nx : Nat} {L : List (Option Value)} {st rest : List Value} {I : xMem} {r : Option xRes}
    (h : xstep k pc L st I = match r with
      | some (.inl (some v), I') => some (.inl (nx, L, v :: rest, I'))
      | _ => none) : xgo k pc L st I = xbV r (fun v I' => xgo k nx L (v :: rest) I') := by
  rcases r with _ | ⟨(_ | v) | j, I'⟩
  · exact xgo_no h
  · exact xgo_no h
  · exact xgo_nx h
  · exact xgo_no h
theorem xgo_cU {k : xCode} {pc nx : Nat} {L : List (Option Value)} {st rest : List Value} {I : xMem} {r : Option xRes}
    (h : xstep k pc L st I = match r with
      | some (.inl none, I') => some (.inl (nx, L, rest, I'))
      | _ => none) : xgo k pc L st I = xbU r (fun I' => xgo k nx L rest I') := by
  rcases r with _ | ⟨(_ | v) | j, I'⟩
  · exact xgo_no h
  · exact xgo_nx h
  · exact xgo_no h
  · exact xgo_no h
-- locals
def xnth : List (Option Value) → Nat → Option Value
  | [], _ => none
  | a :: _, 0 => a
  | _ :: t, n + 1 => xnth t n
def xset : List (Option Value) → Nat → Option Value → List (Option Value)
  | [], _, _ => []
  | _ :: t, 0, v => v :: t
  | a :: t, n + 1, v => a :: xset t n v
def xcat2 : Option Value → Bool
  | some (.long _) => true
  | some (.double _) => true
  | _ => false
/-- the place ahead of i holds no long -/
def xok (L : List (Option Value)) (i : Nat) : Bool := match i with
  | 0 => true
  | j + 1 => !(xcat2 (xnth L j))
def xex : List Value → List (Option Value)
  | [] => []
  | v :: t => if v.category = 2 then some v :: none :: xex t else some v :: xex t
def xpad : Nat → List (Option Value) → List (Option Value)
  | 0, _ => []
  | n + 1, [] => none :: xpad n []
  | n + 1, a :: t => a :: xpad n t
def xin (n : Nat) (vs : List Value) : List (Option Value) := xpad n (xex vs)
-- steps
def oIload (i nx : Nat) : xOp := fun L st I => match xnth L i with
  | some (.int x) => some (.inl (nx, L, .int x :: st, I))
  | _ => none
def oLload (i nx : Nat) : xOp := fun L st I => match xnth L i with
  | some (.long x) => some (.inl (nx, L, .long x :: st, I))
  | _ => none
def oAload (i nx : Nat) : xOp := fun L st I => match xnth L i with
  | some (.ref x) => some (.inl (nx, L, .ref x :: st, I))
  | some .null => some (.inl (nx, L, .null :: st, I))
  | _ => none
def oIstore (i nL nx : Nat) : xOp := fun L st I => match st with
  | .int x :: r => cond (Nat.blt i nL && xok L i) (some (.inl (nx, xset L i (some (.int x)), r, I))) none
  | _ => none
def oLstore (i nL nx : Nat) : xOp := fun L st I => match st with
  | .long x :: r => cond (Nat.blt (i + 1) nL && xok L i) (some (.inl (nx, xset (xset L i (some (.long x))) (i + 1) none, r, I))) none
  | _ => none
def oAstore (i nL nx : Nat) : xOp := fun L st I => match st with
  | .ref x :: r => cond (Nat.blt i nL && xok L i) (some (.inl (nx, xset L i (some (.ref x)), r, I))) none
  | .null :: r => cond (Nat.blt i nL && xok L i) (some (.inl (nx, xset L i (some .null), r, I))) none
  | _ => none
def oIinc (i : Nat) (n : Int32) (nL nx : Nat) : xOp := fun L st I => match xnth L i with
  | some (.int x) => cond (Nat.blt i nL && xok L i) (some (.inl (nx, xset L i (some (.int (x + n))), st, I))) none
  | _ => none
def oConst (x : Int32) (nx : Nat) : xOp := fun L st I => some (.inl (nx, L, .int x :: st, I))
def oLconst (x : Int64) (nx : Nat) : xOp := fun L st I => some (.inl (nx, L, .long x :: st, I))
def oNull (nx : Nat) : xOp := fun L st I => some (.inl (nx, L, .null :: st, I))
def oBin (f : Int32 → Int32 → Int32) (nx : Nat) : xOp := fun L st I => match st with
  | .int y :: .int x :: r => some (.inl (nx, L, .int (f x y) :: r, I))
  | _ => none
def oDiv (f : Int32 → Int32 → Int32) (nx : Nat) : xOp := fun L st I => match st with
  | .int y :: .int x :: r => if y = 0 then none else some (.inl (nx, L, .int (f x y) :: r, I))
  | _ => none
def oUn (f : Int32 → Int32) (nx : Nat) : xOp := fun L st I => match st with
  | .int x :: r => some (.inl (nx, L, .int (f x) :: r, I))
  | _ => none
def oLBin (f : Int64 → Int64 → Int64) (nx : Nat) : xOp := fun L st I => match st with
  | .long y :: .long x :: r => some (.inl (nx, L, .long (f x y) :: r, I))
  | _ => none
def oLDiv (f : Int64 → Int64 → Int64) (nx : Nat) : xOp := fun L st I => match st with
  | .long y :: .long x :: r => if y = 0 then none else some (.inl (nx, L, .long (f x y) :: r, I))
  | _ => none
def oLSh (f : Int64 → Int32 → Int64) (nx : Nat) : xOp := fun L st I => match st with
  | .int y :: .long x :: r => some (.inl (nx, L, .long (f x y) :: r, I))
  | _ => none
def oI2l (nx : Nat) : xOp := fun L st I => match st with
  | .int x :: r => some (.inl (nx, L, .long x.toInt64 :: r, I))
  | _ => none
def oL2i (nx : Nat) : xOp := fun L st I => match st with
  | .long x :: r => some (.inl (nx, L, .int x.toInt32 :: r, I))
  | _ => none
def oLcmp (nx : Nat) : xOp := fun L st I => match st with
  | .long y :: .long x :: r => some (.inl (nx, L, .int (lg_cmp x y) :: r, I))
  | _ => none
def oDup (nx : Nat) : xOp := fun L st I => match st with
  | .int x :: r => some (.inl (nx, L, .int x :: .int x :: r, I))
  | .ref x :: r => some (.inl (nx, L, .ref x :: .ref x :: r, I))
  | _ => none
def oDup2 (nx : Nat) : xOp := fun L st I => match st with
  | .int y :: .ref x :: r => some (.inl (nx, L, .int y :: .ref x :: .int y :: .ref x :: r, I))
  | _ => none
def oPop (nx : Nat) : xOp := fun L st I => match st with
  | .int _ :: r => some (.inl (nx, L, r, I))
  | _ => none
def oGoto (t : Nat) : xOp := fun L st I => some (.inl (t, L, st, I))
def oIf1 (P : Int32 → Bool) (t nx : Nat) : xOp := fun L st I => match st with
  | .int x :: r => if P x = true then some (.inl (t, L, r, I)) else some (.inl (nx, L, r, I))
  | _ => none
def oIf2 (P : Int32 → Int32 → Bool) (t nx : Nat) : xOp := fun L st I => match st with
  | .int y :: .int x :: r => if P x y = true then some (.inl (t, L, r, I)) else some (.inl (nx, L, r, I))
  | _ => none
def oIfnull (t nx : Nat) : xOp := fun L st I => match st with
  | .null :: r => some (.inl (t, L, r, I))
  | .ref _ :: r => some (.inl (nx, L, r, I))
  | _ => none
/-- a switch over small numbers: the places in order from lo on, then the one for all others -/
def xsel : Int32 → Int → List Nat → Nat → Nat
  | _, _, [], d => d
  | x, lo, t :: ts, d => if x.toInt = lo then t else xsel x (lo + 1) ts d
def oTab (lo : Int) (ts : List Nat) (d : Nat) : xOp := fun L st I => match st with
  | .int x :: r => some (.inl (xsel x lo ts d, L, r, I))
  | _ => none
def xsel2 : Int32 → List (Int × Nat) → Nat → Nat
  | _, [], d => d
  | x, q :: ts, d => if x.toInt = q.1 then q.2 else xsel2 x ts d
def oLkp (ts : List (Int × Nat)) (d : Nat) : xOp := fun L st I => match st with
  | .int x :: r => some (.inl (xsel2 x ts d, L, r, I))
  | _ => none
def oMax (nx : Nat) : xOp := fun L st I => match st with
  | .int y :: .int x :: r => cond (Nat.ble ((r.map fun v => v.category).sum) 8) (some (.inl (nx, L, .int (if x < y then y else x) :: r, I))) none
  | _ => none
def oMin (nx : Nat) : xOp := fun L st I => match st with
  | .int y :: .int x :: r => cond (Nat.ble ((r.map fun v => v.category).sum) 8) (some (.inl (nx, L, .int (if y < x then y else x) :: r, I))) none
  | _ => none
def oIret : xOp := fun _ st I => match st with
  | [.int x] => some (.inr (.inl (some (.int x)), I))
  | _ => none
def oZret : xOp := fun _ st I => match st with
  | [.int x] => if x = 0 ∨ x = 1 then some (.inr (.inl (some (.int x)), I)) else none
  | _ => none
def oAret : xOp := fun _ st I => match st with
  | [.ref x] => some (.inr (.inl (some (.ref x)), I))
  | [.null] => some (.inr (.inl (some .null), I))
  | _ => none
def oVret : xOp := fun _ st I => match st with
  | [] => some (.inr (.inl none, I))
  | _ => none
def oThrow (k : Nat) : xOp := fun _ st I => cond (Nat.ble ((st.map fun v => v.category).sum) 8) (some (.inr (.inr k, I))) none
end XM1
