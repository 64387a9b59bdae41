/-! ===== how the numbers lie in the machine's cells ===== -/
section XM2
def xKl : List Nat := [8, 0, 5, 10, 5, 10, 5, 10, 2, 10, 0, 5, 10, 5, 10, 5, 10, 2, 10, 0, 5, 10, 5, 10, 5, 10, 2, 10, 0, 5, 10, 5, 10, 5, 10, 2, 10, 0, 5, 10, 5, 10, 5, 10, 2, 10, 0, 5, 10, 5, 10, 5, 10, 2, 10, 0, 5, 10, 5, 10, 5, 10, 2, 10, 0, 5, 10, 5, 10, 5, 10, 2, 10, 0, 5, 10, 5, 10, 5, 10, 2, 10, 0, 5, 10, 5, 10, 5, 10, 2, 10, 0, 5, 10, 5, 10, 5, 10, 2, 10, 0, 5, 10, 5, 10, 5, 10, 2, 10, 0, 5, 10, 5, 10, 5, 10, 2, 10, 0, 5, 10, 5, 10, 5, 10, 2, 10, 0, 5, 10, 5, 10, 5, 10, 2, 10, 0, 5, 10, 5, 10, 5, 10, 2, 10, 0, 5, 10, 5, 10, 5, 10, 2, 10, 0, 5, 10, 5, 10, 5, 10, 2, 10, 3, 5, 10, 5, 10, 5, 10, 4, 5, 10, 1, 7, 13, 5, 10, 7, 13, 5, 10, 6, 2, 10, 5, 10, 5, 10, 9, 10, 10, 10, 10, 10, 10, 11, 10, 10, 10, 10, 12, 0, 5, 10, 5, 10, 5, 10, 2, 10]
def xLl : List Nat := [0, 0, 0, 120, 0, 10, 0, 10, 0, 12, 0, 0, 120, 0, 10, 0, 10, 0, 12, 0, 0, 120, 0, 10, 0, 10, 0, 12, 0, 0, 120, 0, 10, 0, 10, 0, 12, 0, 0, 120, 0, 10, 0, 10, 0, 12, 0, 0, 120, 0, 10, 0, 10, 0, 12, 0, 0, 120, 0, 10, 0, 10, 0, 12, 0, 0, 120, 0, 10, 0, 10, 0, 12, 0, 0, 120, 0, 10, 0, 10, 0, 12, 0, 0, 120, 0, 10, 0, 10, 0, 12, 0, 0, 120, 0, 10, 0, 10, 0, 12, 0, 0, 120, 0, 10, 0, 10, 0, 12, 0, 0, 120, 0, 10, 0, 10, 0, 12, 0, 0, 120, 0, 10, 0, 10, 0, 12, 0, 0, 120, 0, 10, 0, 10, 0, 12, 0, 0, 120, 0, 10, 0, 10, 0, 12, 0, 0, 120, 0, 10, 0, 10, 0, 12, 0, 0, 120, 0, 10, 0, 10, 0, 12, 0, 0, 160, 0, 12, 0, 12, 0, 0, 179, 0, 0, 14, 0, 14, 0, 2, 0, 2, 0, 0, 12, 0, 121, 0, 3, 0, 160, 142, 142, 142, 1988, 284, 2, 200, 12, 12, 121, 1, 0, 0, 120, 0, 10, 0, 10, 0, 12]
def xK (a : Nat) : Nat := xKl.getD a 99
def xL (a : Nat) : Nat := xLl.getD a 0
def xR8 : Nat → Nat
  | 0 => 1
  | 1 => 163
  | 2 => 170
  | 3 => 173
  | 4 => 178
  | 5 => 10
  | 6 => 182
  | 7 => 183
  | 8 => 185
  | _ => 187
def xR9 : Nat → Nat
  | 1 => 190
  | 4 => 191
  | 5 => 192
  | 6 => 193
  | 7 => 194
  | 9 => 195
  | 10 => 196
  | 11 => 197
  | 13 => 198
  | 14 => 199
  | _ => 200
/-- the cell to which slot j of cell a points; it never changes -/
def xR (a j : Nat) : Nat := match xK a with
  | 0 => a + (2 * j + 1)
  | 3 => a + (2 * j + 1)
  | 6 => 202
  | 7 => a + (j + 1)
  | 8 => xR8 j
  | 9 => xR9 j
  | 13 => (if a = 175 then 19 else 145) + 9 * j
  | _ => a + 1
def xNf : Nat → Nat
  | 0 => 7
  | 1 => 3
  | 2 => 10
  | 3 => 7
  | 4 => 2
  | 5 => 1
  | 6 => 1
  | 7 => 2
  | 8 => 10
  | _ => 17
/-- which fields are references -/
def xFr (c j : Nat) : Bool := match c with
  | 0 => Nat.blt j 4
  | 1 => Nat.blt j 1
  | 2 => Nat.blt j 1
  | 3 => Nat.blt j 3
  | 4 => Nat.blt j 1
  | 5 => true
  | 6 => true
  | 7 => true
  | 8 => true
  | _ => match j with
    | 0 => false
    | 2 => false
    | 3 => false
    | 8 => false
    | 12 => false
    | 15 => false
    | _ => true
/-- the classes and slots, the addresses, the classes of arrays, the first address that may be written -/
abbrev xG : Type := va_G × (Nat → Nat) × (Nat → ClassId) × Nat
def xTys (g : xG) : List (ClassId × FieldType) := [(g.2.2.1 0, .int), (g.2.2.1 1, .boolean), (g.2.2.1 2, .long), (g.2.2.1 3, .object RX0)]
def xA (g : xG) : Nat → Prop := fun q => g.2.2.2 ≤ q
def xc (g : xG) : Value → Value
  | .ref k => .ref (g.2.1 k)
  | v => v
def xFv (g : xG) (I : xMem) (a j : Nat) : Value := if xFr (xK a) j = true then .ref (g.2.1 (xR a j)) else .int (I a j)
def xFs (g : xG) (I : xMem) (a : Nat) : List Value := (List.range (xNf (xK a))).map (xFv g I a)
def xCell (g : xG) (I : xMem) (a : Nat) : va_E :=
  if xK a = 10 then .inl (g.2.2.1 0, xL a, .inl (I a)) else
  if xK a = 11 then .inl (g.2.2.1 1, xL a, .inl (I a)) else
  if xK a = 12 then .inl (g.2.2.1 2, xL a, .inr (.inl (fun j => (I a j).toInt64))) else
  if xK a = 13 then .inl (g.2.2.1 3, xL a, .inr (.inr (.inr (.inr (fun j => some (g.2.1 (xR a j))))))) else .inr (xK a, xFs g I a)
def xWl (g : xG) (I : xMem) : va_W := (List.range 211).map (fun a => (g.2.1 a, xCell g I a))
def xup (I : xMem) (a k : Nat) (x : Int32) : xMem := fun b => if b = a then upd (I a) k x else I b
theorem xup_self (I : xMem) (a k : Nat) (x : Int32) : xup I a k x a = upd (I a) k x := by simp [xup]
theorem xup_ne (I : xMem) {a b : Nat} (k : Nat) (x : Int32) (h : b ≠ a) : xup I a k x b = I b := by simp [xup, h]
theorem xK_lt {a : Nat} (h : xK a ≠ 99) : a < 211 := by
  rcases Nat.lt_or_ge a 211 with q | q
  · exact q
  · refine absurd ?_ h
    unfold xK
    rw [List.getD_eq_getElem?_getD, List.getElem?_eq_none (by exact q)]
    rfl
theorem xWl_get (g : xG) (I : xMem) {a : Nat} (h : a < 211) : (xWl g I)[a]? = some (g.2.1 a, xCell g I a) := by
  unfold xWl
  rw [List.getElem?_map, List.getElem?_range h]
  rfl
theorem xWl_set (g : xG) (I I' : xMem) {a : Nat} (h : a < 211) (hI : ∀ b, b ≠ a → I' b = I b) : (xWl g I).set a (g.2.1 a, xCell g I' a) = xWl g I' := by
  apply List.ext_getElem?
  intro i
  by_cases hi : i = a
  · subst hi
    rw [List.getElem?_set_self (by unfold xWl; simpa using h), xWl_get g I' h]
  · rw [List.getElem?_set_ne (Ne.symm hi)]
    by_cases hl : i < 211
    · rw [xWl_get g I hl, xWl_get g I' hl]
      have e : xCell g I i = xCell g I' i := by
        have e1 : xFv g I i = xFv g I' i := by funext j; simp only [xFv, hI i hi]
        simp only [xCell, xFs, e1, hI i hi]
      rw [e]
    · rw [List.getElem?_eq_none (by unfold xWl; simp; omega), List.getElem?_eq_none (by unfold xWl; simp; omega)]
theorem xWl_D {A : Nat → Prop} {g : xG} {I I' : xMem} (h : va_D A (xWl g I)) : va_D A (xWl g I') := by
  have key : ∀ (k : Nat) (q : Nat × va_E), (xWl g I')[k]? = some q → ∃ q0, (xWl g I)[k]? = some q0 ∧ q0.1 = q.1 := by
    intro k q hk
    have hl : k < 211 := by
      have := (List.getElem?_eq_some_iff.mp hk).1
      unfold xWl at this
      simpa using this
    rw [xWl_get g I' hl] at hk
    cases hk
    exact ⟨_, xWl_get g I hl, rfl⟩
  refine ⟨fun i j x y hi hj hxy => ?_, fun k q hk => ?_⟩
  · obtain ⟨x0, h1, h2⟩ := key i x hi
    obtain ⟨y0, h3, h4⟩ := key j y hj
    exact h.1 i j x0 y0 h1 h3 (h2.trans (hxy.trans h4.symm))
  · obtain ⟨q0, h1, h2⟩ := key k q hk
    rw [← h2]
    exact h.2 k q0 h1
theorem xCell_o (g : xG) (I : xMem) {a c : Nat} (h : xK a = c) (hc : c < 10) : xCell g I a = .inr (c, xFs g I a) := by
  unfold xCell
  rw [if_neg (by omega), if_neg (by omega), if_neg (by omega), if_neg (by omega), h]
theorem xCell_i (g : xG) (I : xMem) {a : Nat} (h : xK a = 10) : xCell g I a = .inl (g.2.2.1 0, xL a, .inl (I a)) := by
  unfold xCell
  rw [if_pos h]
theorem xCell_z (g : xG) (I : xMem) {a : Nat} (h : xK a = 11) : xCell g I a = .inl (g.2.2.1 1, xL a, .inl (I a)) := by
  unfold xCell
  rw [if_neg (by omega), if_pos h]
theorem xCell_q (g : xG) (I : xMem) {a : Nat} (h : xK a = 13) : xCell g I a = .inl (g.2.2.1 3, xL a, .inr (.inr (.inr (.inr (fun j => some (g.2.1 (xR a j))))))) := by
  unfold xCell
  rw [if_neg (by omega), if_neg (by omega), if_neg (by omega), if_pos h]
theorem xFs_get (g : xG) (I : xMem) {a c j : Nat} (h : xK a = c) (hj : j < xNf c) : (xFs g I a)[j]? = some (xFv g I a j) := by
  unfold xFs
  rw [List.getElem?_map, List.getElem?_range (by rw [h]; exact hj)]
  rfl
theorem xFs_set (g : xG) (I : xMem) {a c j : Nat} (x : Int32) (h : xK a = c) (hj : j < xNf c) (hr : xFr c j = false) : (xFs g I a).set j (.int x) = xFs g (xup I a j x) a := by
  apply List.ext_getElem?
  intro i
  by_cases hi : i = j
  · subst hi
    rw [List.getElem?_set_self (by unfold xFs; simpa [h] using hj), xFs_get g _ h hj]
    simp [xFv, h, hr, xup, upd]
  · rw [List.getElem?_set_ne (Ne.symm hi)]
    by_cases hl : i < xNf c
    · rw [xFs_get g _ h hl, xFs_get g _ h hl]
      simp [xFv, xup, upd, hi]
    · rw [List.getElem?_eq_none (by unfold xFs; simp [h]; omega), List.getElem?_eq_none (by unfold xFs; simp [h]; omega)]
-- locals
def xLoc (g : xG) (n : Nat) (ls : Array Slot) (L : List (Option Value)) : Prop := ls.size = n ∧ lv_wf ls ∧ ∀ (i : Nat) (v : Value), xnth L i = some v → ls[i]? = some (.val (xc g v))
def xAs (g : xG) (L : List (Option Value)) : List (Nat × Value) := (List.range L.length).filterMap (fun i => (xnth L i).map (fun v => (i, xc g v)))
theorem xnth_lt : ∀ {L : List (Option Value)} {i : Nat} {v : Value}, xnth L i = some v → i < L.length
  | [], i, v, h => by cases i <;> cases h
  | a :: t, 0, v, h => by simp
  | a :: t, i + 1, v, h => by
    have := xnth_lt (L := t) (i := i) (v := v) h
    simp only [List.length_cons]
    omega
theorem xAs_mem {g : xG} {L : List (Option Value)} {i : Nat} {v : Value} (h : xnth L i = some v) : (i, xc g v) ∈ xAs g L := by
  unfold xAs
  refine List.mem_filterMap.mpr ⟨i, List.mem_range.mpr (xnth_lt h), ?_⟩
  rw [h]
  rfl
theorem xAs_of {g : xG} {L : List (Option Value)} {q : Nat × Value} (h : q ∈ xAs g L) : ∃ v, xnth L q.1 = some v ∧ q.2 = xc g v := by
  unfold xAs at h
  obtain ⟨i, -, hi⟩ := List.mem_filterMap.mp h
  cases hx : xnth L i with
  | none => rw [hx] at hi; cases hi
  | some v => rw [hx] at hi; cases hi; exact ⟨v, hx, rfl⟩
theorem xLoc.has {g : xG} {n : Nat} {ls : Array Slot} {L : List (Option Value)} (h : xLoc g n ls L) : lv_has ls n (xAs g L) := by
  refine ⟨h.1, h.2.1, fun q hq => ?_⟩
  obtain ⟨v, h1, h2⟩ := xAs_of hq
  rw [h2]
  exact h.2.2 q.1 v h1
theorem xc_cat (g : xG) (v : Value) : (xc g v).category = v.category := by cases v <;> rfl
theorem xcat2_iff {v : Value} : xcat2 (some v) = true ↔ v.category = 2 := by cases v <;> simp [xcat2, Value.category]
theorem xnth_set_self : ∀ {L : List (Option Value)} {i : Nat} {o : Option Value} {w : Value}, xnth (xset L i o) i = some w → o = some w
  | [], i, o, w, h => by cases i <;> cases h
  | a :: t, 0, o, w, h => h
  | a :: t, i + 1, o, w, h => xnth_set_self (L := t) h
theorem xnth_set_ne : ∀ {L : List (Option Value)} {i j : Nat} {o : Option Value}, j ≠ i → xnth (xset L i o) j = xnth L j
  | [], i, j, o, h => by cases i <;> rfl
  | a :: t, 0, 0, o, h => absurd rfl h
  | a :: t, 0, j + 1, o, h => rfl
  | a :: t, i + 1, 0, o, h => rfl
  | a :: t, i + 1, j + 1, o, h => xnth_set_ne (L := t) (fun e => h (by rw [e]))
theorem xok_cat {L : List (Option Value)} {i j : Nat} {w : Value} (h : xok L i = true) (hj : j + 1 = i) (hw : xnth L j = some w) : ¬ w.category = 2 := by
  subst hj
  have h : (!(xcat2 (xnth L j))) = true := h
  rw [hw] at h
  intro hc
  rw [xcat2_iff.mpr hc] at h
  cases h
theorem xLoc_set1 {g : xG} {n i : Nat} {ls' : Array Slot} {L : List (Option Value)} {v : Value} (hok : xok L i = true) (h : lv_has ls' n ((i, xc g v) :: (xAs g L).filter (fun q => !(q.1 == i) && !(q.1 + 1 == i && q.2.category == 2)))) : xLoc g n ls' (xset L i (some v)) := by
  refine ⟨h.1, h.2.1, fun j w hj => ?_⟩
  by_cases e : j = i
  · subst e
    have := xnth_set_self hj
    cases this
    exact h.2.2 (j, xc g v) List.mem_cons_self
  · rw [xnth_set_ne e] at hj
    refine h.2.2 (j, xc g w) (List.mem_cons_of_mem _ (List.mem_filter.mpr ⟨xAs_mem hj, ?_⟩))
    have e1 : (j == i) = false := by simpa using e
    by_cases e2 : j + 1 = i
    · have := xok_cat hok e2 hj
      have e3 : ((xc g w).category == 2) = false := by rw [xc_cat]; simpa using this
      simp only [e1, e3, Bool.and_false, Bool.not_false, Bool.and_self]
    · have e3 : (j + 1 == i) = false := by simpa using e2
      simp only [e1, e3, Bool.false_and, Bool.not_false, Bool.and_self]
theorem xLoc_set2 {g : xG} {n i : Nat} {ls' : Array Slot} {L : List (Option Value)} {v : Value} (hok : xok L i = true) (h : lv_has ls' n ((i, xc g v) :: (xAs g L).filter (fun q => !(q.1 == i) && (!(q.1 == i + 1) && !(q.1 + 1 == i && q.2.category == 2))))) : xLoc g n ls' (xset (xset L i (some v)) (i + 1) none) := by
  refine ⟨h.1, h.2.1, fun j w hj => ?_⟩
  by_cases e0 : j = i + 1
  · subst e0
    exact absurd (xnth_set_self hj) (by simp)
  · rw [xnth_set_ne e0] at hj
    by_cases e : j = i
    · subst e
      have := xnth_set_self hj
      cases this
      exact h.2.2 (j, xc g v) List.mem_cons_self
    · rw [xnth_set_ne e] at hj
      refine h.2.2 (j, xc g w) (List.mem_cons_of_mem _ (List.mem_filter.mpr ⟨xAs_mem hj, ?_⟩))
      have e1 : (j == i) = false := by simpa using e
      have e4 : (j == i + 1) = false := by simpa using e0
      by_cases e2 : j + 1 = i
      · have := xok_cat hok e2 hj
        have e3 : ((xc g w).category == 2) = false := by rw [xc_cat]; simpa using this
        simp only [e1, e3, e4, Bool.and_false, Bool.not_false, Bool.and_self]
      · have e3 : (j + 1 == i) = false := by simpa using e2
        simp only [e1, e3, e4, Bool.false_and, Bool.not_false, Bool.and_self]
theorem xnth_pad : ∀ (n : Nat) (l : List (Option Value)) {i : Nat} {v : Value}, xnth (xpad n l) i = some v → xnth l i = some v
  | 0, l, i, v, h => by cases i <;> cases h
  | n + 1, [], 0, v, h => by cases h
  | n + 1, [], i + 1, v, h => by
    have := xnth_pad n [] (i := i) (v := v) h
    cases i <;> cases this
  | n + 1, a :: t, 0, v, h => h
  | n + 1, a :: t, i + 1, v, h => xnth_pad n t (i := i) (v := v) h
theorem xex_args (g : xG) : ∀ (vs : List Value) (b : Nat) {i : Nat} {v : Value}, xnth (xex vs) i = some v → (b + i, xc g v) ∈ lv_args b (vs.map (xc g))
  | [], b, i, v, h => by cases i <;> cases h
  | w :: t, b, i, v, h => by
    simp only [List.map_cons, lv_args, xc_cat]
    unfold xex at h
    by_cases hc : w.category = 2
    · rw [if_pos hc] at h ⊢
      match i, h with
      | 0, h => cases h; exact List.mem_cons_self
      | 1, h => cases h
      | i + 2, h =>
        have := xex_args g t (b + 2) (i := i) (v := v) h
        rw [show b + 2 + i = b + (i + 2) by omega] at this
        exact List.mem_cons_of_mem _ this
    · rw [if_neg hc] at h ⊢
      match i, h with
      | 0, h => cases h; exact List.mem_cons_self
      | i + 1, h =>
        have := xex_args g t (b + 1) (i := i) (v := v) h
        rw [show b + 1 + i = b + (i + 1) by omega] at this
        exact List.mem_cons_of_mem _ this
theorem xLoc_in {g : xG} {n : Nat} (vs : List Value) (h : (lg_sl (vs.map (xc g))).length ≤ n) : xLoc g n ((lg_sl (vs.map (xc g)) ++ List.replicate (n - (lg_sl (vs.map (xc g))).length) Slot.unset).toArray) (xin n vs) := by
  have hl := lv_entry (vs.map (xc g)) h
  refine ⟨hl.1, hl.2.1, fun i v hi => ?_⟩
  have := xex_args g vs 0 (xnth_pad n _ hi)
  rw [Nat.zero_add] at this
  exact hl.2.2 (i, xc g v) this
end XM2
