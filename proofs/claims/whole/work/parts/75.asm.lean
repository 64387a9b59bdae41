/-! ===== what the constructors leave is the empty state ===== -/
section P75
def I0 : xMem := fun a j => if xK a = 0 then (if j = 6 then nI 8 else 0) else if a = 191 then (if j = 1 then nI 8 else 0) else 0
theorem I0_c {a j : Nat} (h : xK a = 0) (hj : j ≠ 6) : I0 a j = 0 := by
  unfold I0
  rw [if_pos h, if_neg hj]
theorem I0_6 {a : Nat} (h : xK a = 0) : I0 a 6 = nI 8 := by
  unfold I0
  rw [if_pos h, if_pos rfl]
theorem I0_o {a : Nat} (h : xK a ≠ 0) (h2 : a ≠ 191) : I0 a = fun _ => 0 := by
  funext j
  unfold I0
  rw [if_neg h, if_neg h2]
def S0 : cS := (fun _ => 0, 0, fun _ => 0, fun _ => 0, 0, 8)
def α0 : aS := (S0, fun _ => S0, 0, fun _ => none, fun _ => 0, 0)
theorem aWF0 : aWF α0 := ⟨⟨Nat.zero_le _, ⟨Nat.le_of_ble_eq_true rfl, Nat.le_of_ble_eq_true rfl⟩, fun p hp => absurd hp (Nat.not_lt_zero p), rfl, fun j hj => absurd hj (Nat.not_lt_zero j), fun p hp => absurd hp (Nat.not_lt_zero p)⟩, ⟨Nat.zero_le _, fun i hi => absurd hi (Nat.not_lt_zero i)⟩, fun s _ S hS => (by cases hS), Nat.zero_le _, fun j hj => absurd hj (Nat.not_lt_zero j)⟩
theorem cInv0 : cInv I0 α0 := by
  have k1 : xK 1 = 0 := by decide
  have k173 : xK 173 ≠ 0 := by decide
  have k181 : xK 181 ≠ 0 := by decide
  have k163 : xK 163 ≠ 0 := by decide
  refine ⟨aWF0, ⟨?_, ?_, I0_6 k1, fun j hj => absurd hj (Nat.not_lt_zero j), fun p hp => absurd hp (Nat.not_lt_zero p), fun p hp => absurd hp (Nat.not_lt_zero p)⟩, ⟨?_, Nat.zero_le _, 0, by omega, ?_, fun i hi => absurd hi (Nat.not_lt_zero i)⟩, fun s hs => ⟨?_, fun S hS => by cases hS⟩, ?_, fun j hj => absurd hj (Nat.not_lt_zero j)⟩
  · exact (I0_c k1 (by omega)).trans nI_0.symm
  · exact (I0_c k1 (by omega)).trans nI_0.symm
  · rw [I0_o k173 (by omega)]; exact nI_0.symm
  · rw [I0_o k173 (by omega)]; exact nI_0.symm
  · rw [I0_o k181 (by omega)]; exact nI_0.symm
  · rw [I0_o k163 (by omega)]; exact nI_0.symm
theorem mInv0 : mInv I0 α0 := by
  have k191 : xK 191 ≠ 0 := by decide
  have k189 : xK 189 ≠ 0 := by decide
  have k196 : xK 196 ≠ 0 := by decide
  refine ⟨aWF0, ⟨by decide, by decide, ?_, ?_, fun j hj => absurd hj (Nat.not_lt_zero j), fun p hp => absurd hp (Nat.not_lt_zero p), fun p hp => absurd hp (Nat.not_lt_zero p)⟩, ⟨?_, Nat.zero_le _, fun i hi => absurd hi (Nat.not_lt_zero i)⟩, fun s hs => ⟨?_, fun S hS => by cases hS⟩, ?_, fun j hj => absurd hj (Nat.not_lt_zero j)⟩
  · unfold I0; rw [if_neg k191, if_pos rfl, if_neg (by omega)]; exact nI_0.symm
  · unfold I0; rw [if_neg k191, if_pos rfl, if_pos rfl]; rfl
  · rw [I0_o k189 (by omega)]; exact nI_0.symm
  · rw [I0_o k196 (by omega)]; exact nI_0.symm
  · rw [I0_o k189 (by omega)]; exact nI_0.symm
theorem xFs_0 (g : xG) (I : xMem) {a : Nat} (h : xK a = 0) : xFs g I a = [.ref (g.2.1 (a + 1)), .ref (g.2.1 (a + 3)), .ref (g.2.1 (a + 5)), .ref (g.2.1 (a + 7)), .int (I a 4), .int (I a 5), .int (I a 6)] := by
  unfold xFs
  rw [show xFv g I a = fun j => (if xFr (xK a) j = true then .ref (g.2.1 (xR a j)) else .int (I a j)) from rfl]
  simp only [xR, h]
  rfl
theorem xFs_1 (g : xG) (I : xMem) {a : Nat} (h : xK a = 1) : xFs g I a = [.ref (g.2.1 (a + 1)), .int (I a 1), .int (I a 2)] := by
  unfold xFs
  rw [show xFv g I a = fun j => (if xFr (xK a) j = true then .ref (g.2.1 (xR a j)) else .int (I a j)) from rfl]
  simp only [xR, h]
  rfl
theorem xFs_2 (g : xG) (I : xMem) {a : Nat} (h : xK a = 2) : xFs g I a = [.ref (g.2.1 (a + 1)), .int (I a 1), .int (I a 2), .int (I a 3), .int (I a 4), .int (I a 5), .int (I a 6), .int (I a 7), .int (I a 8), .int (I a 9)] := by
  unfold xFs
  rw [show xFv g I a = fun j => (if xFr (xK a) j = true then .ref (g.2.1 (xR a j)) else .int (I a j)) from rfl]
  simp only [xR, h]
  rfl
theorem xFs_3 (g : xG) (I : xMem) {a : Nat} (h : xK a = 3) : xFs g I a = [.ref (g.2.1 (a + 1)), .ref (g.2.1 (a + 3)), .ref (g.2.1 (a + 5)), .int (I a 3), .int (I a 4), .int (I a 5), .int (I a 6)] := by
  unfold xFs
  rw [show xFv g I a = fun j => (if xFr (xK a) j = true then .ref (g.2.1 (xR a j)) else .int (I a j)) from rfl]
  simp only [xR, h]
  rfl
theorem xFs_4 (g : xG) (I : xMem) {a : Nat} (h : xK a = 4) : xFs g I a = [.ref (g.2.1 (a + 1)), .int (I a 1)] := by
  unfold xFs
  rw [show xFv g I a = fun j => (if xFr (xK a) j = true then .ref (g.2.1 (xR a j)) else .int (I a j)) from rfl]
  simp only [xR, h]
  rfl
theorem xFs_5 (g : xG) (I : xMem) {a : Nat} (h : xK a = 5) : xFs g I a = [.ref (g.2.1 (a + 1))] := by
  unfold xFs
  rw [show xFv g I a = fun j => (if xFr (xK a) j = true then .ref (g.2.1 (xR a j)) else .int (I a j)) from rfl]
  simp only [xR, h]
  rfl
theorem xFs_6 (g : xG) (I : xMem) {a : Nat} (h : xK a = 6) : xFs g I a = [.ref (g.2.1 202)] := by
  unfold xFs
  rw [show xFv g I a = fun j => (if xFr (xK a) j = true then .ref (g.2.1 (xR a j)) else .int (I a j)) from rfl]
  simp only [xR, h]
  rfl
theorem xFs_7 (g : xG) (I : xMem) {a : Nat} (h : xK a = 7) : xFs g I a = [.ref (g.2.1 (a + 1)), .ref (g.2.1 (a + 2))] := by
  unfold xFs
  rw [show xFv g I a = fun j => (if xFr (xK a) j = true then .ref (g.2.1 (xR a j)) else .int (I a j)) from rfl]
  simp only [xR, h]
  rfl
theorem xFs_8 (g : xG) (I : xMem) {a : Nat} (h : xK a = 8) : xFs g I a = [.ref (g.2.1 1), .ref (g.2.1 163), .ref (g.2.1 170), .ref (g.2.1 173), .ref (g.2.1 178), .ref (g.2.1 10), .ref (g.2.1 182), .ref (g.2.1 183), .ref (g.2.1 185), .ref (g.2.1 187)] := by
  unfold xFs
  rw [show xFv g I a = fun j => (if xFr (xK a) j = true then .ref (g.2.1 (xR a j)) else .int (I a j)) from rfl]
  simp only [xR, h]
  rfl
theorem xFs_9 (g : xG) (I : xMem) {a : Nat} (h : xK a = 9) : xFs g I a = [.int (I a 0), .ref (g.2.1 190), .int (I a 2), .int (I a 3), .ref (g.2.1 191), .ref (g.2.1 192), .ref (g.2.1 193), .ref (g.2.1 194), .int (I a 8), .ref (g.2.1 195), .ref (g.2.1 196), .ref (g.2.1 197), .int (I a 12), .ref (g.2.1 198), .ref (g.2.1 199), .int (I a 15), .ref (g.2.1 200)] := by
  unfold xFs
  rw [show xFv g I a = fun j => (if xFr (xK a) j = true then .ref (g.2.1 (xR a j)) else .int (I a j)) from rfl]
  simp only [xR, h]
  rfl
/-- the cell a is as it is to be -/
def xAt (g : xG) (H : Heap) (a : Nat) : Prop := va_at g.1 vwCl (g.2.1 a, xCell g I0 a) H
section P75V
variable {g : xG} {H : Heap} {a : Nat} {u : Nat → Nat}
theorem xAt_obj {c : Nat} {fs : List Value} {q : Nat} (h : va_at g.1 vwCl (q, .inr (c, fs)) H) (hq : q = g.2.1 a) (hc : xK a = c) (hc2 : c < 10) (hf : fs = xFs g I0 a) : xAt g H a := by
  unfold xAt
  rw [xCell_o g I0 hc hc2, ← hq, ← hf]
  exact h
theorem xAt_arr {n q : Nat} (h : va_at g.1 vwCl (q, .inl (g.2.2.1 0, n, .inl (fun _ => 0))) H) (hq : q = g.2.1 a) (hc : xK a = 10) (hl : xL a = n) (h9 : a ≠ 191) : xAt g H a := by
  unfold xAt
  rw [xCell_i g I0 hc, I0_o (by rw [hc]; decide) h9, ← hq, hl]
  exact h
theorem xAt_row {n : Nat} (h : ∀ q ∈ rowB g.2.2.1 n u, va_at g.1 vwCl q H) (e : ∀ k, k < 2 → u k = g.2.1 (a + k)) (h5 : xK a = 5) (h10 : xK (a + 1) = 10) (hl : xL (a + 1) = n) (h9 : a + 1 ≠ 191) : ∀ k, k < 2 → xAt g H (a + k) := by
  have c0 := h _ List.mem_cons_self
  have c1 := h _ (List.mem_cons_of_mem _ List.mem_cons_self)
  intro k hk
  rcases (show k = 0 ∨ k = 1 by omega) with rfl | rfl
  · exact xAt_obj c0 (e 0 hk) h5 (by omega) (by rw [Nat.add_zero, xFs_5 g I0 h5, e 1 (by omega)])
  · exact xAt_arr c1 (e 1 hk) h10 hl h9
theorem xAt_mes (h : ∀ q ∈ mesB g.2.2.1 u, va_at g.1 vwCl q H) (e : ∀ k, k < 2 → u k = g.2.1 (a + k)) (h5 : xK a = 2) (h10 : xK (a + 1) = 10) (hl : xL (a + 1) = 12) (h9 : a + 1 ≠ 191) (h8 : a ≠ 191) : ∀ k, k < 2 → xAt g H (a + k) := by
  have c0 := h _ List.mem_cons_self
  have c1 := h _ (List.mem_cons_of_mem _ List.mem_cons_self)
  intro k hk
  rcases (show k = 0 ∨ k = 1 by omega) with rfl | rfl
  · exact xAt_obj c0 (e 0 hk) h5 (by omega) (by rw [Nat.add_zero, xFs_2 g I0 h5, e 1 (by omega), I0_o (by rw [h5]; decide) h8])
  · exact xAt_arr c1 (e 1 hk) h10 hl h9
theorem xAt_col (h : ∀ q ∈ colB g.2.2.1 u, va_at g.1 vwCl q H) (e : ∀ k, k < 9 → u k = g.2.1 (a + k)) (h0 : xK a = 0) (hr : ∀ k, k < 4 → xK (a + (2 * k + 2)) = 10 ∧ xL (a + (2 * k + 2)) = (if k = 0 then 120 else if k = 3 then 12 else 10)) (h5 : ∀ k, k < 3 → xK (a + (2 * k + 1)) = 5) (h2 : xK (a + 7) = 2) (h9 : a + 8 < 191 ∨ 191 < a) : ∀ k, k < 9 → xAt g H (a + k) := by
  unfold colB at h
  simp only [List.mem_append] at h
  have r1 := xAt_row (a := a + 1) (u := fun k => u (1 + k)) (fun q hq => h q (Or.inl (Or.inl (Or.inl (Or.inr hq))))) (fun k hk => by rw [e _ (by omega), Nat.add_assoc]) (h5 0 (by omega)) (hr 0 (by omega)).1 (hr 0 (by omega)).2 (by omega)
  have r2 := xAt_row (a := a + 3) (u := fun k => u (3 + k)) (fun q hq => h q (Or.inl (Or.inl (Or.inr hq)))) (fun k hk => by rw [e _ (by omega), Nat.add_assoc]) (h5 1 (by omega)) (hr 1 (by omega)).1 (hr 1 (by omega)).2 (by omega)
  have r3 := xAt_row (a := a + 5) (u := fun k => u (5 + k)) (fun q hq => h q (Or.inl (Or.inr hq))) (fun k hk => by rw [e _ (by omega), Nat.add_assoc]) (h5 2 (by omega)) (hr 2 (by omega)).1 (hr 2 (by omega)).2 (by omega)
  have r4 := xAt_mes (a := a + 7) (u := fun k => u (7 + k)) (fun q hq => h q (Or.inr hq)) (fun k hk => by rw [e _ (by omega), Nat.add_assoc]) h2 (hr 3 (by omega)).1 (hr 3 (by omega)).2 (by omega) (by omega)
  have c0 := h _ (Or.inl (Or.inl (Or.inl (Or.inl List.mem_cons_self))))
  intro k hk
  rcases (show k = 0 ∨ (1 ≤ k ∧ k < 3) ∨ (3 ≤ k ∧ k < 5) ∨ (5 ≤ k ∧ k < 7) ∨ (7 ≤ k ∧ k < 9) by omega) with rfl | h6 | h6 | h6 | h6
  · exact xAt_obj c0 (e 0 hk) h0 (by omega) (by rw [Nat.add_zero, xFs_0 g I0 h0, e 1 (by omega), e 3 (by omega), e 5 (by omega), e 7 (by omega), I0_c h0 (by omega), I0_c h0 (by omega), I0_6 h0]; rfl)
  · have := r1 (k - 1) (by omega)
    rwa [show a + 1 + (k - 1) = a + k by omega] at this
  · have := r2 (k - 3) (by omega)
    rwa [show a + 3 + (k - 3) = a + k by omega] at this
  · have := r3 (k - 5) (by omega)
    rwa [show a + 5 + (k - 5) = a + k by omega] at this
  · have := r4 (k - 7) (by omega)
    rwa [show a + 7 + (k - 7) = a + k by omega] at this
abbrev xColOk (a : Nat) : Prop := xK a = 0 ∧ (∀ k, k < 4 → xK (a + (2 * k + 2)) = 10 ∧ xL (a + (2 * k + 2)) = (if k = 0 then 120 else if k = 3 then 12 else 10)) ∧ (∀ k, k < 3 → xK (a + (2 * k + 1)) = 5) ∧ xK (a + 7) = 2
theorem xAt_she {n b : Nat} (h : ∀ q ∈ sheB g.2.2.1 n u, va_at g.1 vwCl q H) (e : ∀ k, k < 4 → u k = g.2.1 (a + k)) (eb : ∀ k, k < 9 * n → u (4 + k) = g.2.1 (b + k)) (h7 : xK a = 7) (h13 : xK (a + 1) = 13) (hl : xL (a + 1) = n) (hR : ∀ j, j < n → xR (a + 1) j = b + 9 * j) (h5 : xK (a + 2) = 5) (h10 : xK (a + 3) = 10) (hl3 : xL (a + 3) = n) (h9 : a + 3 < 191) (hcol : ∀ j, j < n → xColOk (b + 9 * j)) (hb : b + 9 * n < 191) : (∀ k, k < 4 → xAt g H (a + k)) ∧ ∀ k, k < 9 * n → xAt g H (b + k) := by
  unfold sheB at h
  simp only [List.mem_append] at h
  have r1 := xAt_row (a := a + 2) (u := fun k => u (2 + k)) (fun q hq => h q (Or.inr hq)) (fun k hk => by rw [e _ (by omega), Nat.add_assoc]) h5 h10 hl3 (by omega)
  have c0 := h _ (Or.inl (Or.inl (Or.inl List.mem_cons_self)))
  have c1 : H[u 1]? = some (vp_cell (g.2.2.1 3) (n, .inr (.inr (.inr (.inr (fun j => some (u (4 + 9 * j)))))))) := h _ (Or.inl (Or.inl (Or.inr List.mem_cons_self)))
  refine ⟨fun k hk => ?_, fun k hk => ?_⟩
  · rcases (show k = 0 ∨ k = 1 ∨ (2 ≤ k ∧ k < 4) by omega) with rfl | rfl | h6
    · exact xAt_obj c0 (e 0 hk) h7 (by omega) (by rw [Nat.add_zero, xFs_7 g I0 h7, e 1 (by omega), e 2 (by omega)])
    · unfold xAt
      rw [xCell_q g I0 h13, hl]
      show H[_]? = some (vp_cell _ _)
      rw [← e 1 hk, c1, vp_cell_q, vp_cell_q]
      exact congrArg some (arrV_congr _ (fun j hj => by rw [eb _ (by omega), hR j hj]))
    · have := r1 (k - 2) (by omega)
      rwa [show a + 2 + (k - 2) = a + k by omega] at this
  · have hj : k / 9 < n := by omega
    have ok := hcol _ hj
    have := xAt_col (a := b + 9 * (k / 9)) (u := fun x => u (4 + (9 * (k / 9) + x))) (fun q hq => h q (Or.inl (Or.inr (List.mem_flatMap.mpr ⟨k / 9, List.mem_range.mpr hj, hq⟩)))) (fun x hx => by rw [eb _ (by omega), Nat.add_assoc]) ok.1 ok.2.1 ok.2.2.1 ok.2.2.2 (by omega) (k % 9) (by omega)
    rwa [show b + 9 * (k / 9) + k % 9 = b + k by omega] at this
theorem xAt_tex (h : ∀ q ∈ texB g.2.2.1 u, va_at g.1 vwCl q H) (e : ∀ k, k < 7 → u k = g.2.1 (163 + k)) : ∀ k, k < 7 → xAt g H (163 + k) := by
  have k0 : xK 163 = 3 := by decide
  unfold texB at h
  simp only [List.mem_append] at h
  have r1 := xAt_row (a := 164) (u := fun k => u (1 + k)) (fun q hq => h q (Or.inl (Or.inl (Or.inr hq)))) (fun k hk => by rw [e _ (by omega), ← Nat.add_assoc]) (by decide) (by decide) (by decide) (by decide)
  have r2 := xAt_row (a := 166) (u := fun k => u (3 + k)) (fun q hq => h q (Or.inl (Or.inr hq))) (fun k hk => by rw [e _ (by omega), ← Nat.add_assoc]) (by decide) (by decide) (by decide) (by decide)
  have r3 := xAt_row (a := 168) (u := fun k => u (5 + k)) (fun q hq => h q (Or.inr hq)) (fun k hk => by rw [e _ (by omega), ← Nat.add_assoc]) (by decide) (by decide) (by decide) (by decide)
  have c0 := h _ (Or.inl (Or.inl (Or.inl List.mem_cons_self)))
  intro k hk
  rcases (show k = 0 ∨ (1 ≤ k ∧ k < 3) ∨ (3 ≤ k ∧ k < 5) ∨ (5 ≤ k ∧ k < 7) by omega) with rfl | h6 | h6 | h6
  · exact xAt_obj c0 (e 0 hk) k0 (by omega) (by rw [Nat.add_zero, xFs_3 g I0 k0, e 1 (by omega), e 3 (by omega), e 5 (by omega), I0_o (by rw [k0]; decide) (by omega)])
  · have := r1 (k - 1) (by omega)
    rwa [show 164 + (k - 1) = 163 + k by omega] at this
  · have := r2 (k - 3) (by omega)
    rwa [show 166 + (k - 3) = 163 + k by omega] at this
  · have := r3 (k - 5) (by omega)
    rwa [show 168 + (k - 5) = 163 + k by omega] at this
theorem xAt_wri (h : ∀ q ∈ wriB g.2.2.1 u, va_at g.1 vwCl q H) (e : ∀ k, k < 3 → u k = g.2.1 (170 + k)) : ∀ k, k < 3 → xAt g H (170 + k) := by
  have k0 : xK 170 = 4 := by decide
  unfold wriB at h
  simp only [List.mem_append] at h
  have r1 := xAt_row (a := 171) (u := fun k => u (1 + k)) (fun q hq => h q (Or.inr hq)) (fun k hk => by rw [e _ (by omega), ← Nat.add_assoc]) (by decide) (by decide) (by decide) (by decide)
  have c0 := h _ (Or.inl List.mem_cons_self)
  intro k hk
  rcases (show k = 0 ∨ (1 ≤ k ∧ k < 3) by omega) with rfl | h6
  · exact xAt_obj c0 (e 0 hk) k0 (by omega) (by rw [Nat.add_zero, xFs_4 g I0 k0, e 1 (by omega), I0_o (by rw [k0]; decide) (by omega)])
  · have := r1 (k - 1) (by omega)
    rwa [show 171 + (k - 1) = 170 + k by omega] at this
theorem xAt_his (h : ∀ q ∈ hisB g.2.2.1 u, va_at g.1 vwCl q H) (e : ∀ k, k < 5 → u k = g.2.1 (173 + k)) (eb : ∀ k, k < 126 → u (5 + k) = g.2.1 (19 + k)) : (∀ k, k < 5 → xAt g H (173 + k)) ∧ ∀ k, k < 126 → xAt g H (19 + k) := by
  have k0 : xK 173 = 1 := by decide
  unfold hisB at h
  simp only [List.mem_append] at h
  have c0 := h _ (Or.inl List.mem_cons_self)
  have r1 := xAt_she (a := 174) (b := 19) (n := 14) (u := fun k => u (1 + k)) (fun q hq => h q (Or.inr hq)) (fun k hk => by rw [e _ (by omega), ← Nat.add_assoc]) (fun k hk => by rw [← eb k (by omega)]; exact congrArg u (by omega)) (by decide) (by decide) (by decide) (fun j _ => by show (if 175 = 175 then 19 else 145) + 9 * j = _; rw [if_pos rfl]) (by decide) (by decide) (by decide) (by decide) (by decide +kernel) (by decide)
  refine ⟨fun k hk => ?_, r1.2⟩
  rcases (show k = 0 ∨ (1 ≤ k ∧ k < 5) by omega) with rfl | h6
  · exact xAt_obj c0 (e 0 hk) k0 (by omega) (by rw [Nat.add_zero, xFs_1 g I0 k0, e 1 (by omega), I0_o (by rw [k0]; decide) (by omega)])
  · have := r1.1 (k - 1) (by omega)
    rwa [show 174 + (k - 1) = 173 + k by omega] at this
end P75V
end P75
