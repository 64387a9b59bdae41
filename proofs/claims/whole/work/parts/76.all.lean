/-! ===== all cells in one list ===== -/
section P76
def gam (Γ : Nat → Nat → Nat) (μ : Nat → Nat) (q : Nat) : Nat → Nat := fun a =>
  if a < 1 then Γ 0 a else if a < 10 then Γ 1 (a - 1) else if a < 19 then Γ 6 (a - 10) else if a < 145 then Γ 4 (a - 14) else if a < 163 then Γ 5 (a - 141) else if a < 170 then Γ 2 (a - 163) else if a < 173 then Γ 3 (a - 170) else if a < 178 then Γ 4 (a - 173) else if a < 182 then Γ 5 (a - 178) else if a < 183 then Γ 7 (a - 182) else if a < 185 then Γ 8 (a - 183) else if a < 187 then Γ 9 (a - 185) else if a < 189 then Γ 10 (a - 187) else if a < 201 then μ (a - 189) else if a < 202 then q else Γ 7 (a - 201)
def wpL : List Nat := [0, 1, 2, 3, 4, 5, 6, 7, 8, 9, 163, 164, 165, 166, 167, 168, 169, 170, 171, 172, 173, 174, 175, 19, 20, 21, 22, 23, 24, 25, 26, 27, 28, 29, 30, 31, 32, 33, 34, 35, 36, 37, 38, 39, 40, 41, 42, 43, 44, 45, 46, 47, 48, 49, 50, 51, 52, 53, 54, 55, 56, 57, 58, 59, 60, 61, 62, 63, 64, 65, 66, 67, 68, 69, 70, 71, 72, 73, 74, 75, 76, 77, 78, 79, 80, 81, 82, 83, 84, 85, 86, 87, 88, 89, 90, 91, 92, 93, 94, 95, 96, 97, 98, 99, 100, 101, 102, 103, 104, 105, 106, 107, 108, 109, 110, 111, 112, 113, 114, 115, 116, 117, 118, 119, 120, 121, 122, 123, 124, 125, 126, 127, 128, 129, 130, 131, 132, 133, 134, 135, 136, 137, 138, 139, 140, 141, 142, 143, 144, 176, 177, 178, 179, 145, 146, 147, 148, 149, 150, 151, 152, 153, 154, 155, 156, 157, 158, 159, 160, 161, 162, 180, 181, 10, 11, 12, 13, 14, 15, 16, 17, 18, 182, 202, 203, 204, 205, 206, 207, 208, 209, 210, 183, 184, 185, 186, 187, 188, 189, 190, 191, 192, 193, 194, 195, 196, 197, 198, 199, 200, 201]
def wpI : List Nat := [0, 1, 2, 3, 4, 5, 6, 7, 8, 9, 173, 174, 175, 176, 177, 178, 179, 180, 181, 23, 24, 25, 26, 27, 28, 29, 30, 31, 32, 33, 34, 35, 36, 37, 38, 39, 40, 41, 42, 43, 44, 45, 46, 47, 48, 49, 50, 51, 52, 53, 54, 55, 56, 57, 58, 59, 60, 61, 62, 63, 64, 65, 66, 67, 68, 69, 70, 71, 72, 73, 74, 75, 76, 77, 78, 79, 80, 81, 82, 83, 84, 85, 86, 87, 88, 89, 90, 91, 92, 93, 94, 95, 96, 97, 98, 99, 100, 101, 102, 103, 104, 105, 106, 107, 108, 109, 110, 111, 112, 113, 114, 115, 116, 117, 118, 119, 120, 121, 122, 123, 124, 125, 126, 127, 128, 129, 130, 131, 132, 133, 134, 135, 136, 137, 138, 139, 140, 141, 142, 143, 144, 145, 146, 147, 148, 153, 154, 155, 156, 157, 158, 159, 160, 161, 162, 163, 164, 165, 166, 167, 168, 169, 170, 10, 11, 12, 13, 14, 15, 16, 17, 18, 19, 20, 21, 22, 149, 150, 151, 152, 171, 172, 182, 192, 193, 194, 195, 196, 197, 198, 199, 200, 201, 202, 203, 204, 205, 206, 207, 208, 209, 210, 183, 184, 185, 186, 187, 188, 189, 190, 191]
def wpf (k : Nat) : Nat := wpI.getD k 0
theorem wp_ok : ∀ k, k < 211 → wpL[wpf k]? = some k := by decide +kernel
def allB (cA : Nat → ClassId) (Γ : Nat → Nat → Nat) (μ : Nat → Nat) (q : Nat) : va_W := ccB cA Γ ++ modB cA μ ++ [(q, .inl (cA 2, 1, .inr (.inl (fun _ => 0))))]
set_option maxRecDepth 100000 in
theorem ga0 (cA : Nat → ClassId) (Γ : Nat → Nat → Nat) (μ : Nat → Nat) (q : Nat) : (([(Γ 0 0, .inr (8, [.ref (Γ 1 0), .ref (Γ 2 0), .ref (Γ 3 0), .ref (Γ 4 0), .ref (Γ 5 0), .ref (Γ 6 0), .ref (Γ 7 0), .ref (Γ 8 0), .ref (Γ 9 0), .ref (Γ 10 0)]))] : va_W)).map (·.1) = ([0] : List Nat).map (gam Γ μ q) := by rfl
set_option maxRecDepth 100000 in
theorem ga1 (cA : Nat → ClassId) (Γ : Nat → Nat → Nat) (μ : Nat → Nat) (q : Nat) : (colB cA (Γ 1)).map (·.1) = ([1, 2, 3, 4, 5, 6, 7, 8, 9] : List Nat).map (gam Γ μ q) := by rfl
set_option maxRecDepth 100000 in
theorem ga2 (cA : Nat → ClassId) (Γ : Nat → Nat → Nat) (μ : Nat → Nat) (q : Nat) : (texB cA (Γ 2)).map (·.1) = ([163, 164, 165, 166, 167, 168, 169] : List Nat).map (gam Γ μ q) := by rfl
set_option maxRecDepth 100000 in
theorem ga3 (cA : Nat → ClassId) (Γ : Nat → Nat → Nat) (μ : Nat → Nat) (q : Nat) : (wriB cA (Γ 3)).map (·.1) = ([170, 171, 172] : List Nat).map (gam Γ μ q) := by rfl
set_option maxRecDepth 100000 in
theorem ga4 (cA : Nat → ClassId) (Γ : Nat → Nat → Nat) (μ : Nat → Nat) (q : Nat) : (hisB cA (Γ 4)).map (·.1) = ([173, 174, 175, 19, 20, 21, 22, 23, 24, 25, 26, 27, 28, 29, 30, 31, 32, 33, 34, 35, 36, 37, 38, 39, 40, 41, 42, 43, 44, 45, 46, 47, 48, 49, 50, 51, 52, 53, 54, 55, 56, 57, 58, 59, 60, 61, 62, 63, 64, 65, 66, 67, 68, 69, 70, 71, 72, 73, 74, 75, 76, 77, 78, 79, 80, 81, 82, 83, 84, 85, 86, 87, 88, 89, 90, 91, 92, 93, 94, 95, 96, 97, 98, 99, 100, 101, 102, 103, 104, 105, 106, 107, 108, 109, 110, 111, 112, 113, 114, 115, 116, 117, 118, 119, 120, 121, 122, 123, 124, 125, 126, 127, 128, 129, 130, 131, 132, 133, 134, 135, 136, 137, 138, 139, 140, 141, 142, 143, 144, 176, 177] : List Nat).map (gam Γ μ q) := by rfl
set_option maxRecDepth 100000 in
theorem ga5 (cA : Nat → ClassId) (Γ : Nat → Nat → Nat) (μ : Nat → Nat) (q : Nat) : (sheB cA 2 (Γ 5)).map (·.1) = ([178, 179, 145, 146, 147, 148, 149, 150, 151, 152, 153, 154, 155, 156, 157, 158, 159, 160, 161, 162, 180, 181] : List Nat).map (gam Γ μ q) := by rfl
set_option maxRecDepth 100000 in
theorem ga6 (cA : Nat → ClassId) (Γ : Nat → Nat → Nat) (μ : Nat → Nat) (q : Nat) : (colB cA (Γ 6)).map (·.1) = ([10, 11, 12, 13, 14, 15, 16, 17, 18] : List Nat).map (gam Γ μ q) := by rfl
set_option maxRecDepth 100000 in
theorem ga7 (cA : Nat → ClassId) (Γ : Nat → Nat → Nat) (μ : Nat → Nat) (q : Nat) : (scrB cA (Γ 7)).map (·.1) = ([182, 202, 203, 204, 205, 206, 207, 208, 209, 210] : List Nat).map (gam Γ μ q) := by rfl
set_option maxRecDepth 100000 in
theorem ga8 (cA : Nat → ClassId) (Γ : Nat → Nat → Nat) (μ : Nat → Nat) (q : Nat) : (mesB cA (Γ 8)).map (·.1) = ([183, 184] : List Nat).map (gam Γ μ q) := by rfl
set_option maxRecDepth 100000 in
theorem ga9 (cA : Nat → ClassId) (Γ : Nat → Nat → Nat) (μ : Nat → Nat) (q : Nat) : (rowB cA 121 (Γ 9)).map (·.1) = ([185, 186] : List Nat).map (gam Γ μ q) := by rfl
set_option maxRecDepth 100000 in
theorem gb0 (cA : Nat → ClassId) (Γ : Nat → Nat → Nat) (μ : Nat → Nat) (q : Nat) : (rowB cA 3 (Γ 10)).map (·.1) = ([187, 188] : List Nat).map (gam Γ μ q) := by rfl
set_option maxRecDepth 100000 in
theorem gb1 (cA : Nat → ClassId) (Γ : Nat → Nat → Nat) (μ : Nat → Nat) (q : Nat) : (modB cA μ).map (·.1) = ([189, 190, 191, 192, 193, 194, 195, 196, 197, 198, 199, 200] : List Nat).map (gam Γ μ q) := by rfl
set_option maxRecDepth 100000 in
theorem gb2 (cA : Nat → ClassId) (Γ : Nat → Nat → Nat) (μ : Nat → Nat) (q : Nat) : (([(q, .inl (cA 2, 1, .inr (.inl (fun _ => 0))))] : va_W)).map (·.1) = ([201] : List Nat).map (gam Γ μ q) := by rfl
theorem allB_fst (cA : Nat → ClassId) (Γ : Nat → Nat → Nat) (μ : Nat → Nat) (q : Nat) : (allB cA Γ μ q).map (·.1) = wpL.map (gam Γ μ q) := by
  unfold allB ccB
  simp only [List.map_append, ga0 cA Γ μ q, ga1 cA Γ μ q, ga2 cA Γ μ q, ga3 cA Γ μ q, ga4 cA Γ μ q, ga5 cA Γ μ q, ga6 cA Γ μ q, ga7 cA Γ μ q, ga8 cA Γ μ q, ga9 cA Γ μ q, gb0 cA Γ μ q, gb1 cA Γ μ q, gb2 cA Γ μ q]
  simp only [← List.map_append]
  rfl
theorem va_D_fst {A : Nat → Prop} {ws ws' : va_W} (h : va_D A ws) (f : Nat → Nat) (hf : ∀ (k : Nat) (q : Nat × va_E), ws'[k]? = some q → ∃ q0, ws[f k]? = some q0 ∧ q0.1 = q.1) (hi : ∀ i j : Nat, i < ws'.length → j < ws'.length → f i = f j → i = j) : va_D A ws' := by
  refine ⟨fun i j x y hx hy he => ?_, fun k q hk => ?_⟩
  · obtain ⟨x0, a1, a2⟩ := hf i x hx
    obtain ⟨y0, b1, b2⟩ := hf j y hy
    exact hi i j (List.getElem?_eq_some_iff.mp hx).1 (List.getElem?_eq_some_iff.mp hy).1 (h.1 _ _ x0 y0 a1 b1 (by rw [a2, b2, he]))
  · obtain ⟨q0, a1, a2⟩ := hf k q hk
    rw [← a2]
    exact h.2 _ _ a1
theorem wp_D {A : Nat → Prop} {D : va_G} {cA : Nat → ClassId} {Γ : Nat → Nat → Nat} {μ : Nat → Nat} {q z : Nat} (h : va_D A (allB cA Γ μ q)) : va_D A (xWl (D, gam Γ μ q, cA, z) I0) := by
  have hl : (xWl (D, gam Γ μ q, cA, z) I0).length = 211 := by unfold xWl; simp
  refine va_D_fst h wpf (fun k x hk => ?_) (fun i j hi hj he => ?_)
  · have hk2 : k < 211 := by rw [← hl]; exact (List.getElem?_eq_some_iff.mp hk).1
    rw [xWl_get _ I0 hk2] at hk
    cases hk
    have h1 : ((allB cA Γ μ q).map (·.1))[wpf k]? = some (gam Γ μ q k) := by
      rw [allB_fst, List.getElem?_map, wp_ok k hk2]
      rfl
    rw [List.getElem?_map, Option.map_eq_some_iff] at h1
    exact h1
  · rw [hl] at hi hj
    have h1 := wp_ok i hi
    rw [he, wp_ok j hj] at h1
    exact (Option.some.inj h1).symm
theorem va_P_mem {D : va_G} {ws : va_W} {H : Heap} (h : va_P D vwCl ws H) : ∀ x ∈ ws, va_at D vwCl x H := fun x hx => by
  obtain ⟨k, hk⟩ := List.getElem?_of_mem hx
  exact h k x hk
theorem xAt_mod {g : xG} {H : Heap} {u : Nat → Nat} (h : ∀ q ∈ modB g.2.2.1 u, va_at g.1 vwCl q H) (e : ∀ k, k < 12 → u k = g.2.1 (189 + k)) : ∀ k, k < 12 → xAt g H (189 + k) := by
  have k0 : xK 189 = 9 := by decide
  have k2 : xK 191 = 10 := by decide
  have k7 : xK 196 = 11 := by decide
  unfold modB arB at h
  simp only [List.mem_append, List.mem_singleton] at h
  have c0 := h _ (Or.inl (Or.inl (Or.inl (Or.inl (Or.inl (Or.inl (Or.inl (Or.inl (Or.inl (Or.inl (Or.inl rfl)))))))))))
  have c1 := h _ (Or.inl (Or.inl (Or.inl (Or.inl (Or.inl (Or.inl (Or.inl (Or.inl (Or.inl (Or.inl (Or.inr rfl)))))))))))
  have c2 := h _ (Or.inl (Or.inl (Or.inl (Or.inl (Or.inl (Or.inl (Or.inl (Or.inl (Or.inl (Or.inr rfl))))))))))
  have c3 := h _ (Or.inl (Or.inl (Or.inl (Or.inl (Or.inl (Or.inl (Or.inl (Or.inl (Or.inr rfl)))))))))
  have c4 := h _ (Or.inl (Or.inl (Or.inl (Or.inl (Or.inl (Or.inl (Or.inl (Or.inr rfl))))))))
  have c5 := h _ (Or.inl (Or.inl (Or.inl (Or.inl (Or.inl (Or.inl (Or.inr rfl)))))))
  have c6 := h _ (Or.inl (Or.inl (Or.inl (Or.inl (Or.inl (Or.inr rfl))))))
  have c7 := h _ (Or.inl (Or.inl (Or.inl (Or.inl (Or.inr rfl)))))
  have c8 := h _ (Or.inl (Or.inl (Or.inl (Or.inr rfl))))
  have c9 := h _ (Or.inl (Or.inl (Or.inr rfl)))
  have c10 := h _ (Or.inl (Or.inr rfl))
  have c11 := h _ (Or.inr rfl)
  intro k hk
  rcases (show k = 0 ∨ k = 1 ∨ k = 2 ∨ k = 3 ∨ k = 4 ∨ k = 5 ∨ k = 6 ∨ k = 7 ∨ k = 8 ∨ k = 9 ∨ k = 10 ∨ k = 11 by omega) with rfl | rfl | rfl | rfl | rfl | rfl | rfl | rfl | rfl | rfl | rfl | rfl
  · exact xAt_obj c0 (e 0 hk) k0 (by omega) (by rw [Nat.add_zero, xFs_9 g I0 k0, e 1 (by omega), e 2 (by omega), e 3 (by omega), e 4 (by omega), e 5 (by omega), e 6 (by omega), e 7 (by omega), e 8 (by omega), e 9 (by omega), e 10 (by omega), e 11 (by omega), I0_o (by rw [k0]; decide) (by omega)])
  · exact xAt_arr c1 (e 1 hk) (by decide) (by decide) (by decide)
  · show xAt g H 191
    unfold xAt
    rw [xCell_i g I0 k2, ← e 2 hk, show xL 191 = 142 by decide]
    have e9 : I0 191 = fun j => if j = 1 then nI 8 else 0 := by
      funext j
      unfold I0
      rw [if_neg (by rw [k2]; decide), if_pos rfl]
    rw [e9]
    exact c2
  · exact xAt_arr c3 (e 3 hk) (by decide) (by decide) (by decide)
  · exact xAt_arr c4 (e 4 hk) (by decide) (by decide) (by decide)
  · exact xAt_arr c5 (e 5 hk) (by decide) (by decide) (by decide)
  · exact xAt_arr c6 (e 6 hk) (by decide) (by decide) (by decide)
  · show xAt g H 196
    unfold xAt
    rw [xCell_z g I0 k7, ← e 7 hk, show xL 196 = 2 by decide, I0_o (by rw [k7]; decide) (by omega)]
    exact c7
  · exact xAt_arr c8 (e 8 hk) (by decide) (by decide) (by decide)
  · exact xAt_arr c9 (e 9 hk) (by decide) (by decide) (by decide)
  · exact xAt_arr c10 (e 10 hk) (by decide) (by decide) (by decide)
  · exact xAt_arr c11 (e 11 hk) (by decide) (by decide) (by decide)
section P76V
variable {Γ : Nat → Nat → Nat} {μ : Nat → Nat} {q k : Nat}
theorem gm0 (h : k < 1) : Γ 0 k = gam Γ μ q (0 + k) := by
  unfold gam
  rw [if_pos (by omega)]
  exact congrArg _ (by omega)
theorem gm1 (h : k < 9) : Γ 1 k = gam Γ μ q (1 + k) := by
  unfold gam
  rw [if_neg (by omega), if_pos (by omega)]
  exact congrArg _ (by omega)
theorem gm6 (h : k < 9) : Γ 6 k = gam Γ μ q (10 + k) := by
  unfold gam
  rw [if_neg (by omega), if_neg (by omega), if_pos (by omega)]
  exact congrArg _ (by omega)
theorem gm4b (h : k < 126) : Γ 4 (5 + k) = gam Γ μ q (19 + k) := by
  unfold gam
  rw [if_neg (by omega), if_neg (by omega), if_neg (by omega), if_pos (by omega)]
  exact congrArg _ (by omega)
theorem gm5b (h : k < 18) : Γ 5 (4 + k) = gam Γ μ q (145 + k) := by
  unfold gam
  rw [if_neg (by omega), if_neg (by omega), if_neg (by omega), if_neg (by omega), if_pos (by omega)]
  exact congrArg _ (by omega)
theorem gm2 (h : k < 7) : Γ 2 k = gam Γ μ q (163 + k) := by
  unfold gam
  rw [if_neg (by omega), if_neg (by omega), if_neg (by omega), if_neg (by omega), if_neg (by omega), if_pos (by omega)]
  exact congrArg _ (by omega)
theorem gm3 (h : k < 3) : Γ 3 k = gam Γ μ q (170 + k) := by
  unfold gam
  rw [if_neg (by omega), if_neg (by omega), if_neg (by omega), if_neg (by omega), if_neg (by omega), if_neg (by omega), if_pos (by omega)]
  exact congrArg _ (by omega)
theorem gm4 (h : k < 5) : Γ 4 k = gam Γ μ q (173 + k) := by
  unfold gam
  rw [if_neg (by omega), if_neg (by omega), if_neg (by omega), if_neg (by omega), if_neg (by omega), if_neg (by omega), if_neg (by omega), if_pos (by omega)]
  exact congrArg _ (by omega)
theorem gm5 (h : k < 4) : Γ 5 k = gam Γ μ q (178 + k) := by
  unfold gam
  rw [if_neg (by omega), if_neg (by omega), if_neg (by omega), if_neg (by omega), if_neg (by omega), if_neg (by omega), if_neg (by omega), if_neg (by omega), if_pos (by omega)]
  exact congrArg _ (by omega)
theorem gm7 (h : k < 1) : Γ 7 k = gam Γ μ q (182 + k) := by
  unfold gam
  rw [if_neg (by omega), if_neg (by omega), if_neg (by omega), if_neg (by omega), if_neg (by omega), if_neg (by omega), if_neg (by omega), if_neg (by omega), if_neg (by omega), if_pos (by omega)]
  exact congrArg _ (by omega)
theorem gm7b (h : k < 9) : Γ 7 (1 + k) = gam Γ μ q (202 + k) := by
  unfold gam
  rw [if_neg (by omega), if_neg (by omega), if_neg (by omega), if_neg (by omega), if_neg (by omega), if_neg (by omega), if_neg (by omega), if_neg (by omega), if_neg (by omega), if_neg (by omega), if_neg (by omega), if_neg (by omega), if_neg (by omega), if_neg (by omega), if_neg (by omega)]
  exact congrArg _ (by omega)
theorem gm8 (h : k < 2) : Γ 8 k = gam Γ μ q (183 + k) := by
  unfold gam
  rw [if_neg (by omega), if_neg (by omega), if_neg (by omega), if_neg (by omega), if_neg (by omega), if_neg (by omega), if_neg (by omega), if_neg (by omega), if_neg (by omega), if_neg (by omega), if_pos (by omega)]
  exact congrArg _ (by omega)
theorem gm9 (h : k < 2) : Γ 9 k = gam Γ μ q (185 + k) := by
  unfold gam
  rw [if_neg (by omega), if_neg (by omega), if_neg (by omega), if_neg (by omega), if_neg (by omega), if_neg (by omega), if_neg (by omega), if_neg (by omega), if_neg (by omega), if_neg (by omega), if_neg (by omega), if_pos (by omega)]
  exact congrArg _ (by omega)
theorem gm10 (h : k < 2) : Γ 10 k = gam Γ μ q (187 + k) := by
  unfold gam
  rw [if_neg (by omega), if_neg (by omega), if_neg (by omega), if_neg (by omega), if_neg (by omega), if_neg (by omega), if_neg (by omega), if_neg (by omega), if_neg (by omega), if_neg (by omega), if_neg (by omega), if_neg (by omega), if_pos (by omega)]
  exact congrArg _ (by omega)
theorem gm11 (h : k < 12) : μ k = gam Γ μ q (189 + k) := by
  unfold gam
  rw [if_neg (by omega), if_neg (by omega), if_neg (by omega), if_neg (by omega), if_neg (by omega), if_neg (by omega), if_neg (by omega), if_neg (by omega), if_neg (by omega), if_neg (by omega), if_neg (by omega), if_neg (by omega), if_neg (by omega), if_pos (by omega)]
  exact congrArg _ (by omega)
end P76V
theorem wp_P {D : va_G} {cA : Nat → ClassId} {Γ : Nat → Nat → Nat} {μ : Nat → Nat} {q z : Nat} {H : Heap} (h0 : va_P D vwCl (allB cA Γ μ q) H) : va_P D vwCl (xWl (D, gam Γ μ q, cA, z) I0) H := by
  have h := va_P_mem h0
  unfold allB ccB at h
  simp only [List.mem_append, List.mem_singleton] at h
  obtain ⟨g, hg⟩ : ∃ g : xG, g = (D, gam Γ μ q, cA, z) := ⟨_, rfl⟩
  have b0 := h _ (Or.inl (Or.inl (Or.inl (Or.inl (Or.inl (Or.inl (Or.inl (Or.inl (Or.inl (Or.inl (Or.inl (Or.inl rfl))))))))))))
  have r1 := xAt_col (g := (D, gam Γ μ q, cA, z)) (a := 1) (u := Γ 1) (fun x hx => h x (Or.inl (Or.inl (Or.inl (Or.inl (Or.inl (Or.inl (Or.inl (Or.inl (Or.inl (Or.inl (Or.inl (Or.inr hx))))))))))))) (fun k hk => gm1 hk) (by decide) (by decide +kernel) (by decide +kernel) (by decide) (by decide)
  have r2 := xAt_tex (g := (D, gam Γ μ q, cA, z)) (u := Γ 2) (fun x hx => h x (Or.inl (Or.inl (Or.inl (Or.inl (Or.inl (Or.inl (Or.inl (Or.inl (Or.inl (Or.inl (Or.inr hx)))))))))))) (fun k hk => gm2 hk)
  have r3 := xAt_wri (g := (D, gam Γ μ q, cA, z)) (u := Γ 3) (fun x hx => h x (Or.inl (Or.inl (Or.inl (Or.inl (Or.inl (Or.inl (Or.inl (Or.inl (Or.inl (Or.inr hx))))))))))) (fun k hk => gm3 hk)
  have r4 := xAt_his (g := (D, gam Γ μ q, cA, z)) (u := Γ 4) (fun x hx => h x (Or.inl (Or.inl (Or.inl (Or.inl (Or.inl (Or.inl (Or.inl (Or.inl (Or.inr hx)))))))))) (fun k hk => gm4 hk) (fun k hk => gm4b hk)
  have r5 := xAt_she (g := (D, gam Γ μ q, cA, z)) (a := 178) (b := 145) (n := 2) (u := Γ 5) (fun x hx => h x (Or.inl (Or.inl (Or.inl (Or.inl (Or.inl (Or.inl (Or.inl (Or.inr hx))))))))) (fun k hk => gm5 hk) (fun k hk => gm5b hk) (by decide) (by decide) (by decide) (fun j _ => by show (if 179 = 175 then 19 else 145) + 9 * j = _; rw [if_neg (by decide)]) (by decide) (by decide) (by decide) (by decide) (by decide +kernel) (by decide)
  have r6 := xAt_col (g := (D, gam Γ μ q, cA, z)) (a := 10) (u := Γ 6) (fun x hx => h x (Or.inl (Or.inl (Or.inl (Or.inl (Or.inl (Or.inl (Or.inr hx)))))))) (fun k hk => gm6 hk) (by decide) (by decide +kernel) (by decide +kernel) (by decide) (by decide)
  have b7 := h _ (Or.inl (Or.inl (Or.inl (Or.inl (Or.inl (Or.inr (show _ ∈ scrB cA (Γ 7) from List.mem_append_left _ (List.mem_singleton.mpr rfl))))))))
  have r13 := xAt_col (g := (D, gam Γ μ q, cA, z)) (a := 202) (u := fun k => Γ 7 (1 + k)) (fun x hx => h x (Or.inl (Or.inl (Or.inl (Or.inl (Or.inl (Or.inr (show _ ∈ scrB cA (Γ 7) from List.mem_append_right _ hx)))))))) (fun k hk => gm7b hk) (by decide) (by decide +kernel) (by decide +kernel) (by decide) (by decide)
  have r8 := xAt_mes (g := (D, gam Γ μ q, cA, z)) (a := 183) (u := Γ 8) (fun x hx => h x (Or.inl (Or.inl (Or.inl (Or.inl (Or.inr hx)))))) (fun k hk => gm8 hk) (by decide) (by decide) (by decide) (by decide) (by decide)
  have r9 := xAt_row (g := (D, gam Γ μ q, cA, z)) (a := 185) (u := Γ 9) (fun x hx => h x (Or.inl (Or.inl (Or.inl (Or.inr hx))))) (fun k hk => gm9 hk) (by decide) (by decide) (by decide) (by decide)
  have r10 := xAt_row (g := (D, gam Γ μ q, cA, z)) (a := 187) (u := Γ 10) (fun x hx => h x (Or.inl (Or.inl (Or.inr hx)))) (fun k hk => gm10 hk) (by decide) (by decide) (by decide) (by decide)
  have r11 := xAt_mod (g := (D, gam Γ μ q, cA, z)) (u := μ) (fun x hx => h x (Or.inl (Or.inr hx))) (fun k hk => gm11 hk)
  have b12 := h _ (Or.inr rfl)
  have k0 : xK 0 = 8 := by decide
  have k182 : xK 182 = 6 := by decide
  have k201 : xK 201 = 12 := by decide
  have r0 : xAt (D, gam Γ μ q, cA, z) H 0 := xAt_obj b0 rfl k0 (by omega) (by rw [xFs_8 _ I0 k0]; rfl)
  have r7 : xAt (D, gam Γ μ q, cA, z) H 182 := xAt_obj b7 rfl k182 (by omega) (by rw [xFs_6 _ I0 k182]; rfl)
  have r12 : xAt (D, gam Γ μ q, cA, z) H 201 := by
    unfold xAt
    rw [xCell_l _ I0 k201, I0_o (by rw [k201]; decide) (by omega), show xL 201 = 1 by decide]
    exact b12
  have all : ∀ a, a < 211 → xAt (D, gam Γ μ q, cA, z) H a := by
    intro a ha
    have go : ∀ b n, (∀ k, k < n → xAt (D, gam Γ μ q, cA, z) H (b + k)) → b ≤ a → a < b + n → xAt (D, gam Γ μ q, cA, z) H a := fun b n hb h1 h2 => by
      have := hb (a - b) (by omega)
      rwa [show b + (a - b) = a by omega] at this
    rcases (show a = 0 ∨ (1 ≤ a ∧ a < 10) ∨ (10 ≤ a ∧ a < 19) ∨ (19 ≤ a ∧ a < 145) ∨ (145 ≤ a ∧ a < 163) ∨ (163 ≤ a ∧ a < 170) ∨ (170 ≤ a ∧ a < 173) ∨ (173 ≤ a ∧ a < 178) ∨ (178 ≤ a ∧ a < 182) ∨ a = 182 ∨ (183 ≤ a ∧ a < 185) ∨ (185 ≤ a ∧ a < 187) ∨ (187 ≤ a ∧ a < 189) ∨ (189 ≤ a ∧ a < 201) ∨ a = 201 ∨ (202 ≤ a ∧ a < 211) by omega) with rfl | h6 | h6 | h6 | h6 | h6 | h6 | h6 | h6 | rfl | h6 | h6 | h6 | h6 | rfl | h6
    · exact r0
    · exact go 1 9 r1 h6.1 h6.2
    · exact go 10 9 r6 h6.1 h6.2
    · exact go 19 126 r4.2 h6.1 h6.2
    · exact go 145 18 r5.2 h6.1 h6.2
    · exact go 163 7 r2 h6.1 h6.2
    · exact go 170 3 r3 h6.1 h6.2
    · exact go 173 5 r4.1 h6.1 h6.2
    · exact go 178 4 r5.1 h6.1 h6.2
    · exact r7
    · exact go 183 2 r8 h6.1 h6.2
    · exact go 185 2 r9 h6.1 h6.2
    · exact go 187 2 r10 h6.1 h6.2
    · exact go 189 12 r11 h6.1 h6.2
    · exact r12
    · exact go 202 9 r13 h6.1 h6.2
  intro k x hk
  have hk2 : k < 211 := by
    have := (List.getElem?_eq_some_iff.mp hk).1
    unfold xWl at this
    simpa using this
  rw [xWl_get _ I0 hk2] at hk
  cases hk
  exact all k hk2
end P76
