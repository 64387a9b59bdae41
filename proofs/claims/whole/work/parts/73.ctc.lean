section P73
theorem colB_congr (cA : Nat → ClassId) {γ γ' : Nat → Nat} (h : ∀ k, k < 9 → γ k = γ' k) : colB cA γ = colB cA γ' := by
  have h0 := h 0 (by omega)
  have h1 := h 1 (by omega)
  have h2 := h 2 (by omega)
  have h3 := h 3 (by omega)
  have h4 := h 4 (by omega)
  have h5 := h 5 (by omega)
  have h6 := h 6 (by omega)
  have h7 := h 7 (by omega)
  have h8 := h 8 (by omega)
  simp only [colB, rowB, mesB, Nat.add_zero, Nat.reduceAdd, h0, h1, h2, h3, h4, h5, h6, h7, h8]
theorem colsB_congr (cA : Nat → ClassId) {n : Nat} {γ γ' : Nat → Nat} (h : ∀ k, k < 9 * n → γ k = γ' k) : colsB cA n γ = colsB cA n γ' := by
  unfold colsB
  rw [List.flatMap_def, List.flatMap_def]
  congr 1
  apply List.map_congr_left
  intro j hj
  have := List.mem_range.mp hj
  exact colB_congr cA (fun k hk => h _ (by omega))
theorem colsB_succ (cA : Nat → ClassId) {i : Nat} {γ γ' u : Nat → Nat} (h : ∀ k, k < 9 * i → γ k = γ' k) (h2 : ∀ k, k < 9 → u k = γ' (9 * i + k)) : colsB cA i γ ++ colB cA u = colsB cA (i + 1) γ' := by
  rw [colsB_congr cA h, colB_congr cA h2]
  unfold colsB
  rw [List.range_succ, List.flatMap_append, List.flatMap_singleton]
theorem arrV_congr (cI : ClassId) {N : Nat} {f f' : Nat → Value} (h : ∀ j, j < N → f j = f' j) : arrV cI N f = arrV cI N f' := by
  unfold arrV
  congr 2
  funext j
  exact h j.1 j.2
theorem kP_arr {D : va_G} {H : Heap} {x : Nat × va_E} {q n : Nat} {cI : ClassId} {f f' : Nat → Option Nat} {ws : va_W} (hP : va_P D vwCl ([x] ++ [(q, .inl (cI, n, .inr (.inr (.inr (.inr f)))))] ++ ws) H) (h : ∀ j, j < n → f j = f' j) : va_P D vwCl ([x] ++ [(q, .inl (cI, n, .inr (.inr (.inr (.inr f')))))] ++ ws) H := by
  intro k y hk
  match k, hk with
  | 0, hk => exact hP 0 y hk
  | 1, hk =>
    cases hk
    have := hP 1 _ rfl
    show H[q]? = some (vp_cell _ _)
    rw [vp_cell_q]
    have h1 : H[q]? = some (vp_cell _ _) := this
    rw [vp_cell_q] at h1
    rw [h1]
    exact congrArg some (arrV_congr _ (fun j hj => by rw [h j hj]))
  | k + 2, hk => exact hP (k + 2) y hk
theorem kD_arr {A : Nat → Prop} {x : Nat × va_E} {q : Nat} {e e' : va_E} {ws : va_W} (hD : va_D A ([x] ++ [(q, e)] ++ ws)) : va_D A ([x] ++ [(q, e')] ++ ws) := hD.set (p := 1) rfl
theorem sheB_fin (cA : Nat → ClassId) {h0 q i : Nat} {u γ γ' : Nat → Nat} (h : γ' = fun k => if k = 0 then h0 else if k = 1 then q else if k = 2 then u 0 else if k = 3 then u 1 else γ (k - 4)) : sheB cA i γ' = [(h0, .inr (7, [.ref q, .ref (u 0)]))] ++ [(q, .inl (cA 3, i, .inr (.inr (.inr (.inr (fun j => some (γ (9 * j))))))))] ++ colsB cA i γ ++ rowB cA i u := by
  have e : ∀ x, γ' (4 + x) = γ x := fun x => by
    rw [h]
    show (if 4 + x = 0 then h0 else if 4 + x = 1 then q else if 4 + x = 2 then u 0 else if 4 + x = 3 then u 1 else γ (4 + x - 4)) = γ x
    rw [if_neg (by omega), if_neg (by omega), if_neg (by omega), if_neg (by omega), Nat.add_sub_cancel_left]
  have e0 : γ' 0 = h0 := by rw [h]; rfl
  have e1 : γ' 1 = q := by rw [h]; rfl
  have e2 : γ' 2 = u 0 := by rw [h]; rfl
  have e3 : γ' 3 = u 1 := by rw [h]; rfl
  unfold sheB rowB
  simp only [e, e0, e1, e2, e3, Nat.add_zero, Nat.reduceAdd]
set_option maxHeartbeats 4000000 in
set_option maxRecDepth 100000 in
/-- a shelf of n columns -/
theorem k_X7 (l : Launch) (D : va_G) (cA : Nat → ClassId) (n : Nat) (hn0 : 1 ≤ n) (hn : n < 1000) : kMet l D cA yX7_init cX7_init 3 [.int (nI n)] 7 [.null, .null] (9 * n + 3) (174 * n + 1) 3 53 kN (fun _ => sheB cA n) := by
  intro h0 sz
  unfold kQc
  refine Met.ofW (cc := cX7_init) (maxL := 3) (ret := none) (by decide) rfl ?_
  intro p e s m args below meth c s₁ B hml hv
  obtain ⟨rfl, hsz, hP, hW⟩ := hv
  have hts0 := atoms_spec (ws := Cond.code yX7_init cX7_init 3 none :: wsAll) B.pre
  have hts := fun w (hw : w ∈ wsAll) => hts0 w (List.mem_cons_of_mem _ hw)
  have hx := B.exec
  have hb := B.bytes
  have hr := B.returns
  have hown : s.vm.findClass RX7 = some m.cls := findClass_of_methodNamed B.named
  have hin : meth.name = "<init>" := (name_of_methodNamed B.named B.method).1
  subst hsz
  have hD : va_D (va_A [(h0, .inr (7, [.null, .null]))] s.heap.size) [(h0, .inr (7, [.null, .null]))] := va_D_one (va_A.in (k := 0) rfl)
  generalize hAe : va_A [(h0, .inr (7, [.null, .null]))] s.heap.size = A at hD ⊢
  have hA : ∀ q : Nat, s.heap.size ≤ q → A q := fun q h => by rw [← hAe]; exact Or.inr h
  have hS : va_S A s.heap s.heap [] := va_S.rf
  have hl := lv_entry ([.ref h0, .int (nI n)]) (n := 3) (Nat.le_of_ble_eq_true rfl)
  rw [lg_entry_eq]
  generalize (lg_sl ([.ref h0, .int (nI n)]) ++ List.replicate (3 - (lg_sl ([.ref h0, .int (nI n)])).length) Slot.unset).toArray = ls at hl ⊢
  have hl : lv_has ls 3 [(0, .ref h0), (1, .int (nI n))] := hl
  have F : CallFix p m c cX7_init 3 s _ wsAll RX7 := ⟨hx, hb, hml, hown, hts⟩
  refine lv_aload_n hx hb dX7_init_0 rfl (lv_at hl 0 rfl) ?_
  refine W.objInit hx hb hown (hts _ wk182) (hts _ wk25) (hts _ wk26) rfl (by rw [hml]; exact hl.1) rfl dX7_init_1 (Nat.le_of_ble_eq_true rfl) (Nat.le_of_ble_eq_true rfl) ?_
  refine W.eq (g2 := F0 m 4 ls []) rfl ?_
  refine lv_aload_n hx hb dX7_init_4 rfl (lv_at hl 0 rfl) ?_
  refine lv_iload_n hx hb dX7_init_5 rfl (lv_at hl 1 rfl) ?_
  refine lv_if_le (tgt := 13) hx hb dX7_init_6 (by decide) (fun h9 => absurd h9 (nI_nle (by omega) (by omega))) (fun _ => ?_)
  refine lv_iload_n hx hb dX7_init_9 rfl (lv_at hl 1 rfl) ?_
  refine lv_goto (tgt := 14) hx hb dX7_init_10 (by decide) ?_
  refine knewQ (n := n) (D := D) (cA := cA) hx hb hown hts wk183 hW hP hD hS hA (by omega) (by show 0 + 1 ≤ 9 * n + 3; omega) (by show 0 + n ≤ 174 * n + 1; omega) dX7_init_14 (fun q H hP hD hS => ?_)
  have hP : va_P D vwCl ([(h0, .inr (7, [.null, .null]))] ++ [(q, .inl (cA 3, n, .inr (.inr (.inr (.inr (fun _ => none))))))]) H := hP
  have hD : va_D A ([(h0, .inr (7, [.null, .null]))] ++ [(q, .inl (cA 3, n, .inr (.inr (.inr (.inr (fun _ => none))))))]) := hD
  refine va_putF (D := D) (tys := kTys cA) (ci := 7) (v := .ref q) (ty := tyX7 0) (C := RX7) (T := TX7) (N := 2) hx hb hts win7 tyX7 tyX7_ok nmX7 hown hW.1 hP hD hS 0 rfl rfl 0 (by decide) (hts _ wk188) (fun _ h9 => h9) rfl hin rfl (tyX7_ok 0 (by decide)) rfl rfl (Nat.le_of_ble_eq_true rfl) dX7_init_17 (fun H locs hP hD hS => ?_)
  have hP : va_P D vwCl ([(h0, .inr (7, [.ref q, .null]))] ++ [(q, .inl (cA 3, n, .inr (.inr (.inr (.inr (fun _ => none))))))]) H := hP
  have hD : va_D A ([(h0, .inr (7, [.ref q, .null]))] ++ [(q, .inl (cA 3, n, .inr (.inr (.inr (.inr (fun _ => none))))))]) := hD
  refine lv_iconst (v := nI 0) hx hb dX7_init_20 (by decide) ?_
  refine lv_istore_n (lv' := [(2, .int (nI 0)), (0, .ref h0), (1, .int (nI n))]) hx hb dX7_init_21 rfl hl (by decide) rfl (fun ls hl => ?_)
  refine W.widen (k := 1 + 9 * 0) (n := n + 172 * 0) (by omega) (by omega) ?_
  have key : ∀ (k i : Nat), i + k = n → ∀ (γ : Nat → Nat) (H : Heap) (locs : List Loc) (ls : Array Slot), lv_has ls 3 [(2, .int (nI i)), (0, .ref h0), (1, .int (nI n))] → va_P D vwCl ([(h0, .inr (7, [.ref q, .null]))] ++ [(q, .inl (cA 3, n, .inr (.inr (.inr (.inr (fun j => if j < i then some (γ (9 * j)) else none))))))] ++ colsB cA i γ) H → va_D A ([(h0, .inr (7, [.ref q, .null]))] ++ [(q, .inl (cA 3, n, .inr (.inr (.inr (.inr (fun j => if j < i then some (γ (9 * j)) else none))))))] ++ colsB cA i γ) → va_S A s.heap H locs → W p l e (headSpec (Cond.code yX7_init cX7_init 3 none :: wsAll) { frames := 3, cells := 9 * n + 3, slots := 174 * n + 1, locals := 53 }).room s m #[Value.ref h0, Value.int (nI n)] below meth c H locs (1 + 9 * i) (n + 172 * i) (MQ below (va_Qv (fun u => kN h0 u) (fun u t => va_P D vwCl ((fun _ => sheB cA n) h0 u) t.heap ∧ va_D A ((fun _ => sheB cA n) h0 u)) A) #[Value.ref h0, Value.int (nI n)] s (9 * n + 3) (174 * n + 1) A) (F0 m 22 ls []) := by
    intro k
    induction k with
    | zero =>
      intro i hi γ H locs ls hl hP hD hS
      obtain rfl : i = n := by omega
      refine lv_iload_n hx hb dX7_init_22 rfl (lv_at hl 0 rfl) ?_
      refine lv_aload_n hx hb dX7_init_23 rfl (lv_at hl 1 rfl) ?_
      refine va_get (D := D) (cl := vwCl) (tys := kTys cA) hx hb hts win7 hown hW.1 hP 0 (fs := [.ref q, .null]) (C := RX7) (T := TX7) (N := 2) rfl rfl 0 (by decide) (hts _ wk188) (fun _ h9 => h9) rfl dX7_init_24 ?_
      refine va_alen (v := nI i) hx hb hW.1 hP 1 3 rfl rfl rfl dX7_init_27 ?_
      refine lv_icmp_ge (tgt := 50) hx hb dX7_init_28 (by decide) (fun _ => ?_) (fun h9 => absurd (Int32.le_refl _) h9)
      have hP := kP_arr (ws := colsB cA i γ) (f' := fun j => some (γ (9 * j))) hP (fun j hj => if_pos hj)
      have hD := kD_arr (ws := colsB cA i γ) (e' := .inl (cA 3, i, .inr (.inr (.inr (.inr (fun j => some (γ (9 * j)))))))) hD
      refine lv_aload_n hx hb dX7_init_50 rfl (lv_at hl 1 rfl) ?_
      refine va_new (D := D) (tys := kTys cA) (ci := 5) (fs := [.null]) (C := RX5) (T := TX5) (N := 1) hx hb hts win5 tyX5 tyX5_ok hown (hts _ wk186) (hts _ wk34) (hts _ wk3) hW.1 hP hD hS hA rfl (fun j hj => by rcases (show j = 0 by omega) with rfl <;> rfl) (by show 1 + 9 * i + 1 ≤ 9 * i + 3; omega) (by show i + 172 * i + 1 ≤ 174 * i + 1; omega) dX7_init_51 (fun q1 H hP hD hS => ?_)
      have hP : va_P D vwCl ([(h0, .inr (7, [.ref q, .null]))] ++ [(q, .inl (cA 3, i, .inr (.inr (.inr (.inr (fun j => some (γ (9 * j))))))))] ++ colsB cA i γ ++ [(q1, .inr (5, [.null]))]) H := hP
      have hD : va_D A ([(h0, .inr (7, [.ref q, .null]))] ++ [(q, .inl (cA 3, i, .inr (.inr (.inr (.inr (fun j => some (γ (9 * j))))))))] ++ colsB cA i γ ++ [(q1, .inr (5, [.null]))]) := hD
      refine lv_dup hx hb dX7_init_54 rfl ?_
      refine lv_iload_n hx hb dX7_init_55 rfl (lv_at hl 2 rfl) ?_
      refine kcallI (rest := [.ref q1, .ref h0]) F (k_X5 l D cA i (by omega) (by omega)) dX7_init_56 wk187 wk36 wk3 wk37 rfl (n := 1) ⟨by decide, by decide, by decide +kernel⟩ ⟨Nat.le_of_ble_eq_true rfl, Nat.le_of_ble_eq_true rfl⟩ rfl rfl (Nat.le_of_ble_eq_true rfl) hl.1 ⟨by show 1 + 9 * i + 1 + 1 ≤ 9 * i + 3; omega, by show i + 172 * i + 1 + i ≤ 174 * i + 1; omega⟩ hW hP hD hS hA (fun u1 H locs hp hP7 hD7 hS => ?_)
      obtain rfl : u1 0 = q1 := hp
      have hP : va_P D vwCl ([(h0, .inr (7, [.ref q, .null]))] ++ [(q, .inl (cA 3, i, .inr (.inr (.inr (.inr (fun j => some (γ (9 * j))))))))] ++ colsB cA i γ ++ rowB cA i u1) H := hP7
      have hD : va_D A ([(h0, .inr (7, [.ref q, .null]))] ++ [(q, .inl (cA 3, i, .inr (.inr (.inr (.inr (fun j => some (γ (9 * j))))))))] ++ colsB cA i γ ++ rowB cA i u1) := hD7
      refine va_putF (D := D) (tys := kTys cA) (ci := 7) (v := .ref (u1 0)) (ty := tyX7 1) (C := RX7) (T := TX7) (N := 2) hx hb hts win7 tyX7 tyX7_ok nmX7 hown hW.1 hP hD hS 0 rfl rfl 1 (by decide) (hts _ wk189) (fun _ h9 => h9) rfl hin rfl (tyX7_ok 1 (by decide)) rfl rfl (Nat.le_of_ble_eq_true rfl) dX7_init_59 (fun H locs hP hD hS => ?_)
      have hP : va_P D vwCl ([(h0, .inr (7, [.ref q, .ref (u1 0)]))] ++ [(q, .inl (cA 3, i, .inr (.inr (.inr (.inr (fun j => some (γ (9 * j))))))))] ++ colsB cA i γ ++ rowB cA i u1) H := hP
      have hD : va_D A ([(h0, .inr (7, [.ref q, .ref (u1 0)]))] ++ [(q, .inl (cA 3, i, .inr (.inr (.inr (.inr (fun j => some (γ (9 * j))))))))] ++ colsB cA i γ ++ rowB cA i u1) := hD
      refine W.widen (k := 9 * i + 3) (n := 174 * i + 1) (by first | omega | exact Nat.le_of_ble_eq_true rfl) (by first | omega | exact Nat.le_of_ble_eq_true rfl) ?_
      obtain ⟨γ', hγ⟩ : ∃ γ' : Nat → Nat, γ' = fun k => if k = 0 then h0 else if k = 1 then q else if k = 2 then u1 0 else if k = 3 then u1 1 else γ (k - 4) := ⟨_, rfl⟩
      have hP9 : va_P D vwCl (sheB cA i γ') H := by
        rw [show sheB cA i γ' = _ from sheB_fin cA hγ]
        exact hP
      have hD9 : va_D A (sheB cA i γ') := by
        rw [show sheB cA i γ' = _ from sheB_fin cA hγ]
        exact hD
      exact W.vret hx hb hr (fun t ht hW => ⟨⟨γ', rfl, (by rw [hγ] <;> rfl), by rw [ht]; exact hP9, hD9⟩, hS.F ht⟩) hS.2.2 dX7_init_62
    | succ k ih =>
      intro i hi γ H locs ls hl hP hD hS
      refine lv_iload_n hx hb dX7_init_22 rfl (lv_at hl 0 rfl) ?_
      refine lv_aload_n hx hb dX7_init_23 rfl (lv_at hl 1 rfl) ?_
      refine va_get (D := D) (cl := vwCl) (tys := kTys cA) hx hb hts win7 hown hW.1 hP 0 (fs := [.ref q, .null]) (C := RX7) (T := TX7) (N := 2) rfl rfl 0 (by decide) (hts _ wk188) (fun _ h9 => h9) rfl dX7_init_24 ?_
      refine va_alen (v := nI n) hx hb hW.1 hP 1 3 rfl rfl rfl dX7_init_27 ?_
      refine lv_icmp_ge (tgt := 50) hx hb dX7_init_28 (by decide) (fun h9 => absurd h9 (nI_ge (by omega) (by omega))) (fun _ => ?_)
      refine lv_aload_n hx hb dX7_init_31 rfl (lv_at hl 1 rfl) ?_
      refine va_get (D := D) (cl := vwCl) (tys := kTys cA) hx hb hts win7 hown hW.1 hP 0 (fs := [.ref q, .null]) (C := RX7) (T := TX7) (N := 2) rfl rfl 0 (by decide) (hts _ wk188) (fun _ h9 => h9) rfl dX7_init_32 ?_
      refine lv_iload_n hx hb dX7_init_35 rfl (lv_at hl 0 rfl) ?_
      refine va_new (D := D) (tys := kTys cA) (ci := 0) (fs := [.null, .null, .null, .null, .int 0, .int 0, .int 0]) (C := RX0) (T := TX0) (N := 7) hx hb hts win0 tyX0 tyX0_ok hown (hts _ wk183) (hts _ wk28) (hts _ wk2) hW.1 hP hD hS hA rfl (fun j hj => by rcases (show j = 0 ∨ j = 1 ∨ j = 2 ∨ j = 3 ∨ j = 4 ∨ j = 5 ∨ j = 6 by omega) with rfl | rfl | rfl | rfl | rfl | rfl | rfl <;> rfl) (by show 1 + 9 * i + 1 ≤ 9 * n + 3; omega) (by show n + 172 * i + 7 ≤ 174 * n + 1; omega) dX7_init_36 (fun q21 H hP hD hS => ?_)
      have hP : va_P D vwCl ([(h0, .inr (7, [.ref q, .null]))] ++ [(q, .inl (cA 3, n, .inr (.inr (.inr (.inr (fun j => if j < i then some (γ (9 * j)) else none))))))] ++ colsB cA i γ ++ [(q21, .inr (0, [.null, .null, .null, .null, .int 0, .int 0, .int 0]))]) H := hP
      have hD : va_D A ([(h0, .inr (7, [.ref q, .null]))] ++ [(q, .inl (cA 3, n, .inr (.inr (.inr (.inr (fun j => if j < i then some (γ (9 * j)) else none))))))] ++ colsB cA i γ ++ [(q21, .inr (0, [.null, .null, .null, .null, .int 0, .int 0, .int 0]))]) := hD
      refine lv_dup hx hb dX7_init_39 rfl ?_
      refine kcallN (host := "CodedColumn") (rest := [.ref q21, .int (nI i), .ref q]) F (k_X0 l D cA) dX7_init_40 (by decide +kernel) wk30 wk2 wk31 rfl (n := 0) ⟨by decide, by decide, by decide +kernel⟩ ⟨Nat.le_of_ble_eq_true rfl, Nat.le_of_ble_eq_true rfl⟩ rfl rfl (Nat.le_of_ble_eq_true rfl) hl.1 ⟨by show 1 + 9 * i + 1 + 8 ≤ 9 * n + 3; omega, by show n + 172 * i + 7 + 165 ≤ 174 * n + 1; omega⟩ hW hP hD hS hA (fun u21 H locs hp hP7 hD7 hS => ?_)
      obtain rfl : u21 0 = q21 := hp
      have hP : va_P D vwCl ([(h0, .inr (7, [.ref q, .null]))] ++ [(q, .inl (cA 3, n, .inr (.inr (.inr (.inr (fun j => if j < i then some (γ (9 * j)) else none))))))] ++ colsB cA i γ ++ colB cA u21) H := hP7
      have hD : va_D A ([(h0, .inr (7, [.ref q, .null]))] ++ [(q, .inl (cA 3, n, .inr (.inr (.inr (.inr (fun j => if j < i then some (γ (9 * j)) else none))))))] ++ colsB cA i γ ++ colB cA u21) := hD7
      have hcl : (nI i).toNatClampNeg = i := nI_clamp (by omega)
      have hq : ([(h0, .inr (7, [.ref q, .null]))] ++ [(q, .inl (cA 3, n, .inr (.inr (.inr (.inr (fun j => if j < i then some (γ (9 * j)) else none))))))] ++ colsB cA i γ ++ colB cA u21)[([(h0, .inr (7, [.ref q, .null]))] ++ [(q, .inl (cA 3, n, .inr (.inr (.inr (.inr (fun j => if j < i then some (γ (9 * j)) else none))))))] ++ colsB cA i γ : va_W).length]? = some (u21 0, .inr (0, [.ref (u21 1), .ref (u21 3), .ref (u21 5), .ref (u21 7), .int 0, .int 0, .int 8])) := by
        rw [List.getElem?_append_right (Nat.le_refl _), Nat.sub_self]
        rfl
      refine va_astq (r := (RX0, TX0, 7)) hx hb hW.1 hP hD hS 1 3 _ 0 rfl rfl hq rfl (vp_in_nI (by omega) (by omega)) dX7_init_43 (fun H locs hP hD hS => ?_)
      refine lv_iinc (v := nI (i + 1)) (lv' := [(2, .int (nI (i + 1))), (0, .ref h0), (1, .int (nI n))]) hx hb dX7_init_44 hl (k := 0) rfl (by rw [nI_succ]; rfl) (by decide) rfl (fun ls hl => ?_)
      refine lv_goto (tgt := 22) hx hb dX7_init_47 (by decide) ?_
      refine W.widen (k := 1 + 9 * (i + 1)) (n := n + 172 * (i + 1)) (by omega) (by omega) ?_
      obtain ⟨γ', hγ⟩ : ∃ γ' : Nat → Nat, γ' = fun x => if x < 9 * i then γ x else u21 (x - 9 * i) := ⟨_, rfl⟩
      have g1 : ∀ x, x < 9 * i → γ x = γ' x := fun x hx => by rw [hγ]; exact (if_pos hx).symm
      have g2 : ∀ x, x < 9 → u21 x = γ' (9 * i + x) := fun x _ => by
        rw [hγ]
        show u21 x = if 9 * i + x < 9 * i then γ (9 * i + x) else u21 (9 * i + x - 9 * i)
        rw [if_neg (by omega), Nat.add_sub_cancel_left]
      have g3 : va_up (fun j => if j < i then some (γ (9 * j)) else none) (nI i).toNatClampNeg (some (u21 0)) = fun j => if j < i + 1 then some (γ' (9 * j)) else none := by
        rw [hcl]
        funext j
        rcases Nat.lt_trichotomy j i with h | h | h
        · rw [va_up_ne _ _ (by omega), if_pos h, if_pos (by omega), g1 _ (by omega)]
        · rw [h, va_up_self, if_pos (by omega), g2 0 (by omega), Nat.add_zero]
        · rw [va_up_ne _ _ (by omega), if_neg (by omega), if_neg (by omega)]
      have e9 : [(h0, .inr (7, [.ref q, .null]))] ++ [(q, .inl (cA 3, n, .inr (.inr (.inr (.inr (va_up (fun j => if j < i then some (γ (9 * j)) else none) (nI i).toNatClampNeg (some (u21 0))))))))] ++ colsB cA i γ ++ colB cA u21 = ([(h0, .inr (7, [.ref q, .null]))] ++ [(q, .inl (cA 3, n, .inr (.inr (.inr (.inr (fun j => if j < i + 1 then some (γ' (9 * j)) else none))))))] ++ colsB cA (i + 1) γ' : va_W) := by
        rw [g3, List.append_assoc _ (colsB cA i γ), colsB_succ cA g1 g2]
      exact ih (i + 1) (by omega) γ' H locs ls hl (e9 ▸ hP) (e9 ▸ hD) hS
  refine key n 0 (by omega) (fun _ => 0) H locs ls hl ?_ ?_ hS
  · exact kP_arr (ws := []) (by simpa using hP) (fun j hj => by simp)
  · exact kD_arr (ws := []) (by simpa using hD)
end P73
