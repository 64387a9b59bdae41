section P74
theorem hisB_fin (cA : Nat → ClassId) {h0 : Nat} {u γ : Nat → Nat} (h : γ = fun k => if k = 0 then h0 else u (k - 1)) : hisB cA γ = [(h0, .inr (1, [.ref (u 0), .int 0, .int 0]))] ++ sheB cA 14 u := by
  have e : ∀ x, γ (1 + x) = u x := fun x => by
    rw [h]
    show (if 1 + x = 0 then h0 else u (1 + x - 1)) = u x
    rw [if_neg (by omega), Nat.add_sub_cancel_left]
  have e0 : γ 0 = h0 := by rw [h]; rfl
  have e1 : γ 1 = u 0 := by rw [h]; rfl
  unfold hisB
  simp only [e, e0, e1]
def ccB (cA : Nat → ClassId) (Γ : Nat → Nat → Nat) : va_W := [(Γ 0 0, .inr (8, [.ref (Γ 1 0), .ref (Γ 2 0), .ref (Γ 3 0), .ref (Γ 4 0), .ref (Γ 5 0), .ref (Γ 6 0), .ref (Γ 7 0), .ref (Γ 8 0), .ref (Γ 9 0), .ref (Γ 10 0)]))] ++ colB cA (Γ 1) ++ texB cA (Γ 2) ++ wriB cA (Γ 3) ++ hisB cA (Γ 4) ++ sheB cA 2 (Γ 5) ++ colB cA (Γ 6) ++ scrB cA (Γ 7) ++ mesB cA (Γ 8) ++ rowB cA 121 (Γ 9) ++ rowB cA 3 (Γ 10)
def arB (cA : Nat → ClassId) (n : Nat) (q : Nat) : va_W := [(q, .inl (cA 0, n, .inl (fun _ => 0)))]
def modB (cA : Nat → ClassId) (γ : Nat → Nat) : va_W := [(γ 0, .inr (9, [.int 0, .ref (γ 1), .int 0, .int 0, .ref (γ 2), .ref (γ 3), .ref (γ 4), .ref (γ 5), .int 0, .ref (γ 6), .ref (γ 7), .ref (γ 8), .int 0, .ref (γ 9), .ref (γ 10), .int 0, .ref (γ 11)]))] ++ arB cA 160 (γ 1) ++ [(γ 2, .inl (cA 0, 142, .inl (fun j => if j = 1 then nI 8 else 0)))] ++ arB cA 142 (γ 3) ++ arB cA 142 (γ 4) ++ arB cA 1988 (γ 5) ++ arB cA 284 (γ 6) ++ [(γ 7, .inl (cA 1, 2, .inl (fun _ => 0)))] ++ arB cA 200 (γ 8) ++ arB cA 12 (γ 9) ++ arB cA 12 (γ 10) ++ arB cA 121 (γ 11)
set_option maxHeartbeats 4000000 in
set_option maxRecDepth 100000 in
/-- History() -/
theorem k_X1 (l : Launch) (D : va_G) (cA : Nat → ClassId) : kMet l D cA yX1_init cX1_init 1 [] 1 [.null, .int 0, .int 0] 130 2439 4 75 kN (fun _ => hisB cA) := by
  intro h0 sz
  unfold kQc
  refine Met.ofW (cc := cX1_init) (maxL := 1) (ret := none) (by decide) rfl ?_
  intro p e s m args below meth c s₁ B hml hv
  obtain ⟨rfl, hsz, hP, hW⟩ := hv
  have hts0 := atoms_spec (ws := Cond.code yX1_init cX1_init 1 none :: wsAll) B.pre
  have hts := fun w (hw : w ∈ wsAll) => hts0 w (List.mem_cons_of_mem _ hw)
  have hx := B.exec
  have hb := B.bytes
  have hr := B.returns
  have hown : s.vm.findClass RX1 = some m.cls := findClass_of_methodNamed B.named
  have hin : meth.name = "<init>" := (name_of_methodNamed B.named B.method).1
  subst hsz
  have hD : va_D (va_A [(h0, .inr (1, [.null, .int 0, .int 0]))] s.heap.size) [(h0, .inr (1, [.null, .int 0, .int 0]))] := va_D_one (va_A.in (k := 0) rfl)
  generalize hAe : va_A [(h0, .inr (1, [.null, .int 0, .int 0]))] s.heap.size = A at hD ⊢
  have hA : ∀ q : Nat, s.heap.size ≤ q → A q := fun q h => by rw [← hAe]; exact Or.inr h
  have hS : va_S A s.heap s.heap [] := va_S.rf
  have hl := lv_entry ([.ref h0]) (n := 1) (Nat.le_of_ble_eq_true rfl)
  rw [lg_entry_eq]
  generalize (lg_sl ([.ref h0]) ++ List.replicate (1 - (lg_sl ([.ref h0])).length) Slot.unset).toArray = ls at hl ⊢
  have hl : lv_has ls 1 [(0, .ref h0)] := hl
  have F : CallFix p m c cX1_init 1 s _ wsAll RX1 := ⟨hx, hb, hml, hown, hts⟩
  refine lv_aload_n hx hb dX1_init_0 rfl (lv_at hl 0 rfl) ?_
  refine W.objInit hx hb hown (hts _ wk176) (hts _ wk25) (hts _ wk26) rfl (by rw [hml]; exact hl.1) rfl dX1_init_1 (Nat.le_of_ble_eq_true rfl) (Nat.le_of_ble_eq_true rfl) ?_
  refine W.eq (g2 := F0 m 4 ls []) rfl ?_
  refine lv_aload_n hx hb dX1_init_4 rfl (lv_at hl 0 rfl) ?_
  refine va_new (D := D) (tys := kTys cA) (ci := 7) (fs := [.null, .null]) (C := RX7) (T := TX7) (N := 2) hx hb hts win7 tyX7 tyX7_ok hown (hts _ wk177) (hts _ wk178) (hts _ wk8) hW.1 hP hD hS hA rfl (fun j hj => by rcases (show j = 0 ∨ j = 1 by omega) with rfl | rfl <;> rfl) (Nat.le_of_ble_eq_true rfl) (Nat.le_of_ble_eq_true rfl) dX1_init_5 (fun q1 H hP hD hS => ?_)
  have hP : va_P D vwCl ([(h0, .inr (1, [.null, .int 0, .int 0]))] ++ [(q1, .inr (7, [.null, .null]))]) H := hP
  have hD : va_D A ([(h0, .inr (1, [.null, .int 0, .int 0]))] ++ [(q1, .inr (7, [.null, .null]))]) := hD
  refine lv_dup hx hb dX1_init_8 rfl ?_
  refine lv_bipush (v := nI 14) hx hb dX1_init_9 (by decide) ?_
  refine kcallI (rest := [.ref q1, .ref h0]) F (k_X7 l D cA 14 (by omega) (by omega)) dX1_init_11 wk179 wk180 wk8 wk181 rfl (n := 1) ⟨by decide, by decide, by decide +kernel⟩ ⟨Nat.le_of_ble_eq_true rfl, Nat.le_of_ble_eq_true rfl⟩ rfl rfl (Nat.le_of_ble_eq_true rfl) hl.1 ⟨Nat.le_of_ble_eq_true rfl, Nat.le_of_ble_eq_true rfl⟩ hW hP hD hS hA (fun u1 H locs hp hP7 hD7 hS => ?_)
  obtain rfl : u1 0 = q1 := hp
  have hP : va_P D vwCl ([(h0, .inr (1, [.null, .int 0, .int 0]))] ++ sheB cA 14 u1) H := hP7
  have hD : va_D A ([(h0, .inr (1, [.null, .int 0, .int 0]))] ++ sheB cA 14 u1) := hD7
  refine va_putF (D := D) (tys := kTys cA) (ci := 1) (v := .ref (u1 0)) (ty := tyX1 0) (C := RX1) (T := TX1) (N := 3) hx hb hts win1 tyX1 tyX1_ok nmX1 hown hW.1 hP hD hS 0 rfl rfl 0 (by decide) (hts _ wk195) (fun _ h9 => h9) rfl hin rfl (tyX1_ok 0 (by decide)) rfl rfl (Nat.le_of_ble_eq_true rfl) dX1_init_14 (fun H locs hP hD hS => ?_)
  have hP : va_P D vwCl ([(h0, .inr (1, [.ref (u1 0), .int 0, .int 0]))] ++ sheB cA 14 u1) H := hP
  have hD : va_D A ([(h0, .inr (1, [.ref (u1 0), .int 0, .int 0]))] ++ sheB cA 14 u1) := hD
  refine W.widen (k := 130) (n := 2439) (by first | omega | exact Nat.le_of_ble_eq_true rfl) (by first | omega | exact Nat.le_of_ble_eq_true rfl) ?_
  obtain ⟨γ, hγ⟩ : ∃ γ : Nat → Nat, γ = fun k => if k = 0 then h0 else u1 (k - 1) := ⟨_, rfl⟩
  have hP9 : va_P D vwCl (hisB cA γ) H := by rw [hisB_fin cA hγ]; exact hP
  have hD9 : va_D A (hisB cA γ) := by rw [hisB_fin cA hγ]; exact hD
  exact W.vret hx hb hr (fun t ht hW => ⟨⟨γ, rfl, (by rw [hγ] <;> rfl), by rw [ht]; exact hP9, hD9⟩, hS.F ht⟩) hS.2.2 dX1_init_17
set_option maxHeartbeats 4000000 in
set_option maxRecDepth 100000 in
/-- CodedColumn() -/
theorem k_X8 (l : Launch) (D : va_G) (cA : Nat → ClassId) : kMet l D cA yX8_init cX8_init 1 [] 8 [.null, .null, .null, .null, .null, .null, .null, .null, .null, .null] 197 3834 5 95 (fun h0 (Γ : Nat → Nat → Nat) => Γ 0 0 = h0) (fun _ => ccB cA) := by
  intro h0 sz
  unfold kQc
  refine Met.ofW (cc := cX8_init) (maxL := 1) (ret := none) (by decide) rfl ?_
  intro p e s m args below meth c s₁ B hml hv
  obtain ⟨rfl, hsz, hP, hW⟩ := hv
  have hts0 := atoms_spec (ws := Cond.code yX8_init cX8_init 1 none :: wsAll) B.pre
  have hts := fun w (hw : w ∈ wsAll) => hts0 w (List.mem_cons_of_mem _ hw)
  have hx := B.exec
  have hb := B.bytes
  have hr := B.returns
  have hown : s.vm.findClass RX8 = some m.cls := findClass_of_methodNamed B.named
  have hin : meth.name = "<init>" := (name_of_methodNamed B.named B.method).1
  subst hsz
  have hD : va_D (va_A [(h0, .inr (8, [.null, .null, .null, .null, .null, .null, .null, .null, .null, .null]))] s.heap.size) [(h0, .inr (8, [.null, .null, .null, .null, .null, .null, .null, .null, .null, .null]))] := va_D_one (va_A.in (k := 0) rfl)
  generalize hAe : va_A [(h0, .inr (8, [.null, .null, .null, .null, .null, .null, .null, .null, .null, .null]))] s.heap.size = A at hD ⊢
  have hA : ∀ q : Nat, s.heap.size ≤ q → A q := fun q h => by rw [← hAe]; exact Or.inr h
  have hS : va_S A s.heap s.heap [] := va_S.rf
  have hl := lv_entry ([.ref h0]) (n := 1) (Nat.le_of_ble_eq_true rfl)
  rw [lg_entry_eq]
  generalize (lg_sl ([.ref h0]) ++ List.replicate (1 - (lg_sl ([.ref h0])).length) Slot.unset).toArray = ls at hl ⊢
  have hl : lv_has ls 1 [(0, .ref h0)] := hl
  have F : CallFix p m c cX8_init 1 s _ wsAll RX8 := ⟨hx, hb, hml, hown, hts⟩
  refine lv_aload_n hx hb dX8_init_0 rfl (lv_at hl 0 rfl) ?_
  refine W.objInit hx hb hown (hts _ wk24) (hts _ wk25) (hts _ wk26) rfl (by rw [hml]; exact hl.1) rfl dX8_init_1 (Nat.le_of_ble_eq_true rfl) (Nat.le_of_ble_eq_true rfl) ?_
  refine W.eq (g2 := F0 m 4 ls []) rfl ?_
  refine lv_aload_n hx hb dX8_init_4 rfl (lv_at hl 0 rfl) ?_
  refine va_new (D := D) (tys := kTys cA) (ci := 0) (fs := [.null, .null, .null, .null, .int 0, .int 0, .int 0]) (C := RX0) (T := TX0) (N := 7) hx hb hts win0 tyX0 tyX0_ok hown (hts _ wk27) (hts _ wk28) (hts _ wk2) hW.1 hP hD hS hA rfl (fun j hj => by rcases (show j = 0 ∨ j = 1 ∨ j = 2 ∨ j = 3 ∨ j = 4 ∨ j = 5 ∨ j = 6 by omega) with rfl | rfl | rfl | rfl | rfl | rfl | rfl <;> rfl) (Nat.le_of_ble_eq_true rfl) (Nat.le_of_ble_eq_true rfl) dX8_init_5 (fun q1 H hP hD hS => ?_)
  have hP : va_P D vwCl ([(h0, .inr (8, [.null, .null, .null, .null, .null, .null, .null, .null, .null, .null]))] ++ [(q1, .inr (0, [.null, .null, .null, .null, .int 0, .int 0, .int 0]))]) H := hP
  have hD : va_D A ([(h0, .inr (8, [.null, .null, .null, .null, .null, .null, .null, .null, .null, .null]))] ++ [(q1, .inr (0, [.null, .null, .null, .null, .int 0, .int 0, .int 0]))]) := hD
  refine lv_dup hx hb dX8_init_8 rfl ?_
  refine kcallN (host := "CodedColumn") (rest := [.ref q1, .ref h0]) F (k_X0 l D cA) dX8_init_9 (by decide +kernel) wk30 wk2 wk31 rfl (n := 0) ⟨by decide, by decide, by decide +kernel⟩ ⟨Nat.le_of_ble_eq_true rfl, Nat.le_of_ble_eq_true rfl⟩ rfl rfl (Nat.le_of_ble_eq_true rfl) hl.1 ⟨Nat.le_of_ble_eq_true rfl, Nat.le_of_ble_eq_true rfl⟩ hW hP hD hS hA (fun u1 H locs hp hP7 hD7 hS => ?_)
  obtain rfl : u1 0 = q1 := hp
  have hP : va_P D vwCl ([(h0, .inr (8, [.null, .null, .null, .null, .null, .null, .null, .null, .null, .null]))] ++ colB cA u1) H := hP7
  have hD : va_D A ([(h0, .inr (8, [.null, .null, .null, .null, .null, .null, .null, .null, .null, .null]))] ++ colB cA u1) := hD7
  refine va_putF (D := D) (tys := kTys cA) (ci := 8) (v := .ref (u1 0)) (ty := tyX8 0) (C := RX8) (T := TX8) (N := 10) hx hb hts win8 tyX8 tyX8_ok nmX8 hown hW.1 hP hD hS 0 rfl rfl 0 (by decide) (hts _ wk224) (fun _ h9 => h9) rfl hin rfl (tyX8_ok 0 (by decide)) rfl rfl (Nat.le_of_ble_eq_true rfl) dX8_init_12 (fun H locs hP hD hS => ?_)
  have hP : va_P D vwCl ([(h0, .inr (8, [.ref (u1 0), .null, .null, .null, .null, .null, .null, .null, .null, .null]))] ++ colB cA u1) H := hP
  have hD : va_D A ([(h0, .inr (8, [.ref (u1 0), .null, .null, .null, .null, .null, .null, .null, .null, .null]))] ++ colB cA u1) := hD
  refine lv_aload_n hx hb dX8_init_15 rfl (lv_at hl 0 rfl) ?_
  refine va_new (D := D) (tys := kTys cA) (ci := 3) (fs := [.null, .null, .null, .int 0, .int 0, .int 0, .int 0]) (C := RX3) (T := TX3) (N := 7) hx hb hts win3 tyX3 tyX3_ok hown (hts _ wk122) (hts _ wk123) (hts _ wk5) hW.1 hP hD hS hA rfl (fun j hj => by rcases (show j = 0 ∨ j = 1 ∨ j = 2 ∨ j = 3 ∨ j = 4 ∨ j = 5 ∨ j = 6 by omega) with rfl | rfl | rfl | rfl | rfl | rfl | rfl <;> rfl) (Nat.le_of_ble_eq_true rfl) (Nat.le_of_ble_eq_true rfl) dX8_init_16 (fun q2 H hP hD hS => ?_)
  have hP : va_P D vwCl ([(h0, .inr (8, [.ref (u1 0), .null, .null, .null, .null, .null, .null, .null, .null, .null]))] ++ colB cA u1 ++ [(q2, .inr (3, [.null, .null, .null, .int 0, .int 0, .int 0, .int 0]))]) H := hP
  have hD : va_D A ([(h0, .inr (8, [.ref (u1 0), .null, .null, .null, .null, .null, .null, .null, .null, .null]))] ++ colB cA u1 ++ [(q2, .inr (3, [.null, .null, .null, .int 0, .int 0, .int 0, .int 0]))]) := hD
  refine lv_dup hx hb dX8_init_19 rfl ?_
  refine kcallN (host := "CodedColumn") (rest := [.ref q2, .ref h0]) F (k_X3 l D cA) dX8_init_20 (by decide +kernel) wk125 wk5 wk126 rfl (n := 0) ⟨by decide, by decide, by decide +kernel⟩ ⟨Nat.le_of_ble_eq_true rfl, Nat.le_of_ble_eq_true rfl⟩ rfl rfl (Nat.le_of_ble_eq_true rfl) hl.1 ⟨Nat.le_of_ble_eq_true rfl, Nat.le_of_ble_eq_true rfl⟩ hW hP hD hS hA (fun u2 H locs hp hP7 hD7 hS => ?_)
  obtain rfl : u2 0 = q2 := hp
  have hP : va_P D vwCl ([(h0, .inr (8, [.ref (u1 0), .null, .null, .null, .null, .null, .null, .null, .null, .null]))] ++ colB cA u1 ++ texB cA u2) H := hP7
  have hD : va_D A ([(h0, .inr (8, [.ref (u1 0), .null, .null, .null, .null, .null, .null, .null, .null, .null]))] ++ colB cA u1 ++ texB cA u2) := hD7
  refine va_putF (D := D) (tys := kTys cA) (ci := 8) (v := .ref (u2 0)) (ty := tyX8 1) (C := RX8) (T := TX8) (N := 10) hx hb hts win8 tyX8 tyX8_ok nmX8 hown hW.1 hP hD hS 0 rfl rfl 1 (by decide) (hts _ wk225) (fun _ h9 => h9) rfl hin rfl (tyX8_ok 1 (by decide)) rfl rfl (Nat.le_of_ble_eq_true rfl) dX8_init_23 (fun H locs hP hD hS => ?_)
  have hP : va_P D vwCl ([(h0, .inr (8, [.ref (u1 0), .ref (u2 0), .null, .null, .null, .null, .null, .null, .null, .null]))] ++ colB cA u1 ++ texB cA u2) H := hP
  have hD : va_D A ([(h0, .inr (8, [.ref (u1 0), .ref (u2 0), .null, .null, .null, .null, .null, .null, .null, .null]))] ++ colB cA u1 ++ texB cA u2) := hD
  refine lv_aload_n hx hb dX8_init_26 rfl (lv_at hl 0 rfl) ?_
  refine va_new (D := D) (tys := kTys cA) (ci := 4) (fs := [.null, .int 0]) (C := RX4) (T := TX4) (N := 2) hx hb hts win4 tyX4 tyX4_ok hown (hts _ wk154) (hts _ wk155) (hts _ wk6) hW.1 hP hD hS hA rfl (fun j hj => by rcases (show j = 0 ∨ j = 1 by omega) with rfl | rfl <;> rfl) (Nat.le_of_ble_eq_true rfl) (Nat.le_of_ble_eq_true rfl) dX8_init_27 (fun q3 H hP hD hS => ?_)
  have hP : va_P D vwCl ([(h0, .inr (8, [.ref (u1 0), .ref (u2 0), .null, .null, .null, .null, .null, .null, .null, .null]))] ++ colB cA u1 ++ texB cA u2 ++ [(q3, .inr (4, [.null, .int 0]))]) H := hP
  have hD : va_D A ([(h0, .inr (8, [.ref (u1 0), .ref (u2 0), .null, .null, .null, .null, .null, .null, .null, .null]))] ++ colB cA u1 ++ texB cA u2 ++ [(q3, .inr (4, [.null, .int 0]))]) := hD
  refine lv_dup hx hb dX8_init_30 rfl ?_
  refine kcallN (host := "CodedColumn") (rest := [.ref q3, .ref h0]) F (k_X4 l D cA) dX8_init_31 (by decide +kernel) wk157 wk6 wk158 rfl (n := 0) ⟨by decide, by decide, by decide +kernel⟩ ⟨Nat.le_of_ble_eq_true rfl, Nat.le_of_ble_eq_true rfl⟩ rfl rfl (Nat.le_of_ble_eq_true rfl) hl.1 ⟨Nat.le_of_ble_eq_true rfl, Nat.le_of_ble_eq_true rfl⟩ hW hP hD hS hA (fun u3 H locs hp hP7 hD7 hS => ?_)
  obtain rfl : u3 0 = q3 := hp
  have hP : va_P D vwCl ([(h0, .inr (8, [.ref (u1 0), .ref (u2 0), .null, .null, .null, .null, .null, .null, .null, .null]))] ++ colB cA u1 ++ texB cA u2 ++ wriB cA u3) H := hP7
  have hD : va_D A ([(h0, .inr (8, [.ref (u1 0), .ref (u2 0), .null, .null, .null, .null, .null, .null, .null, .null]))] ++ colB cA u1 ++ texB cA u2 ++ wriB cA u3) := hD7
  refine va_putF (D := D) (tys := kTys cA) (ci := 8) (v := .ref (u3 0)) (ty := tyX8 2) (C := RX8) (T := TX8) (N := 10) hx hb hts win8 tyX8 tyX8_ok nmX8 hown hW.1 hP hD hS 0 rfl rfl 2 (by decide) (hts _ wk226) (fun _ h9 => h9) rfl hin rfl (tyX8_ok 2 (by decide)) rfl rfl (Nat.le_of_ble_eq_true rfl) dX8_init_34 (fun H locs hP hD hS => ?_)
  have hP : va_P D vwCl ([(h0, .inr (8, [.ref (u1 0), .ref (u2 0), .ref (u3 0), .null, .null, .null, .null, .null, .null, .null]))] ++ colB cA u1 ++ texB cA u2 ++ wriB cA u3) H := hP
  have hD : va_D A ([(h0, .inr (8, [.ref (u1 0), .ref (u2 0), .ref (u3 0), .null, .null, .null, .null, .null, .null, .null]))] ++ colB cA u1 ++ texB cA u2 ++ wriB cA u3) := hD
  refine lv_aload_n hx hb dX8_init_37 rfl (lv_at hl 0 rfl) ?_
  refine va_new (D := D) (tys := kTys cA) (ci := 1) (fs := [.null, .int 0, .int 0]) (C := RX1) (T := TX1) (N := 3) hx hb hts win1 tyX1 tyX1_ok hown (hts _ wk171) (hts _ wk172) (hts _ wk7) hW.1 hP hD hS hA rfl (fun j hj => by rcases (show j = 0 ∨ j = 1 ∨ j = 2 by omega) with rfl | rfl | rfl <;> rfl) (Nat.le_of_ble_eq_true rfl) (Nat.le_of_ble_eq_true rfl) dX8_init_38 (fun q4 H hP hD hS => ?_)
  have hP : va_P D vwCl ([(h0, .inr (8, [.ref (u1 0), .ref (u2 0), .ref (u3 0), .null, .null, .null, .null, .null, .null, .null]))] ++ colB cA u1 ++ texB cA u2 ++ wriB cA u3 ++ [(q4, .inr (1, [.null, .int 0, .int 0]))]) H := hP
  have hD : va_D A ([(h0, .inr (8, [.ref (u1 0), .ref (u2 0), .ref (u3 0), .null, .null, .null, .null, .null, .null, .null]))] ++ colB cA u1 ++ texB cA u2 ++ wriB cA u3 ++ [(q4, .inr (1, [.null, .int 0, .int 0]))]) := hD
  refine lv_dup hx hb dX8_init_41 rfl ?_
  refine kcallN (host := "CodedColumn") (rest := [.ref q4, .ref h0]) F (k_X1 l D cA) dX8_init_42 (by decide +kernel) wk174 wk7 wk175 rfl (n := 0) ⟨by decide, by decide, by decide +kernel⟩ ⟨Nat.le_of_ble_eq_true rfl, Nat.le_of_ble_eq_true rfl⟩ rfl rfl (Nat.le_of_ble_eq_true rfl) hl.1 ⟨Nat.le_of_ble_eq_true rfl, Nat.le_of_ble_eq_true rfl⟩ hW hP hD hS hA (fun u4 H locs hp hP7 hD7 hS => ?_)
  obtain rfl : u4 0 = q4 := hp
  have hP : va_P D vwCl ([(h0, .inr (8, [.ref (u1 0), .ref (u2 0), .ref (u3 0), .null, .null, .null, .null, .null, .null, .null]))] ++ colB cA u1 ++ texB cA u2 ++ wriB cA u3 ++ hisB cA u4) H := hP7
  have hD : va_D A ([(h0, .inr (8, [.ref (u1 0), .ref (u2 0), .ref (u3 0), .null, .null, .null, .null, .null, .null, .null]))] ++ colB cA u1 ++ texB cA u2 ++ wriB cA u3 ++ hisB cA u4) := hD7
  refine va_putF (D := D) (tys := kTys cA) (ci := 8) (v := .ref (u4 0)) (ty := tyX8 3) (C := RX8) (T := TX8) (N := 10) hx hb hts win8 tyX8 tyX8_ok nmX8 hown hW.1 hP hD hS 0 rfl rfl 3 (by decide) (hts _ wk227) (fun _ h9 => h9) rfl hin rfl (tyX8_ok 3 (by decide)) rfl rfl (Nat.le_of_ble_eq_true rfl) dX8_init_45 (fun H locs hP hD hS => ?_)
  have hP : va_P D vwCl ([(h0, .inr (8, [.ref (u1 0), .ref (u2 0), .ref (u3 0), .ref (u4 0), .null, .null, .null, .null, .null, .null]))] ++ colB cA u1 ++ texB cA u2 ++ wriB cA u3 ++ hisB cA u4) H := hP
  have hD : va_D A ([(h0, .inr (8, [.ref (u1 0), .ref (u2 0), .ref (u3 0), .ref (u4 0), .null, .null, .null, .null, .null, .null]))] ++ colB cA u1 ++ texB cA u2 ++ wriB cA u3 ++ hisB cA u4) := hD
  refine lv_aload_n hx hb dX8_init_48 rfl (lv_at hl 0 rfl) ?_
  refine va_new (D := D) (tys := kTys cA) (ci := 7) (fs := [.null, .null]) (C := RX7) (T := TX7) (N := 2) hx hb hts win7 tyX7 tyX7_ok hown (hts _ wk206) (hts _ wk178) (hts _ wk8) hW.1 hP hD hS hA rfl (fun j hj => by rcases (show j = 0 ∨ j = 1 by omega) with rfl | rfl <;> rfl) (Nat.le_of_ble_eq_true rfl) (Nat.le_of_ble_eq_true rfl) dX8_init_49 (fun q5 H hP hD hS => ?_)
  have hP : va_P D vwCl ([(h0, .inr (8, [.ref (u1 0), .ref (u2 0), .ref (u3 0), .ref (u4 0), .null, .null, .null, .null, .null, .null]))] ++ colB cA u1 ++ texB cA u2 ++ wriB cA u3 ++ hisB cA u4 ++ [(q5, .inr (7, [.null, .null]))]) H := hP
  have hD : va_D A ([(h0, .inr (8, [.ref (u1 0), .ref (u2 0), .ref (u3 0), .ref (u4 0), .null, .null, .null, .null, .null, .null]))] ++ colB cA u1 ++ texB cA u2 ++ wriB cA u3 ++ hisB cA u4 ++ [(q5, .inr (7, [.null, .null]))]) := hD
  refine lv_dup hx hb dX8_init_52 rfl ?_
  refine lv_iconst (v := nI 2) hx hb dX8_init_53 (by decide) ?_
  refine kcallI (rest := [.ref q5, .ref h0]) F (k_X7 l D cA 2 (by omega) (by omega)) dX8_init_54 wk207 wk180 wk8 wk181 rfl (n := 1) ⟨by decide, by decide, by decide +kernel⟩ ⟨Nat.le_of_ble_eq_true rfl, Nat.le_of_ble_eq_true rfl⟩ rfl rfl (Nat.le_of_ble_eq_true rfl) hl.1 ⟨Nat.le_of_ble_eq_true rfl, Nat.le_of_ble_eq_true rfl⟩ hW hP hD hS hA (fun u5 H locs hp hP7 hD7 hS => ?_)
  obtain rfl : u5 0 = q5 := hp
  have hP : va_P D vwCl ([(h0, .inr (8, [.ref (u1 0), .ref (u2 0), .ref (u3 0), .ref (u4 0), .null, .null, .null, .null, .null, .null]))] ++ colB cA u1 ++ texB cA u2 ++ wriB cA u3 ++ hisB cA u4 ++ sheB cA 2 u5) H := hP7
  have hD : va_D A ([(h0, .inr (8, [.ref (u1 0), .ref (u2 0), .ref (u3 0), .ref (u4 0), .null, .null, .null, .null, .null, .null]))] ++ colB cA u1 ++ texB cA u2 ++ wriB cA u3 ++ hisB cA u4 ++ sheB cA 2 u5) := hD7
  refine va_putF (D := D) (tys := kTys cA) (ci := 8) (v := .ref (u5 0)) (ty := tyX8 4) (C := RX8) (T := TX8) (N := 10) hx hb hts win8 tyX8 tyX8_ok nmX8 hown hW.1 hP hD hS 0 rfl rfl 4 (by decide) (hts _ wk228) (fun _ h9 => h9) rfl hin rfl (tyX8_ok 4 (by decide)) rfl rfl (Nat.le_of_ble_eq_true rfl) dX8_init_57 (fun H locs hP hD hS => ?_)
  have hP : va_P D vwCl ([(h0, .inr (8, [.ref (u1 0), .ref (u2 0), .ref (u3 0), .ref (u4 0), .ref (u5 0), .null, .null, .null, .null, .null]))] ++ colB cA u1 ++ texB cA u2 ++ wriB cA u3 ++ hisB cA u4 ++ sheB cA 2 u5) H := hP
  have hD : va_D A ([(h0, .inr (8, [.ref (u1 0), .ref (u2 0), .ref (u3 0), .ref (u4 0), .ref (u5 0), .null, .null, .null, .null, .null]))] ++ colB cA u1 ++ texB cA u2 ++ wriB cA u3 ++ hisB cA u4 ++ sheB cA 2 u5) := hD
  refine lv_aload_n hx hb dX8_init_60 rfl (lv_at hl 0 rfl) ?_
  refine va_new (D := D) (tys := kTys cA) (ci := 0) (fs := [.null, .null, .null, .null, .int 0, .int 0, .int 0]) (C := RX0) (T := TX0) (N := 7) hx hb hts win0 tyX0 tyX0_ok hown (hts _ wk27) (hts _ wk28) (hts _ wk2) hW.1 hP hD hS hA rfl (fun j hj => by rcases (show j = 0 ∨ j = 1 ∨ j = 2 ∨ j = 3 ∨ j = 4 ∨ j = 5 ∨ j = 6 by omega) with rfl | rfl | rfl | rfl | rfl | rfl | rfl <;> rfl) (Nat.le_of_ble_eq_true rfl) (Nat.le_of_ble_eq_true rfl) dX8_init_61 (fun q6 H hP hD hS => ?_)
  have hP : va_P D vwCl ([(h0, .inr (8, [.ref (u1 0), .ref (u2 0), .ref (u3 0), .ref (u4 0), .ref (u5 0), .null, .null, .null, .null, .null]))] ++ colB cA u1 ++ texB cA u2 ++ wriB cA u3 ++ hisB cA u4 ++ sheB cA 2 u5 ++ [(q6, .inr (0, [.null, .null, .null, .null, .int 0, .int 0, .int 0]))]) H := hP
  have hD : va_D A ([(h0, .inr (8, [.ref (u1 0), .ref (u2 0), .ref (u3 0), .ref (u4 0), .ref (u5 0), .null, .null, .null, .null, .null]))] ++ colB cA u1 ++ texB cA u2 ++ wriB cA u3 ++ hisB cA u4 ++ sheB cA 2 u5 ++ [(q6, .inr (0, [.null, .null, .null, .null, .int 0, .int 0, .int 0]))]) := hD
  refine lv_dup hx hb dX8_init_64 rfl ?_
  refine kcallN (host := "CodedColumn") (rest := [.ref q6, .ref h0]) F (k_X0 l D cA) dX8_init_65 (by decide +kernel) wk30 wk2 wk31 rfl (n := 0) ⟨by decide, by decide, by decide +kernel⟩ ⟨Nat.le_of_ble_eq_true rfl, Nat.le_of_ble_eq_true rfl⟩ rfl rfl (Nat.le_of_ble_eq_true rfl) hl.1 ⟨Nat.le_of_ble_eq_true rfl, Nat.le_of_ble_eq_true rfl⟩ hW hP hD hS hA (fun u6 H locs hp hP7 hD7 hS => ?_)
  obtain rfl : u6 0 = q6 := hp
  have hP : va_P D vwCl ([(h0, .inr (8, [.ref (u1 0), .ref (u2 0), .ref (u3 0), .ref (u4 0), .ref (u5 0), .null, .null, .null, .null, .null]))] ++ colB cA u1 ++ texB cA u2 ++ wriB cA u3 ++ hisB cA u4 ++ sheB cA 2 u5 ++ colB cA u6) H := hP7
  have hD : va_D A ([(h0, .inr (8, [.ref (u1 0), .ref (u2 0), .ref (u3 0), .ref (u4 0), .ref (u5 0), .null, .null, .null, .null, .null]))] ++ colB cA u1 ++ texB cA u2 ++ wriB cA u3 ++ hisB cA u4 ++ sheB cA 2 u5 ++ colB cA u6) := hD7
  refine va_putF (D := D) (tys := kTys cA) (ci := 8) (v := .ref (u6 0)) (ty := tyX8 5) (C := RX8) (T := TX8) (N := 10) hx hb hts win8 tyX8 tyX8_ok nmX8 hown hW.1 hP hD hS 0 rfl rfl 5 (by decide) (hts _ wk229) (fun _ h9 => h9) rfl hin rfl (tyX8_ok 5 (by decide)) rfl rfl (Nat.le_of_ble_eq_true rfl) dX8_init_68 (fun H locs hP hD hS => ?_)
  have hP : va_P D vwCl ([(h0, .inr (8, [.ref (u1 0), .ref (u2 0), .ref (u3 0), .ref (u4 0), .ref (u5 0), .ref (u6 0), .null, .null, .null, .null]))] ++ colB cA u1 ++ texB cA u2 ++ wriB cA u3 ++ hisB cA u4 ++ sheB cA 2 u5 ++ colB cA u6) H := hP
  have hD : va_D A ([(h0, .inr (8, [.ref (u1 0), .ref (u2 0), .ref (u3 0), .ref (u4 0), .ref (u5 0), .ref (u6 0), .null, .null, .null, .null]))] ++ colB cA u1 ++ texB cA u2 ++ wriB cA u3 ++ hisB cA u4 ++ sheB cA 2 u5 ++ colB cA u6) := hD
  refine lv_aload_n hx hb dX8_init_71 rfl (lv_at hl 0 rfl) ?_
  refine va_new (D := D) (tys := kTys cA) (ci := 6) (fs := [.null]) (C := RX6) (T := TX6) (N := 1) hx hb hts win6 tyX6 tyX6_ok hown (hts _ wk208) (hts _ wk209) (hts _ wk9) hW.1 hP hD hS hA rfl (fun j hj => by rcases (show j = 0 by omega) with rfl <;> rfl) (Nat.le_of_ble_eq_true rfl) (Nat.le_of_ble_eq_true rfl) dX8_init_72 (fun q7 H hP hD hS => ?_)
  have hP : va_P D vwCl ([(h0, .inr (8, [.ref (u1 0), .ref (u2 0), .ref (u3 0), .ref (u4 0), .ref (u5 0), .ref (u6 0), .null, .null, .null, .null]))] ++ colB cA u1 ++ texB cA u2 ++ wriB cA u3 ++ hisB cA u4 ++ sheB cA 2 u5 ++ colB cA u6 ++ [(q7, .inr (6, [.null]))]) H := hP
  have hD : va_D A ([(h0, .inr (8, [.ref (u1 0), .ref (u2 0), .ref (u3 0), .ref (u4 0), .ref (u5 0), .ref (u6 0), .null, .null, .null, .null]))] ++ colB cA u1 ++ texB cA u2 ++ wriB cA u3 ++ hisB cA u4 ++ sheB cA 2 u5 ++ colB cA u6 ++ [(q7, .inr (6, [.null]))]) := hD
  refine lv_dup hx hb dX8_init_75 rfl ?_
  refine kcallN (host := "CodedColumn") (rest := [.ref q7, .ref h0]) F (k_X6 l D cA) dX8_init_76 (by decide +kernel) wk211 wk9 wk212 rfl (n := 0) ⟨by decide, by decide, by decide +kernel⟩ ⟨Nat.le_of_ble_eq_true rfl, Nat.le_of_ble_eq_true rfl⟩ rfl rfl (Nat.le_of_ble_eq_true rfl) hl.1 ⟨Nat.le_of_ble_eq_true rfl, Nat.le_of_ble_eq_true rfl⟩ hW hP hD hS hA (fun u7 H locs hp hP7 hD7 hS => ?_)
  obtain rfl : u7 0 = q7 := hp
  have hP : va_P D vwCl ([(h0, .inr (8, [.ref (u1 0), .ref (u2 0), .ref (u3 0), .ref (u4 0), .ref (u5 0), .ref (u6 0), .null, .null, .null, .null]))] ++ colB cA u1 ++ texB cA u2 ++ wriB cA u3 ++ hisB cA u4 ++ sheB cA 2 u5 ++ colB cA u6 ++ scrB cA u7) H := hP7
  have hD : va_D A ([(h0, .inr (8, [.ref (u1 0), .ref (u2 0), .ref (u3 0), .ref (u4 0), .ref (u5 0), .ref (u6 0), .null, .null, .null, .null]))] ++ colB cA u1 ++ texB cA u2 ++ wriB cA u3 ++ hisB cA u4 ++ sheB cA 2 u5 ++ colB cA u6 ++ scrB cA u7) := hD7
  refine va_putF (D := D) (tys := kTys cA) (ci := 8) (v := .ref (u7 0)) (ty := tyX8 6) (C := RX8) (T := TX8) (N := 10) hx hb hts win8 tyX8 tyX8_ok nmX8 hown hW.1 hP hD hS 0 rfl rfl 6 (by decide) (hts _ wk230) (fun _ h9 => h9) rfl hin rfl (tyX8_ok 6 (by decide)) rfl rfl (Nat.le_of_ble_eq_true rfl) dX8_init_79 (fun H locs hP hD hS => ?_)
  have hP : va_P D vwCl ([(h0, .inr (8, [.ref (u1 0), .ref (u2 0), .ref (u3 0), .ref (u4 0), .ref (u5 0), .ref (u6 0), .ref (u7 0), .null, .null, .null]))] ++ colB cA u1 ++ texB cA u2 ++ wriB cA u3 ++ hisB cA u4 ++ sheB cA 2 u5 ++ colB cA u6 ++ scrB cA u7) H := hP
  have hD : va_D A ([(h0, .inr (8, [.ref (u1 0), .ref (u2 0), .ref (u3 0), .ref (u4 0), .ref (u5 0), .ref (u6 0), .ref (u7 0), .null, .null, .null]))] ++ colB cA u1 ++ texB cA u2 ++ wriB cA u3 ++ hisB cA u4 ++ sheB cA 2 u5 ++ colB cA u6 ++ scrB cA u7) := hD
  refine lv_aload_n hx hb dX8_init_82 rfl (lv_at hl 0 rfl) ?_
  refine va_new (D := D) (tys := kTys cA) (ci := 2) (fs := [.null, .int 0, .int 0, .int 0, .int 0, .int 0, .int 0, .int 0, .int 0, .int 0]) (C := RX2) (T := TX2) (N := 10) hx hb hts win2 tyX2 tyX2_ok hown (hts _ wk220) (hts _ wk45) (hts _ wk4) hW.1 hP hD hS hA rfl (fun j hj => by rcases (show j = 0 ∨ j = 1 ∨ j = 2 ∨ j = 3 ∨ j = 4 ∨ j = 5 ∨ j = 6 ∨ j = 7 ∨ j = 8 ∨ j = 9 by omega) with rfl | rfl | rfl | rfl | rfl | rfl | rfl | rfl | rfl | rfl <;> rfl) (Nat.le_of_ble_eq_true rfl) (Nat.le_of_ble_eq_true rfl) dX8_init_83 (fun q8 H hP hD hS => ?_)
  have hP : va_P D vwCl ([(h0, .inr (8, [.ref (u1 0), .ref (u2 0), .ref (u3 0), .ref (u4 0), .ref (u5 0), .ref (u6 0), .ref (u7 0), .null, .null, .null]))] ++ colB cA u1 ++ texB cA u2 ++ wriB cA u3 ++ hisB cA u4 ++ sheB cA 2 u5 ++ colB cA u6 ++ scrB cA u7 ++ [(q8, .inr (2, [.null, .int 0, .int 0, .int 0, .int 0, .int 0, .int 0, .int 0, .int 0, .int 0]))]) H := hP
  have hD : va_D A ([(h0, .inr (8, [.ref (u1 0), .ref (u2 0), .ref (u3 0), .ref (u4 0), .ref (u5 0), .ref (u6 0), .ref (u7 0), .null, .null, .null]))] ++ colB cA u1 ++ texB cA u2 ++ wriB cA u3 ++ hisB cA u4 ++ sheB cA 2 u5 ++ colB cA u6 ++ scrB cA u7 ++ [(q8, .inr (2, [.null, .int 0, .int 0, .int 0, .int 0, .int 0, .int 0, .int 0, .int 0, .int 0]))]) := hD
  refine lv_dup hx hb dX8_init_86 rfl ?_
  refine kcallN (host := "CodedColumn") (rest := [.ref q8, .ref h0]) F (k_X2 l D cA) dX8_init_87 (by decide +kernel) wk47 wk4 wk48 rfl (n := 0) ⟨by decide, by decide, by decide +kernel⟩ ⟨Nat.le_of_ble_eq_true rfl, Nat.le_of_ble_eq_true rfl⟩ rfl rfl (Nat.le_of_ble_eq_true rfl) hl.1 ⟨Nat.le_of_ble_eq_true rfl, Nat.le_of_ble_eq_true rfl⟩ hW hP hD hS hA (fun u8 H locs hp hP7 hD7 hS => ?_)
  obtain rfl : u8 0 = q8 := hp
  have hP : va_P D vwCl ([(h0, .inr (8, [.ref (u1 0), .ref (u2 0), .ref (u3 0), .ref (u4 0), .ref (u5 0), .ref (u6 0), .ref (u7 0), .null, .null, .null]))] ++ colB cA u1 ++ texB cA u2 ++ wriB cA u3 ++ hisB cA u4 ++ sheB cA 2 u5 ++ colB cA u6 ++ scrB cA u7 ++ mesB cA u8) H := hP7
  have hD : va_D A ([(h0, .inr (8, [.ref (u1 0), .ref (u2 0), .ref (u3 0), .ref (u4 0), .ref (u5 0), .ref (u6 0), .ref (u7 0), .null, .null, .null]))] ++ colB cA u1 ++ texB cA u2 ++ wriB cA u3 ++ hisB cA u4 ++ sheB cA 2 u5 ++ colB cA u6 ++ scrB cA u7 ++ mesB cA u8) := hD7
  refine va_putF (D := D) (tys := kTys cA) (ci := 8) (v := .ref (u8 0)) (ty := tyX8 7) (C := RX8) (T := TX8) (N := 10) hx hb hts win8 tyX8 tyX8_ok nmX8 hown hW.1 hP hD hS 0 rfl rfl 7 (by decide) (hts _ wk231) (fun _ h9 => h9) rfl hin rfl (tyX8_ok 7 (by decide)) rfl rfl (Nat.le_of_ble_eq_true rfl) dX8_init_90 (fun H locs hP hD hS => ?_)
  have hP : va_P D vwCl ([(h0, .inr (8, [.ref (u1 0), .ref (u2 0), .ref (u3 0), .ref (u4 0), .ref (u5 0), .ref (u6 0), .ref (u7 0), .ref (u8 0), .null, .null]))] ++ colB cA u1 ++ texB cA u2 ++ wriB cA u3 ++ hisB cA u4 ++ sheB cA 2 u5 ++ colB cA u6 ++ scrB cA u7 ++ mesB cA u8) H := hP
  have hD : va_D A ([(h0, .inr (8, [.ref (u1 0), .ref (u2 0), .ref (u3 0), .ref (u4 0), .ref (u5 0), .ref (u6 0), .ref (u7 0), .ref (u8 0), .null, .null]))] ++ colB cA u1 ++ texB cA u2 ++ wriB cA u3 ++ hisB cA u4 ++ sheB cA 2 u5 ++ colB cA u6 ++ scrB cA u7 ++ mesB cA u8) := hD
  refine lv_aload_n hx hb dX8_init_93 rfl (lv_at hl 0 rfl) ?_
  refine va_new (D := D) (tys := kTys cA) (ci := 5) (fs := [.null]) (C := RX5) (T := TX5) (N := 1) hx hb hts win5 tyX5 tyX5_ok hown (hts _ wk222) (hts _ wk34) (hts _ wk3) hW.1 hP hD hS hA rfl (fun j hj => by rcases (show j = 0 by omega) with rfl <;> rfl) (Nat.le_of_ble_eq_true rfl) (Nat.le_of_ble_eq_true rfl) dX8_init_94 (fun q9 H hP hD hS => ?_)
  have hP : va_P D vwCl ([(h0, .inr (8, [.ref (u1 0), .ref (u2 0), .ref (u3 0), .ref (u4 0), .ref (u5 0), .ref (u6 0), .ref (u7 0), .ref (u8 0), .null, .null]))] ++ colB cA u1 ++ texB cA u2 ++ wriB cA u3 ++ hisB cA u4 ++ sheB cA 2 u5 ++ colB cA u6 ++ scrB cA u7 ++ mesB cA u8 ++ [(q9, .inr (5, [.null]))]) H := hP
  have hD : va_D A ([(h0, .inr (8, [.ref (u1 0), .ref (u2 0), .ref (u3 0), .ref (u4 0), .ref (u5 0), .ref (u6 0), .ref (u7 0), .ref (u8 0), .null, .null]))] ++ colB cA u1 ++ texB cA u2 ++ wriB cA u3 ++ hisB cA u4 ++ sheB cA 2 u5 ++ colB cA u6 ++ scrB cA u7 ++ mesB cA u8 ++ [(q9, .inr (5, [.null]))]) := hD
  refine lv_dup hx hb dX8_init_97 rfl ?_
  refine lv_bipush (v := nI 121) hx hb dX8_init_98 (by decide) ?_
  refine kcallI (rest := [.ref q9, .ref h0]) F (k_X5 l D cA 121 (by omega) (by omega)) dX8_init_100 wk223 wk36 wk3 wk37 rfl (n := 1) ⟨by decide, by decide, by decide +kernel⟩ ⟨Nat.le_of_ble_eq_true rfl, Nat.le_of_ble_eq_true rfl⟩ rfl rfl (Nat.le_of_ble_eq_true rfl) hl.1 ⟨Nat.le_of_ble_eq_true rfl, Nat.le_of_ble_eq_true rfl⟩ hW hP hD hS hA (fun u9 H locs hp hP7 hD7 hS => ?_)
  obtain rfl : u9 0 = q9 := hp
  have hP : va_P D vwCl ([(h0, .inr (8, [.ref (u1 0), .ref (u2 0), .ref (u3 0), .ref (u4 0), .ref (u5 0), .ref (u6 0), .ref (u7 0), .ref (u8 0), .null, .null]))] ++ colB cA u1 ++ texB cA u2 ++ wriB cA u3 ++ hisB cA u4 ++ sheB cA 2 u5 ++ colB cA u6 ++ scrB cA u7 ++ mesB cA u8 ++ rowB cA 121 u9) H := hP7
  have hD : va_D A ([(h0, .inr (8, [.ref (u1 0), .ref (u2 0), .ref (u3 0), .ref (u4 0), .ref (u5 0), .ref (u6 0), .ref (u7 0), .ref (u8 0), .null, .null]))] ++ colB cA u1 ++ texB cA u2 ++ wriB cA u3 ++ hisB cA u4 ++ sheB cA 2 u5 ++ colB cA u6 ++ scrB cA u7 ++ mesB cA u8 ++ rowB cA 121 u9) := hD7
  refine va_putF (D := D) (tys := kTys cA) (ci := 8) (v := .ref (u9 0)) (ty := tyX8 8) (C := RX8) (T := TX8) (N := 10) hx hb hts win8 tyX8 tyX8_ok nmX8 hown hW.1 hP hD hS 0 rfl rfl 8 (by decide) (hts _ wk232) (fun _ h9 => h9) rfl hin rfl (tyX8_ok 8 (by decide)) rfl rfl (Nat.le_of_ble_eq_true rfl) dX8_init_103 (fun H locs hP hD hS => ?_)
  have hP : va_P D vwCl ([(h0, .inr (8, [.ref (u1 0), .ref (u2 0), .ref (u3 0), .ref (u4 0), .ref (u5 0), .ref (u6 0), .ref (u7 0), .ref (u8 0), .ref (u9 0), .null]))] ++ colB cA u1 ++ texB cA u2 ++ wriB cA u3 ++ hisB cA u4 ++ sheB cA 2 u5 ++ colB cA u6 ++ scrB cA u7 ++ mesB cA u8 ++ rowB cA 121 u9) H := hP
  have hD : va_D A ([(h0, .inr (8, [.ref (u1 0), .ref (u2 0), .ref (u3 0), .ref (u4 0), .ref (u5 0), .ref (u6 0), .ref (u7 0), .ref (u8 0), .ref (u9 0), .null]))] ++ colB cA u1 ++ texB cA u2 ++ wriB cA u3 ++ hisB cA u4 ++ sheB cA 2 u5 ++ colB cA u6 ++ scrB cA u7 ++ mesB cA u8 ++ rowB cA 121 u9) := hD
  refine lv_aload_n hx hb dX8_init_106 rfl (lv_at hl 0 rfl) ?_
  refine va_new (D := D) (tys := kTys cA) (ci := 5) (fs := [.null]) (C := RX5) (T := TX5) (N := 1) hx hb hts win5 tyX5 tyX5_ok hown (hts _ wk222) (hts _ wk34) (hts _ wk3) hW.1 hP hD hS hA rfl (fun j hj => by rcases (show j = 0 by omega) with rfl <;> rfl) (Nat.le_of_ble_eq_true rfl) (Nat.le_of_ble_eq_true rfl) dX8_init_107 (fun q10 H hP hD hS => ?_)
  have hP : va_P D vwCl ([(h0, .inr (8, [.ref (u1 0), .ref (u2 0), .ref (u3 0), .ref (u4 0), .ref (u5 0), .ref (u6 0), .ref (u7 0), .ref (u8 0), .ref (u9 0), .null]))] ++ colB cA u1 ++ texB cA u2 ++ wriB cA u3 ++ hisB cA u4 ++ sheB cA 2 u5 ++ colB cA u6 ++ scrB cA u7 ++ mesB cA u8 ++ rowB cA 121 u9 ++ [(q10, .inr (5, [.null]))]) H := hP
  have hD : va_D A ([(h0, .inr (8, [.ref (u1 0), .ref (u2 0), .ref (u3 0), .ref (u4 0), .ref (u5 0), .ref (u6 0), .ref (u7 0), .ref (u8 0), .ref (u9 0), .null]))] ++ colB cA u1 ++ texB cA u2 ++ wriB cA u3 ++ hisB cA u4 ++ sheB cA 2 u5 ++ colB cA u6 ++ scrB cA u7 ++ mesB cA u8 ++ rowB cA 121 u9 ++ [(q10, .inr (5, [.null]))]) := hD
  refine lv_dup hx hb dX8_init_110 rfl ?_
  refine lv_iconst (v := nI 3) hx hb dX8_init_111 (by decide) ?_
  refine kcallI (rest := [.ref q10, .ref h0]) F (k_X5 l D cA 3 (by omega) (by omega)) dX8_init_112 wk223 wk36 wk3 wk37 rfl (n := 1) ⟨by decide, by decide, by decide +kernel⟩ ⟨Nat.le_of_ble_eq_true rfl, Nat.le_of_ble_eq_true rfl⟩ rfl rfl (Nat.le_of_ble_eq_true rfl) hl.1 ⟨Nat.le_of_ble_eq_true rfl, Nat.le_of_ble_eq_true rfl⟩ hW hP hD hS hA (fun u10 H locs hp hP7 hD7 hS => ?_)
  obtain rfl : u10 0 = q10 := hp
  have hP : va_P D vwCl ([(h0, .inr (8, [.ref (u1 0), .ref (u2 0), .ref (u3 0), .ref (u4 0), .ref (u5 0), .ref (u6 0), .ref (u7 0), .ref (u8 0), .ref (u9 0), .null]))] ++ colB cA u1 ++ texB cA u2 ++ wriB cA u3 ++ hisB cA u4 ++ sheB cA 2 u5 ++ colB cA u6 ++ scrB cA u7 ++ mesB cA u8 ++ rowB cA 121 u9 ++ rowB cA 3 u10) H := hP7
  have hD : va_D A ([(h0, .inr (8, [.ref (u1 0), .ref (u2 0), .ref (u3 0), .ref (u4 0), .ref (u5 0), .ref (u6 0), .ref (u7 0), .ref (u8 0), .ref (u9 0), .null]))] ++ colB cA u1 ++ texB cA u2 ++ wriB cA u3 ++ hisB cA u4 ++ sheB cA 2 u5 ++ colB cA u6 ++ scrB cA u7 ++ mesB cA u8 ++ rowB cA 121 u9 ++ rowB cA 3 u10) := hD7
  refine va_putF (D := D) (tys := kTys cA) (ci := 8) (v := .ref (u10 0)) (ty := tyX8 9) (C := RX8) (T := TX8) (N := 10) hx hb hts win8 tyX8 tyX8_ok nmX8 hown hW.1 hP hD hS 0 rfl rfl 9 (by decide) (hts _ wk233) (fun _ h9 => h9) rfl hin rfl (tyX8_ok 9 (by decide)) rfl rfl (Nat.le_of_ble_eq_true rfl) dX8_init_115 (fun H locs hP hD hS => ?_)
  have hP : va_P D vwCl ([(h0, .inr (8, [.ref (u1 0), .ref (u2 0), .ref (u3 0), .ref (u4 0), .ref (u5 0), .ref (u6 0), .ref (u7 0), .ref (u8 0), .ref (u9 0), .ref (u10 0)]))] ++ colB cA u1 ++ texB cA u2 ++ wriB cA u3 ++ hisB cA u4 ++ sheB cA 2 u5 ++ colB cA u6 ++ scrB cA u7 ++ mesB cA u8 ++ rowB cA 121 u9 ++ rowB cA 3 u10) H := hP
  have hD : va_D A ([(h0, .inr (8, [.ref (u1 0), .ref (u2 0), .ref (u3 0), .ref (u4 0), .ref (u5 0), .ref (u6 0), .ref (u7 0), .ref (u8 0), .ref (u9 0), .ref (u10 0)]))] ++ colB cA u1 ++ texB cA u2 ++ wriB cA u3 ++ hisB cA u4 ++ sheB cA 2 u5 ++ colB cA u6 ++ scrB cA u7 ++ mesB cA u8 ++ rowB cA 121 u9 ++ rowB cA 3 u10) := hD
  refine W.widen (k := 197) (n := 3834) (by first | omega | exact Nat.le_of_ble_eq_true rfl) (by first | omega | exact Nat.le_of_ble_eq_true rfl) ?_
  obtain ⟨Γ, hΓ⟩ : ∃ Γ : Nat → Nat → Nat, Γ = fun i => match i with | 0 => fun _ => h0 | 1 => u1 | 2 => u2 | 3 => u3 | 4 => u4 | 5 => u5 | 6 => u6 | 7 => u7 | 8 => u8 | 9 => u9 | _ => u10 := ⟨_, rfl⟩
  have hP9 : va_P D vwCl (ccB cA Γ) H := by rw [hΓ]; exact hP
  have hD9 : va_D A (ccB cA Γ) := by rw [hΓ]; exact hD
  exact W.vret hx hb hr (fun t ht hW => ⟨⟨Γ, rfl, (by show Γ 0 0 = h0; rw [hΓ] <;> rfl), by rw [ht]; exact hP9, hD9⟩, hS.F ht⟩) hS.2.2 dX8_init_118
set_option maxHeartbeats 4000000 in
set_option maxRecDepth 100000 in
/-- CodedColumnModel() -/
theorem k_X9 (l : Launch) (D : va_G) (cA : Nat → ClassId) : kMet l D cA yX9_init cX9_init 1 [] 9 [.int 0, .null, .int 0, .int 0, .null, .null, .null, .null, .int 0, .null, .null, .null, .int 0, .null, .null, .int 0, .null] 11 3205 1 12 kN (fun _ => modB cA) := by
  intro h0 sz
  unfold kQc
  refine Met.ofW (cc := cX9_init) (maxL := 1) (ret := none) (by decide) rfl ?_
  intro p e s m args below meth c s₁ B hml hv
  obtain ⟨rfl, hsz, hP, hW⟩ := hv
  have hts0 := atoms_spec (ws := Cond.code yX9_init cX9_init 1 none :: wsAll) B.pre
  have hts := fun w (hw : w ∈ wsAll) => hts0 w (List.mem_cons_of_mem _ hw)
  have hx := B.exec
  have hb := B.bytes
  have hr := B.returns
  have hown : s.vm.findClass RX9 = some m.cls := findClass_of_methodNamed B.named
  have hin : meth.name = "<init>" := (name_of_methodNamed B.named B.method).1
  subst hsz
  have hD : va_D (va_A [(h0, .inr (9, [.int 0, .null, .int 0, .int 0, .null, .null, .null, .null, .int 0, .null, .null, .null, .int 0, .null, .null, .int 0, .null]))] s.heap.size) [(h0, .inr (9, [.int 0, .null, .int 0, .int 0, .null, .null, .null, .null, .int 0, .null, .null, .null, .int 0, .null, .null, .int 0, .null]))] := va_D_one (va_A.in (k := 0) rfl)
  generalize hAe : va_A [(h0, .inr (9, [.int 0, .null, .int 0, .int 0, .null, .null, .null, .null, .int 0, .null, .null, .null, .int 0, .null, .null, .int 0, .null]))] s.heap.size = A at hD ⊢
  have hA : ∀ q : Nat, s.heap.size ≤ q → A q := fun q h => by rw [← hAe]; exact Or.inr h
  have hS : va_S A s.heap s.heap [] := va_S.rf
  have hl := lv_entry ([.ref h0]) (n := 1) (Nat.le_of_ble_eq_true rfl)
  rw [lg_entry_eq]
  generalize (lg_sl ([.ref h0]) ++ List.replicate (1 - (lg_sl ([.ref h0])).length) Slot.unset).toArray = ls at hl ⊢
  have hl : lv_has ls 1 [(0, .ref h0)] := hl
  have F : CallFix p m c cX9_init 1 s _ wsAll RX9 := ⟨hx, hb, hml, hown, hts⟩
  refine lv_aload_n hx hb dX9_init_0 rfl (lv_at hl 0 rfl) ?_
  refine W.objInit hx hb hown (hts _ wk1016) (hts _ wk25) (hts _ wk26) rfl (by rw [hml]; exact hl.1) rfl dX9_init_1 (Nat.le_of_ble_eq_true rfl) (Nat.le_of_ble_eq_true rfl) ?_
  refine W.eq (g2 := F0 m 4 ls []) rfl ?_
  refine lv_aload_n hx hb dX9_init_4 rfl (lv_at hl 0 rfl) ?_
  refine lv_sipush (v := nI 160) hx hb dX9_init_5 (by decide) ?_
  refine knewI (n := 160) (D := D) (cA := cA) hx hb hts wk43 hW hP hD hS hA (by omega) (Nat.le_of_ble_eq_true rfl) (Nat.le_of_ble_eq_true rfl) dX9_init_8 (fun q1 H hP hD hS => ?_)
  have hP : va_P D vwCl ([(h0, .inr (9, [.int 0, .null, .int 0, .int 0, .null, .null, .null, .null, .int 0, .null, .null, .null, .int 0, .null, .null, .int 0, .null]))] ++ [(q1, .inl (cA 0, 160, .inl (fun _ => 0)))]) H := hP
  have hD : va_D A ([(h0, .inr (9, [.int 0, .null, .int 0, .int 0, .null, .null, .null, .null, .int 0, .null, .null, .null, .int 0, .null, .null, .int 0, .null]))] ++ [(q1, .inl (cA 0, 160, .inl (fun _ => 0)))]) := hD
  refine va_putF (D := D) (tys := kTys cA) (ci := 9) (v := .ref q1) (ty := tyX9 1) (C := RX9) (T := TX9) (N := 17) hx hb hts win9 tyX9 tyX9_ok nmX9 hown hW.1 hP hD hS 0 rfl rfl 1 (by decide) (hts _ wk1018) (fun _ h9 => h9) rfl hin rfl (tyX9_ok 1 (by decide)) rfl rfl (Nat.le_of_ble_eq_true rfl) dX9_init_10 (fun H locs hP hD hS => ?_)
  have hP : va_P D vwCl ([(h0, .inr (9, [.int 0, .ref q1, .int 0, .int 0, .null, .null, .null, .null, .int 0, .null, .null, .null, .int 0, .null, .null, .int 0, .null]))] ++ [(q1, .inl (cA 0, 160, .inl (fun _ => 0)))]) H := hP
  have hD : va_D A ([(h0, .inr (9, [.int 0, .ref q1, .int 0, .int 0, .null, .null, .null, .null, .int 0, .null, .null, .null, .int 0, .null, .null, .int 0, .null]))] ++ [(q1, .inl (cA 0, 160, .inl (fun _ => 0)))]) := hD
  refine lv_aload_n hx hb dX9_init_13 rfl (lv_at hl 0 rfl) ?_
  refine lv_sipush (v := nI 142) hx hb dX9_init_14 (by decide) ?_
  refine knewI (n := 142) (D := D) (cA := cA) hx hb hts wk43 hW hP hD hS hA (by omega) (Nat.le_of_ble_eq_true rfl) (Nat.le_of_ble_eq_true rfl) dX9_init_17 (fun q2 H hP hD hS => ?_)
  have hP : va_P D vwCl ([(h0, .inr (9, [.int 0, .ref q1, .int 0, .int 0, .null, .null, .null, .null, .int 0, .null, .null, .null, .int 0, .null, .null, .int 0, .null]))] ++ [(q1, .inl (cA 0, 160, .inl (fun _ => 0)))] ++ [(q2, .inl (cA 0, 142, .inl (fun _ => 0)))]) H := hP
  have hD : va_D A ([(h0, .inr (9, [.int 0, .ref q1, .int 0, .int 0, .null, .null, .null, .null, .int 0, .null, .null, .null, .int 0, .null, .null, .int 0, .null]))] ++ [(q1, .inl (cA 0, 160, .inl (fun _ => 0)))] ++ [(q2, .inl (cA 0, 142, .inl (fun _ => 0)))]) := hD
  refine va_putF (D := D) (tys := kTys cA) (ci := 9) (v := .ref q2) (ty := tyX9 4) (C := RX9) (T := TX9) (N := 17) hx hb hts win9 tyX9 tyX9_ok nmX9 hown hW.1 hP hD hS 0 rfl rfl 4 (by decide) (hts _ wk1021) (fun _ h9 => h9) rfl hin rfl (tyX9_ok 4 (by decide)) rfl rfl (Nat.le_of_ble_eq_true rfl) dX9_init_19 (fun H locs hP hD hS => ?_)
  have hP : va_P D vwCl ([(h0, .inr (9, [.int 0, .ref q1, .int 0, .int 0, .ref q2, .null, .null, .null, .int 0, .null, .null, .null, .int 0, .null, .null, .int 0, .null]))] ++ [(q1, .inl (cA 0, 160, .inl (fun _ => 0)))] ++ [(q2, .inl (cA 0, 142, .inl (fun _ => 0)))]) H := hP
  have hD : va_D A ([(h0, .inr (9, [.int 0, .ref q1, .int 0, .int 0, .ref q2, .null, .null, .null, .int 0, .null, .null, .null, .int 0, .null, .null, .int 0, .null]))] ++ [(q1, .inl (cA 0, 160, .inl (fun _ => 0)))] ++ [(q2, .inl (cA 0, 142, .inl (fun _ => 0)))]) := hD
  refine lv_aload_n hx hb dX9_init_22 rfl (lv_at hl 0 rfl) ?_
  refine lv_sipush (v := nI 142) hx hb dX9_init_23 (by decide) ?_
  refine knewI (n := 142) (D := D) (cA := cA) hx hb hts wk43 hW hP hD hS hA (by omega) (Nat.le_of_ble_eq_true rfl) (Nat.le_of_ble_eq_true rfl) dX9_init_26 (fun q3 H hP hD hS => ?_)
  have hP : va_P D vwCl ([(h0, .inr (9, [.int 0, .ref q1, .int 0, .int 0, .ref q2, .null, .null, .null, .int 0, .null, .null, .null, .int 0, .null, .null, .int 0, .null]))] ++ [(q1, .inl (cA 0, 160, .inl (fun _ => 0)))] ++ [(q2, .inl (cA 0, 142, .inl (fun _ => 0)))] ++ [(q3, .inl (cA 0, 142, .inl (fun _ => 0)))]) H := hP
  have hD : va_D A ([(h0, .inr (9, [.int 0, .ref q1, .int 0, .int 0, .ref q2, .null, .null, .null, .int 0, .null, .null, .null, .int 0, .null, .null, .int 0, .null]))] ++ [(q1, .inl (cA 0, 160, .inl (fun _ => 0)))] ++ [(q2, .inl (cA 0, 142, .inl (fun _ => 0)))] ++ [(q3, .inl (cA 0, 142, .inl (fun _ => 0)))]) := hD
  refine va_putF (D := D) (tys := kTys cA) (ci := 9) (v := .ref q3) (ty := tyX9 5) (C := RX9) (T := TX9) (N := 17) hx hb hts win9 tyX9 tyX9_ok nmX9 hown hW.1 hP hD hS 0 rfl rfl 5 (by decide) (hts _ wk1022) (fun _ h9 => h9) rfl hin rfl (tyX9_ok 5 (by decide)) rfl rfl (Nat.le_of_ble_eq_true rfl) dX9_init_28 (fun H locs hP hD hS => ?_)
  have hP : va_P D vwCl ([(h0, .inr (9, [.int 0, .ref q1, .int 0, .int 0, .ref q2, .ref q3, .null, .null, .int 0, .null, .null, .null, .int 0, .null, .null, .int 0, .null]))] ++ [(q1, .inl (cA 0, 160, .inl (fun _ => 0)))] ++ [(q2, .inl (cA 0, 142, .inl (fun _ => 0)))] ++ [(q3, .inl (cA 0, 142, .inl (fun _ => 0)))]) H := hP
  have hD : va_D A ([(h0, .inr (9, [.int 0, .ref q1, .int 0, .int 0, .ref q2, .ref q3, .null, .null, .int 0, .null, .null, .null, .int 0, .null, .null, .int 0, .null]))] ++ [(q1, .inl (cA 0, 160, .inl (fun _ => 0)))] ++ [(q2, .inl (cA 0, 142, .inl (fun _ => 0)))] ++ [(q3, .inl (cA 0, 142, .inl (fun _ => 0)))]) := hD
  refine lv_aload_n hx hb dX9_init_31 rfl (lv_at hl 0 rfl) ?_
  refine lv_sipush (v := nI 142) hx hb dX9_init_32 (by decide) ?_
  refine knewI (n := 142) (D := D) (cA := cA) hx hb hts wk43 hW hP hD hS hA (by omega) (Nat.le_of_ble_eq_true rfl) (Nat.le_of_ble_eq_true rfl) dX9_init_35 (fun q4 H hP hD hS => ?_)
  have hP : va_P D vwCl ([(h0, .inr (9, [.int 0, .ref q1, .int 0, .int 0, .ref q2, .ref q3, .null, .null, .int 0, .null, .null, .null, .int 0, .null, .null, .int 0, .null]))] ++ [(q1, .inl (cA 0, 160, .inl (fun _ => 0)))] ++ [(q2, .inl (cA 0, 142, .inl (fun _ => 0)))] ++ [(q3, .inl (cA 0, 142, .inl (fun _ => 0)))] ++ [(q4, .inl (cA 0, 142, .inl (fun _ => 0)))]) H := hP
  have hD : va_D A ([(h0, .inr (9, [.int 0, .ref q1, .int 0, .int 0, .ref q2, .ref q3, .null, .null, .int 0, .null, .null, .null, .int 0, .null, .null, .int 0, .null]))] ++ [(q1, .inl (cA 0, 160, .inl (fun _ => 0)))] ++ [(q2, .inl (cA 0, 142, .inl (fun _ => 0)))] ++ [(q3, .inl (cA 0, 142, .inl (fun _ => 0)))] ++ [(q4, .inl (cA 0, 142, .inl (fun _ => 0)))]) := hD
  refine va_putF (D := D) (tys := kTys cA) (ci := 9) (v := .ref q4) (ty := tyX9 6) (C := RX9) (T := TX9) (N := 17) hx hb hts win9 tyX9 tyX9_ok nmX9 hown hW.1 hP hD hS 0 rfl rfl 6 (by decide) (hts _ wk1023) (fun _ h9 => h9) rfl hin rfl (tyX9_ok 6 (by decide)) rfl rfl (Nat.le_of_ble_eq_true rfl) dX9_init_37 (fun H locs hP hD hS => ?_)
  have hP : va_P D vwCl ([(h0, .inr (9, [.int 0, .ref q1, .int 0, .int 0, .ref q2, .ref q3, .ref q4, .null, .int 0, .null, .null, .null, .int 0, .null, .null, .int 0, .null]))] ++ [(q1, .inl (cA 0, 160, .inl (fun _ => 0)))] ++ [(q2, .inl (cA 0, 142, .inl (fun _ => 0)))] ++ [(q3, .inl (cA 0, 142, .inl (fun _ => 0)))] ++ [(q4, .inl (cA 0, 142, .inl (fun _ => 0)))]) H := hP
  have hD : va_D A ([(h0, .inr (9, [.int 0, .ref q1, .int 0, .int 0, .ref q2, .ref q3, .ref q4, .null, .int 0, .null, .null, .null, .int 0, .null, .null, .int 0, .null]))] ++ [(q1, .inl (cA 0, 160, .inl (fun _ => 0)))] ++ [(q2, .inl (cA 0, 142, .inl (fun _ => 0)))] ++ [(q3, .inl (cA 0, 142, .inl (fun _ => 0)))] ++ [(q4, .inl (cA 0, 142, .inl (fun _ => 0)))]) := hD
  refine lv_aload_n hx hb dX9_init_40 rfl (lv_at hl 0 rfl) ?_
  refine lv_sipush (v := nI 1988) hx hb dX9_init_41 (by decide) ?_
  refine knewI (n := 1988) (D := D) (cA := cA) hx hb hts wk43 hW hP hD hS hA (by omega) (Nat.le_of_ble_eq_true rfl) (Nat.le_of_ble_eq_true rfl) dX9_init_44 (fun q5 H hP hD hS => ?_)
  have hP : va_P D vwCl ([(h0, .inr (9, [.int 0, .ref q1, .int 0, .int 0, .ref q2, .ref q3, .ref q4, .null, .int 0, .null, .null, .null, .int 0, .null, .null, .int 0, .null]))] ++ [(q1, .inl (cA 0, 160, .inl (fun _ => 0)))] ++ [(q2, .inl (cA 0, 142, .inl (fun _ => 0)))] ++ [(q3, .inl (cA 0, 142, .inl (fun _ => 0)))] ++ [(q4, .inl (cA 0, 142, .inl (fun _ => 0)))] ++ [(q5, .inl (cA 0, 1988, .inl (fun _ => 0)))]) H := hP
  have hD : va_D A ([(h0, .inr (9, [.int 0, .ref q1, .int 0, .int 0, .ref q2, .ref q3, .ref q4, .null, .int 0, .null, .null, .null, .int 0, .null, .null, .int 0, .null]))] ++ [(q1, .inl (cA 0, 160, .inl (fun _ => 0)))] ++ [(q2, .inl (cA 0, 142, .inl (fun _ => 0)))] ++ [(q3, .inl (cA 0, 142, .inl (fun _ => 0)))] ++ [(q4, .inl (cA 0, 142, .inl (fun _ => 0)))] ++ [(q5, .inl (cA 0, 1988, .inl (fun _ => 0)))]) := hD
  refine va_putF (D := D) (tys := kTys cA) (ci := 9) (v := .ref q5) (ty := tyX9 7) (C := RX9) (T := TX9) (N := 17) hx hb hts win9 tyX9 tyX9_ok nmX9 hown hW.1 hP hD hS 0 rfl rfl 7 (by decide) (hts _ wk1024) (fun _ h9 => h9) rfl hin rfl (tyX9_ok 7 (by decide)) rfl rfl (Nat.le_of_ble_eq_true rfl) dX9_init_46 (fun H locs hP hD hS => ?_)
  have hP : va_P D vwCl ([(h0, .inr (9, [.int 0, .ref q1, .int 0, .int 0, .ref q2, .ref q3, .ref q4, .ref q5, .int 0, .null, .null, .null, .int 0, .null, .null, .int 0, .null]))] ++ [(q1, .inl (cA 0, 160, .inl (fun _ => 0)))] ++ [(q2, .inl (cA 0, 142, .inl (fun _ => 0)))] ++ [(q3, .inl (cA 0, 142, .inl (fun _ => 0)))] ++ [(q4, .inl (cA 0, 142, .inl (fun _ => 0)))] ++ [(q5, .inl (cA 0, 1988, .inl (fun _ => 0)))]) H := hP
  have hD : va_D A ([(h0, .inr (9, [.int 0, .ref q1, .int 0, .int 0, .ref q2, .ref q3, .ref q4, .ref q5, .int 0, .null, .null, .null, .int 0, .null, .null, .int 0, .null]))] ++ [(q1, .inl (cA 0, 160, .inl (fun _ => 0)))] ++ [(q2, .inl (cA 0, 142, .inl (fun _ => 0)))] ++ [(q3, .inl (cA 0, 142, .inl (fun _ => 0)))] ++ [(q4, .inl (cA 0, 142, .inl (fun _ => 0)))] ++ [(q5, .inl (cA 0, 1988, .inl (fun _ => 0)))]) := hD
  refine lv_aload_n hx hb dX9_init_49 rfl (lv_at hl 0 rfl) ?_
  refine lv_sipush (v := nI 284) hx hb dX9_init_50 (by decide) ?_
  refine knewI (n := 284) (D := D) (cA := cA) hx hb hts wk43 hW hP hD hS hA (by omega) (Nat.le_of_ble_eq_true rfl) (Nat.le_of_ble_eq_true rfl) dX9_init_53 (fun q6 H hP hD hS => ?_)
  have hP : va_P D vwCl ([(h0, .inr (9, [.int 0, .ref q1, .int 0, .int 0, .ref q2, .ref q3, .ref q4, .ref q5, .int 0, .null, .null, .null, .int 0, .null, .null, .int 0, .null]))] ++ [(q1, .inl (cA 0, 160, .inl (fun _ => 0)))] ++ [(q2, .inl (cA 0, 142, .inl (fun _ => 0)))] ++ [(q3, .inl (cA 0, 142, .inl (fun _ => 0)))] ++ [(q4, .inl (cA 0, 142, .inl (fun _ => 0)))] ++ [(q5, .inl (cA 0, 1988, .inl (fun _ => 0)))] ++ [(q6, .inl (cA 0, 284, .inl (fun _ => 0)))]) H := hP
  have hD : va_D A ([(h0, .inr (9, [.int 0, .ref q1, .int 0, .int 0, .ref q2, .ref q3, .ref q4, .ref q5, .int 0, .null, .null, .null, .int 0, .null, .null, .int 0, .null]))] ++ [(q1, .inl (cA 0, 160, .inl (fun _ => 0)))] ++ [(q2, .inl (cA 0, 142, .inl (fun _ => 0)))] ++ [(q3, .inl (cA 0, 142, .inl (fun _ => 0)))] ++ [(q4, .inl (cA 0, 142, .inl (fun _ => 0)))] ++ [(q5, .inl (cA 0, 1988, .inl (fun _ => 0)))] ++ [(q6, .inl (cA 0, 284, .inl (fun _ => 0)))]) := hD
  refine va_putF (D := D) (tys := kTys cA) (ci := 9) (v := .ref q6) (ty := tyX9 9) (C := RX9) (T := TX9) (N := 17) hx hb hts win9 tyX9 tyX9_ok nmX9 hown hW.1 hP hD hS 0 rfl rfl 9 (by decide) (hts _ wk1026) (fun _ h9 => h9) rfl hin rfl (tyX9_ok 9 (by decide)) rfl rfl (Nat.le_of_ble_eq_true rfl) dX9_init_55 (fun H locs hP hD hS => ?_)
  have hP : va_P D vwCl ([(h0, .inr (9, [.int 0, .ref q1, .int 0, .int 0, .ref q2, .ref q3, .ref q4, .ref q5, .int 0, .ref q6, .null, .null, .int 0, .null, .null, .int 0, .null]))] ++ [(q1, .inl (cA 0, 160, .inl (fun _ => 0)))] ++ [(q2, .inl (cA 0, 142, .inl (fun _ => 0)))] ++ [(q3, .inl (cA 0, 142, .inl (fun _ => 0)))] ++ [(q4, .inl (cA 0, 142, .inl (fun _ => 0)))] ++ [(q5, .inl (cA 0, 1988, .inl (fun _ => 0)))] ++ [(q6, .inl (cA 0, 284, .inl (fun _ => 0)))]) H := hP
  have hD : va_D A ([(h0, .inr (9, [.int 0, .ref q1, .int 0, .int 0, .ref q2, .ref q3, .ref q4, .ref q5, .int 0, .ref q6, .null, .null, .int 0, .null, .null, .int 0, .null]))] ++ [(q1, .inl (cA 0, 160, .inl (fun _ => 0)))] ++ [(q2, .inl (cA 0, 142, .inl (fun _ => 0)))] ++ [(q3, .inl (cA 0, 142, .inl (fun _ => 0)))] ++ [(q4, .inl (cA 0, 142, .inl (fun _ => 0)))] ++ [(q5, .inl (cA 0, 1988, .inl (fun _ => 0)))] ++ [(q6, .inl (cA 0, 284, .inl (fun _ => 0)))]) := hD
  refine lv_aload_n hx hb dX9_init_58 rfl (lv_at hl 0 rfl) ?_
  refine lv_iconst (v := nI 2) hx hb dX9_init_59 (by decide) ?_
  refine knewZ (n := 2) (D := D) (cA := cA) hx hb hts wk1069 hW hP hD hS hA (by omega) (Nat.le_of_ble_eq_true rfl) (Nat.le_of_ble_eq_true rfl) dX9_init_60 (fun q7 H hP hD hS => ?_)
  have hP : va_P D vwCl ([(h0, .inr (9, [.int 0, .ref q1, .int 0, .int 0, .ref q2, .ref q3, .ref q4, .ref q5, .int 0, .ref q6, .null, .null, .int 0, .null, .null, .int 0, .null]))] ++ [(q1, .inl (cA 0, 160, .inl (fun _ => 0)))] ++ [(q2, .inl (cA 0, 142, .inl (fun _ => 0)))] ++ [(q3, .inl (cA 0, 142, .inl (fun _ => 0)))] ++ [(q4, .inl (cA 0, 142, .inl (fun _ => 0)))] ++ [(q5, .inl (cA 0, 1988, .inl (fun _ => 0)))] ++ [(q6, .inl (cA 0, 284, .inl (fun _ => 0)))] ++ [(q7, .inl (cA 1, 2, .inl (fun _ => 0)))]) H := hP
  have hD : va_D A ([(h0, .inr (9, [.int 0, .ref q1, .int 0, .int 0, .ref q2, .ref q3, .ref q4, .ref q5, .int 0, .ref q6, .null, .null, .int 0, .null, .null, .int 0, .null]))] ++ [(q1, .inl (cA 0, 160, .inl (fun _ => 0)))] ++ [(q2, .inl (cA 0, 142, .inl (fun _ => 0)))] ++ [(q3, .inl (cA 0, 142, .inl (fun _ => 0)))] ++ [(q4, .inl (cA 0, 142, .inl (fun _ => 0)))] ++ [(q5, .inl (cA 0, 1988, .inl (fun _ => 0)))] ++ [(q6, .inl (cA 0, 284, .inl (fun _ => 0)))] ++ [(q7, .inl (cA 1, 2, .inl (fun _ => 0)))]) := hD
  refine va_putF (D := D) (tys := kTys cA) (ci := 9) (v := .ref q7) (ty := tyX9 10) (C := RX9) (T := TX9) (N := 17) hx hb hts win9 tyX9 tyX9_ok nmX9 hown hW.1 hP hD hS 0 rfl rfl 10 (by decide) (hts _ wk1027) (fun _ h9 => h9) rfl hin rfl (tyX9_ok 10 (by decide)) rfl rfl (Nat.le_of_ble_eq_true rfl) dX9_init_62 (fun H locs hP hD hS => ?_)
  have hP : va_P D vwCl ([(h0, .inr (9, [.int 0, .ref q1, .int 0, .int 0, .ref q2, .ref q3, .ref q4, .ref q5, .int 0, .ref q6, .ref q7, .null, .int 0, .null, .null, .int 0, .null]))] ++ [(q1, .inl (cA 0, 160, .inl (fun _ => 0)))] ++ [(q2, .inl (cA 0, 142, .inl (fun _ => 0)))] ++ [(q3, .inl (cA 0, 142, .inl (fun _ => 0)))] ++ [(q4, .inl (cA 0, 142, .inl (fun _ => 0)))] ++ [(q5, .inl (cA 0, 1988, .inl (fun _ => 0)))] ++ [(q6, .inl (cA 0, 284, .inl (fun _ => 0)))] ++ [(q7, .inl (cA 1, 2, .inl (fun _ => 0)))]) H := hP
  have hD : va_D A ([(h0, .inr (9, [.int 0, .ref q1, .int 0, .int 0, .ref q2, .ref q3, .ref q4, .ref q5, .int 0, .ref q6, .ref q7, .null, .int 0, .null, .null, .int 0, .null]))] ++ [(q1, .inl (cA 0, 160, .inl (fun _ => 0)))] ++ [(q2, .inl (cA 0, 142, .inl (fun _ => 0)))] ++ [(q3, .inl (cA 0, 142, .inl (fun _ => 0)))] ++ [(q4, .inl (cA 0, 142, .inl (fun _ => 0)))] ++ [(q5, .inl (cA 0, 1988, .inl (fun _ => 0)))] ++ [(q6, .inl (cA 0, 284, .inl (fun _ => 0)))] ++ [(q7, .inl (cA 1, 2, .inl (fun _ => 0)))]) := hD
  refine lv_aload_n hx hb dX9_init_65 rfl (lv_at hl 0 rfl) ?_
  refine lv_sipush (v := nI 200) hx hb dX9_init_66 (by decide) ?_
  refine knewI (n := 200) (D := D) (cA := cA) hx hb hts wk43 hW hP hD hS hA (by omega) (Nat.le_of_ble_eq_true rfl) (Nat.le_of_ble_eq_true rfl) dX9_init_69 (fun q8 H hP hD hS => ?_)
  have hP : va_P D vwCl ([(h0, .inr (9, [.int 0, .ref q1, .int 0, .int 0, .ref q2, .ref q3, .ref q4, .ref q5, .int 0, .ref q6, .ref q7, .null, .int 0, .null, .null, .int 0, .null]))] ++ [(q1, .inl (cA 0, 160, .inl (fun _ => 0)))] ++ [(q2, .inl (cA 0, 142, .inl (fun _ => 0)))] ++ [(q3, .inl (cA 0, 142, .inl (fun _ => 0)))] ++ [(q4, .inl (cA 0, 142, .inl (fun _ => 0)))] ++ [(q5, .inl (cA 0, 1988, .inl (fun _ => 0)))] ++ [(q6, .inl (cA 0, 284, .inl (fun _ => 0)))] ++ [(q7, .inl (cA 1, 2, .inl (fun _ => 0)))] ++ [(q8, .inl (cA 0, 200, .inl (fun _ => 0)))]) H := hP
  have hD : va_D A ([(h0, .inr (9, [.int 0, .ref q1, .int 0, .int 0, .ref q2, .ref q3, .ref q4, .ref q5, .int 0, .ref q6, .ref q7, .null, .int 0, .null, .null, .int 0, .null]))] ++ [(q1, .inl (cA 0, 160, .inl (fun _ => 0)))] ++ [(q2, .inl (cA 0, 142, .inl (fun _ => 0)))] ++ [(q3, .inl (cA 0, 142, .inl (fun _ => 0)))] ++ [(q4, .inl (cA 0, 142, .inl (fun _ => 0)))] ++ [(q5, .inl (cA 0, 1988, .inl (fun _ => 0)))] ++ [(q6, .inl (cA 0, 284, .inl (fun _ => 0)))] ++ [(q7, .inl (cA 1, 2, .inl (fun _ => 0)))] ++ [(q8, .inl (cA 0, 200, .inl (fun _ => 0)))]) := hD
  refine va_putF (D := D) (tys := kTys cA) (ci := 9) (v := .ref q8) (ty := tyX9 11) (C := RX9) (T := TX9) (N := 17) hx hb hts win9 tyX9 tyX9_ok nmX9 hown hW.1 hP hD hS 0 rfl rfl 11 (by decide) (hts _ wk1028) (fun _ h9 => h9) rfl hin rfl (tyX9_ok 11 (by decide)) rfl rfl (Nat.le_of_ble_eq_true rfl) dX9_init_71 (fun H locs hP hD hS => ?_)
  have hP : va_P D vwCl ([(h0, .inr (9, [.int 0, .ref q1, .int 0, .int 0, .ref q2, .ref q3, .ref q4, .ref q5, .int 0, .ref q6, .ref q7, .ref q8, .int 0, .null, .null, .int 0, .null]))] ++ [(q1, .inl (cA 0, 160, .inl (fun _ => 0)))] ++ [(q2, .inl (cA 0, 142, .inl (fun _ => 0)))] ++ [(q3, .inl (cA 0, 142, .inl (fun _ => 0)))] ++ [(q4, .inl (cA 0, 142, .inl (fun _ => 0)))] ++ [(q5, .inl (cA 0, 1988, .inl (fun _ => 0)))] ++ [(q6, .inl (cA 0, 284, .inl (fun _ => 0)))] ++ [(q7, .inl (cA 1, 2, .inl (fun _ => 0)))] ++ [(q8, .inl (cA 0, 200, .inl (fun _ => 0)))]) H := hP
  have hD : va_D A ([(h0, .inr (9, [.int 0, .ref q1, .int 0, .int 0, .ref q2, .ref q3, .ref q4, .ref q5, .int 0, .ref q6, .ref q7, .ref q8, .int 0, .null, .null, .int 0, .null]))] ++ [(q1, .inl (cA 0, 160, .inl (fun _ => 0)))] ++ [(q2, .inl (cA 0, 142, .inl (fun _ => 0)))] ++ [(q3, .inl (cA 0, 142, .inl (fun _ => 0)))] ++ [(q4, .inl (cA 0, 142, .inl (fun _ => 0)))] ++ [(q5, .inl (cA 0, 1988, .inl (fun _ => 0)))] ++ [(q6, .inl (cA 0, 284, .inl (fun _ => 0)))] ++ [(q7, .inl (cA 1, 2, .inl (fun _ => 0)))] ++ [(q8, .inl (cA 0, 200, .inl (fun _ => 0)))]) := hD
  refine lv_aload_n hx hb dX9_init_74 rfl (lv_at hl 0 rfl) ?_
  refine lv_bipush (v := nI 12) hx hb dX9_init_75 (by decide) ?_
  refine knewI (n := 12) (D := D) (cA := cA) hx hb hts wk43 hW hP hD hS hA (by omega) (Nat.le_of_ble_eq_true rfl) (Nat.le_of_ble_eq_true rfl) dX9_init_77 (fun q9 H hP hD hS => ?_)
  have hP : va_P D vwCl ([(h0, .inr (9, [.int 0, .ref q1, .int 0, .int 0, .ref q2, .ref q3, .ref q4, .ref q5, .int 0, .ref q6, .ref q7, .ref q8, .int 0, .null, .null, .int 0, .null]))] ++ [(q1, .inl (cA 0, 160, .inl (fun _ => 0)))] ++ [(q2, .inl (cA 0, 142, .inl (fun _ => 0)))] ++ [(q3, .inl (cA 0, 142, .inl (fun _ => 0)))] ++ [(q4, .inl (cA 0, 142, .inl (fun _ => 0)))] ++ [(q5, .inl (cA 0, 1988, .inl (fun _ => 0)))] ++ [(q6, .inl (cA 0, 284, .inl (fun _ => 0)))] ++ [(q7, .inl (cA 1, 2, .inl (fun _ => 0)))] ++ [(q8, .inl (cA 0, 200, .inl (fun _ => 0)))] ++ [(q9, .inl (cA 0, 12, .inl (fun _ => 0)))]) H := hP
  have hD : va_D A ([(h0, .inr (9, [.int 0, .ref q1, .int 0, .int 0, .ref q2, .ref q3, .ref q4, .ref q5, .int 0, .ref q6, .ref q7, .ref q8, .int 0, .null, .null, .int 0, .null]))] ++ [(q1, .inl (cA 0, 160, .inl (fun _ => 0)))] ++ [(q2, .inl (cA 0, 142, .inl (fun _ => 0)))] ++ [(q3, .inl (cA 0, 142, .inl (fun _ => 0)))] ++ [(q4, .inl (cA 0, 142, .inl (fun _ => 0)))] ++ [(q5, .inl (cA 0, 1988, .inl (fun _ => 0)))] ++ [(q6, .inl (cA 0, 284, .inl (fun _ => 0)))] ++ [(q7, .inl (cA 1, 2, .inl (fun _ => 0)))] ++ [(q8, .inl (cA 0, 200, .inl (fun _ => 0)))] ++ [(q9, .inl (cA 0, 12, .inl (fun _ => 0)))]) := hD
  refine va_putF (D := D) (tys := kTys cA) (ci := 9) (v := .ref q9) (ty := tyX9 13) (C := RX9) (T := TX9) (N := 17) hx hb hts win9 tyX9 tyX9_ok nmX9 hown hW.1 hP hD hS 0 rfl rfl 13 (by decide) (hts _ wk1030) (fun _ h9 => h9) rfl hin rfl (tyX9_ok 13 (by decide)) rfl rfl (Nat.le_of_ble_eq_true rfl) dX9_init_79 (fun H locs hP hD hS => ?_)
  have hP : va_P D vwCl ([(h0, .inr (9, [.int 0, .ref q1, .int 0, .int 0, .ref q2, .ref q3, .ref q4, .ref q5, .int 0, .ref q6, .ref q7, .ref q8, .int 0, .ref q9, .null, .int 0, .null]))] ++ [(q1, .inl (cA 0, 160, .inl (fun _ => 0)))] ++ [(q2, .inl (cA 0, 142, .inl (fun _ => 0)))] ++ [(q3, .inl (cA 0, 142, .inl (fun _ => 0)))] ++ [(q4, .inl (cA 0, 142, .inl (fun _ => 0)))] ++ [(q5, .inl (cA 0, 1988, .inl (fun _ => 0)))] ++ [(q6, .inl (cA 0, 284, .inl (fun _ => 0)))] ++ [(q7, .inl (cA 1, 2, .inl (fun _ => 0)))] ++ [(q8, .inl (cA 0, 200, .inl (fun _ => 0)))] ++ [(q9, .inl (cA 0, 12, .inl (fun _ => 0)))]) H := hP
  have hD : va_D A ([(h0, .inr (9, [.int 0, .ref q1, .int 0, .int 0, .ref q2, .ref q3, .ref q4, .ref q5, .int 0, .ref q6, .ref q7, .ref q8, .int 0, .ref q9, .null, .int 0, .null]))] ++ [(q1, .inl (cA 0, 160, .inl (fun _ => 0)))] ++ [(q2, .inl (cA 0, 142, .inl (fun _ => 0)))] ++ [(q3, .inl (cA 0, 142, .inl (fun _ => 0)))] ++ [(q4, .inl (cA 0, 142, .inl (fun _ => 0)))] ++ [(q5, .inl (cA 0, 1988, .inl (fun _ => 0)))] ++ [(q6, .inl (cA 0, 284, .inl (fun _ => 0)))] ++ [(q7, .inl (cA 1, 2, .inl (fun _ => 0)))] ++ [(q8, .inl (cA 0, 200, .inl (fun _ => 0)))] ++ [(q9, .inl (cA 0, 12, .inl (fun _ => 0)))]) := hD
  refine lv_aload_n hx hb dX9_init_82 rfl (lv_at hl 0 rfl) ?_
  refine lv_bipush (v := nI 12) hx hb dX9_init_83 (by decide) ?_
  refine knewI (n := 12) (D := D) (cA := cA) hx hb hts wk43 hW hP hD hS hA (by omega) (Nat.le_of_ble_eq_true rfl) (Nat.le_of_ble_eq_true rfl) dX9_init_85 (fun q10 H hP hD hS => ?_)
  have hP : va_P D vwCl ([(h0, .inr (9, [.int 0, .ref q1, .int 0, .int 0, .ref q2, .ref q3, .ref q4, .ref q5, .int 0, .ref q6, .ref q7, .ref q8, .int 0, .ref q9, .null, .int 0, .null]))] ++ [(q1, .inl (cA 0, 160, .inl (fun _ => 0)))] ++ [(q2, .inl (cA 0, 142, .inl (fun _ => 0)))] ++ [(q3, .inl (cA 0, 142, .inl (fun _ => 0)))] ++ [(q4, .inl (cA 0, 142, .inl (fun _ => 0)))] ++ [(q5, .inl (cA 0, 1988, .inl (fun _ => 0)))] ++ [(q6, .inl (cA 0, 284, .inl (fun _ => 0)))] ++ [(q7, .inl (cA 1, 2, .inl (fun _ => 0)))] ++ [(q8, .inl (cA 0, 200, .inl (fun _ => 0)))] ++ [(q9, .inl (cA 0, 12, .inl (fun _ => 0)))] ++ [(q10, .inl (cA 0, 12, .inl (fun _ => 0)))]) H := hP
  have hD : va_D A ([(h0, .inr (9, [.int 0, .ref q1, .int 0, .int 0, .ref q2, .ref q3, .ref q4, .ref q5, .int 0, .ref q6, .ref q7, .ref q8, .int 0, .ref q9, .null, .int 0, .null]))] ++ [(q1, .inl (cA 0, 160, .inl (fun _ => 0)))] ++ [(q2, .inl (cA 0, 142, .inl (fun _ => 0)))] ++ [(q3, .inl (cA 0, 142, .inl (fun _ => 0)))] ++ [(q4, .inl (cA 0, 142, .inl (fun _ => 0)))] ++ [(q5, .inl (cA 0, 1988, .inl (fun _ => 0)))] ++ [(q6, .inl (cA 0, 284, .inl (fun _ => 0)))] ++ [(q7, .inl (cA 1, 2, .inl (fun _ => 0)))] ++ [(q8, .inl (cA 0, 200, .inl (fun _ => 0)))] ++ [(q9, .inl (cA 0, 12, .inl (fun _ => 0)))] ++ [(q10, .inl (cA 0, 12, .inl (fun _ => 0)))]) := hD
  refine va_putF (D := D) (tys := kTys cA) (ci := 9) (v := .ref q10) (ty := tyX9 14) (C := RX9) (T := TX9) (N := 17) hx hb hts win9 tyX9 tyX9_ok nmX9 hown hW.1 hP hD hS 0 rfl rfl 14 (by decide) (hts _ wk1031) (fun _ h9 => h9) rfl hin rfl (tyX9_ok 14 (by decide)) rfl rfl (Nat.le_of_ble_eq_true rfl) dX9_init_87 (fun H locs hP hD hS => ?_)
  have hP : va_P D vwCl ([(h0, .inr (9, [.int 0, .ref q1, .int 0, .int 0, .ref q2, .ref q3, .ref q4, .ref q5, .int 0, .ref q6, .ref q7, .ref q8, .int 0, .ref q9, .ref q10, .int 0, .null]))] ++ [(q1, .inl (cA 0, 160, .inl (fun _ => 0)))] ++ [(q2, .inl (cA 0, 142, .inl (fun _ => 0)))] ++ [(q3, .inl (cA 0, 142, .inl (fun _ => 0)))] ++ [(q4, .inl (cA 0, 142, .inl (fun _ => 0)))] ++ [(q5, .inl (cA 0, 1988, .inl (fun _ => 0)))] ++ [(q6, .inl (cA 0, 284, .inl (fun _ => 0)))] ++ [(q7, .inl (cA 1, 2, .inl (fun _ => 0)))] ++ [(q8, .inl (cA 0, 200, .inl (fun _ => 0)))] ++ [(q9, .inl (cA 0, 12, .inl (fun _ => 0)))] ++ [(q10, .inl (cA 0, 12, .inl (fun _ => 0)))]) H := hP
  have hD : va_D A ([(h0, .inr (9, [.int 0, .ref q1, .int 0, .int 0, .ref q2, .ref q3, .ref q4, .ref q5, .int 0, .ref q6, .ref q7, .ref q8, .int 0, .ref q9, .ref q10, .int 0, .null]))] ++ [(q1, .inl (cA 0, 160, .inl (fun _ => 0)))] ++ [(q2, .inl (cA 0, 142, .inl (fun _ => 0)))] ++ [(q3, .inl (cA 0, 142, .inl (fun _ => 0)))] ++ [(q4, .inl (cA 0, 142, .inl (fun _ => 0)))] ++ [(q5, .inl (cA 0, 1988, .inl (fun _ => 0)))] ++ [(q6, .inl (cA 0, 284, .inl (fun _ => 0)))] ++ [(q7, .inl (cA 1, 2, .inl (fun _ => 0)))] ++ [(q8, .inl (cA 0, 200, .inl (fun _ => 0)))] ++ [(q9, .inl (cA 0, 12, .inl (fun _ => 0)))] ++ [(q10, .inl (cA 0, 12, .inl (fun _ => 0)))]) := hD
  refine lv_aload_n hx hb dX9_init_90 rfl (lv_at hl 0 rfl) ?_
  refine lv_bipush (v := nI 121) hx hb dX9_init_91 (by decide) ?_
  refine knewI (n := 121) (D := D) (cA := cA) hx hb hts wk43 hW hP hD hS hA (by omega) (Nat.le_of_ble_eq_true rfl) (Nat.le_of_ble_eq_true rfl) dX9_init_93 (fun q11 H hP hD hS => ?_)
  have hP : va_P D vwCl ([(h0, .inr (9, [.int 0, .ref q1, .int 0, .int 0, .ref q2, .ref q3, .ref q4, .ref q5, .int 0, .ref q6, .ref q7, .ref q8, .int 0, .ref q9, .ref q10, .int 0, .null]))] ++ [(q1, .inl (cA 0, 160, .inl (fun _ => 0)))] ++ [(q2, .inl (cA 0, 142, .inl (fun _ => 0)))] ++ [(q3, .inl (cA 0, 142, .inl (fun _ => 0)))] ++ [(q4, .inl (cA 0, 142, .inl (fun _ => 0)))] ++ [(q5, .inl (cA 0, 1988, .inl (fun _ => 0)))] ++ [(q6, .inl (cA 0, 284, .inl (fun _ => 0)))] ++ [(q7, .inl (cA 1, 2, .inl (fun _ => 0)))] ++ [(q8, .inl (cA 0, 200, .inl (fun _ => 0)))] ++ [(q9, .inl (cA 0, 12, .inl (fun _ => 0)))] ++ [(q10, .inl (cA 0, 12, .inl (fun _ => 0)))] ++ [(q11, .inl (cA 0, 121, .inl (fun _ => 0)))]) H := hP
  have hD : va_D A ([(h0, .inr (9, [.int 0, .ref q1, .int 0, .int 0, .ref q2, .ref q3, .ref q4, .ref q5, .int 0, .ref q6, .ref q7, .ref q8, .int 0, .ref q9, .ref q10, .int 0, .null]))] ++ [(q1, .inl (cA 0, 160, .inl (fun _ => 0)))] ++ [(q2, .inl (cA 0, 142, .inl (fun _ => 0)))] ++ [(q3, .inl (cA 0, 142, .inl (fun _ => 0)))] ++ [(q4, .inl (cA 0, 142, .inl (fun _ => 0)))] ++ [(q5, .inl (cA 0, 1988, .inl (fun _ => 0)))] ++ [(q6, .inl (cA 0, 284, .inl (fun _ => 0)))] ++ [(q7, .inl (cA 1, 2, .inl (fun _ => 0)))] ++ [(q8, .inl (cA 0, 200, .inl (fun _ => 0)))] ++ [(q9, .inl (cA 0, 12, .inl (fun _ => 0)))] ++ [(q10, .inl (cA 0, 12, .inl (fun _ => 0)))] ++ [(q11, .inl (cA 0, 121, .inl (fun _ => 0)))]) := hD
  refine va_putF (D := D) (tys := kTys cA) (ci := 9) (v := .ref q11) (ty := tyX9 16) (C := RX9) (T := TX9) (N := 17) hx hb hts win9 tyX9 tyX9_ok nmX9 hown hW.1 hP hD hS 0 rfl rfl 16 (by decide) (hts _ wk1033) (fun _ h9 => h9) rfl hin rfl (tyX9_ok 16 (by decide)) rfl rfl (Nat.le_of_ble_eq_true rfl) dX9_init_95 (fun H locs hP hD hS => ?_)
  have hP : va_P D vwCl ([(h0, .inr (9, [.int 0, .ref q1, .int 0, .int 0, .ref q2, .ref q3, .ref q4, .ref q5, .int 0, .ref q6, .ref q7, .ref q8, .int 0, .ref q9, .ref q10, .int 0, .ref q11]))] ++ [(q1, .inl (cA 0, 160, .inl (fun _ => 0)))] ++ [(q2, .inl (cA 0, 142, .inl (fun _ => 0)))] ++ [(q3, .inl (cA 0, 142, .inl (fun _ => 0)))] ++ [(q4, .inl (cA 0, 142, .inl (fun _ => 0)))] ++ [(q5, .inl (cA 0, 1988, .inl (fun _ => 0)))] ++ [(q6, .inl (cA 0, 284, .inl (fun _ => 0)))] ++ [(q7, .inl (cA 1, 2, .inl (fun _ => 0)))] ++ [(q8, .inl (cA 0, 200, .inl (fun _ => 0)))] ++ [(q9, .inl (cA 0, 12, .inl (fun _ => 0)))] ++ [(q10, .inl (cA 0, 12, .inl (fun _ => 0)))] ++ [(q11, .inl (cA 0, 121, .inl (fun _ => 0)))]) H := hP
  have hD : va_D A ([(h0, .inr (9, [.int 0, .ref q1, .int 0, .int 0, .ref q2, .ref q3, .ref q4, .ref q5, .int 0, .ref q6, .ref q7, .ref q8, .int 0, .ref q9, .ref q10, .int 0, .ref q11]))] ++ [(q1, .inl (cA 0, 160, .inl (fun _ => 0)))] ++ [(q2, .inl (cA 0, 142, .inl (fun _ => 0)))] ++ [(q3, .inl (cA 0, 142, .inl (fun _ => 0)))] ++ [(q4, .inl (cA 0, 142, .inl (fun _ => 0)))] ++ [(q5, .inl (cA 0, 1988, .inl (fun _ => 0)))] ++ [(q6, .inl (cA 0, 284, .inl (fun _ => 0)))] ++ [(q7, .inl (cA 1, 2, .inl (fun _ => 0)))] ++ [(q8, .inl (cA 0, 200, .inl (fun _ => 0)))] ++ [(q9, .inl (cA 0, 12, .inl (fun _ => 0)))] ++ [(q10, .inl (cA 0, 12, .inl (fun _ => 0)))] ++ [(q11, .inl (cA 0, 121, .inl (fun _ => 0)))]) := hD
  refine lv_aload_n hx hb dX9_init_98 rfl (lv_at hl 0 rfl) ?_
  refine va_get (D := D) (cl := vwCl) (tys := kTys cA) hx hb hts win9 hown hW.1 hP 0 (C := RX9) (T := TX9) (N := 17) rfl rfl 4 (by decide) (hts _ wk1021) (fun _ h9 => h9) rfl dX9_init_99 ?_
  refine lv_iconst (v := nI 1) hx hb dX9_init_102 (by decide) ?_
  refine lv_bipush (v := nI 8) hx hb dX9_init_103 (by decide) ?_
  refine va_iast (D := D) (cl := vwCl) (tys := kTys cA) hx hb hW.1 hP hD hS 2 0 rfl rfl (vp_in_nI (n := 1) (by omega) (by omega)) dX9_init_105 (fun H locs hP hD hS => ?_)
  have e9 : upd (fun _ => (0 : Int32)) (nI 1).toNatClampNeg (nI 8) = fun j => if j = 1 then nI 8 else 0 := by rw [nI_clamp (by omega)]; rfl
  rw [e9] at hP hD
  refine W.widen (k := 11) (n := 3205) (by first | omega | exact Nat.le_of_ble_eq_true rfl) (by first | omega | exact Nat.le_of_ble_eq_true rfl) ?_
  obtain ⟨γ, hγ⟩ : ∃ γ : Nat → Nat, γ = fun k => match k with | 0 => h0 | 1 => q1 | 2 => q2 | 3 => q3 | 4 => q4 | 5 => q5 | 6 => q6 | 7 => q7 | 8 => q8 | 9 => q9 | 10 => q10 | _ => q11 := ⟨_, rfl⟩
  have hP9 : va_P D vwCl (modB cA γ) H := by rw [hγ]; exact hP
  have hD9 : va_D A (modB cA γ) := by rw [hγ]; exact hD
  exact W.vret hx hb hr (fun t ht hW => ⟨⟨γ, rfl, (by rw [hγ] <;> rfl), by rw [ht]; exact hP9, hD9⟩, hS.F ht⟩) hS.2.2 dX9_init_106
end P74
