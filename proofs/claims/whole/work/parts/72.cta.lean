section P72
abbrev kN : Nat → (Nat → Nat) → Prop := fun h0 γ => γ 0 = h0
def rowB (cA : Nat → ClassId) (n : Nat) (γ : Nat → Nat) : va_W := [(γ 0, .inr (5, [.ref (γ 1)])), (γ 1, .inl (cA 0, n, .inl (fun _ => 0)))]
def mesB (cA : Nat → ClassId) (γ : Nat → Nat) : va_W := [(γ 0, .inr (2, [.ref (γ 1), .int 0, .int 0, .int 0, .int 0, .int 0, .int 0, .int 0, .int 0, .int 0])), (γ 1, .inl (cA 0, 12, .inl (fun _ => 0)))]
def colB (cA : Nat → ClassId) (γ : Nat → Nat) : va_W := [(γ 0, .inr (0, [.ref (γ 1), .ref (γ 3), .ref (γ 5), .ref (γ 7), .int 0, .int 0, .int 8]))] ++ rowB cA 120 (fun k => γ (1 + k)) ++ rowB cA 10 (fun k => γ (3 + k)) ++ rowB cA 10 (fun k => γ (5 + k)) ++ mesB cA (fun k => γ (7 + k))
def texB (cA : Nat → ClassId) (γ : Nat → Nat) : va_W := [(γ 0, .inr (3, [.ref (γ 1), .ref (γ 3), .ref (γ 5), .int 0, .int 0, .int 0, .int 0]))] ++ rowB cA 160 (fun k => γ (1 + k)) ++ rowB cA 12 (fun k => γ (3 + k)) ++ rowB cA 12 (fun k => γ (5 + k))
def wriB (cA : Nat → ClassId) (γ : Nat → Nat) : va_W := [(γ 0, .inr (4, [.ref (γ 1), .int 0]))] ++ rowB cA 179 (fun k => γ (1 + k))
def scrB (cA : Nat → ClassId) (γ : Nat → Nat) : va_W := [(γ 0, .inr (6, [.ref (γ 1)]))] ++ colB cA (fun k => γ (1 + k))
def colsB (cA : Nat → ClassId) (n : Nat) (γ : Nat → Nat) : va_W := (List.range n).flatMap (fun j => colB cA (fun k => γ (9 * j + k)))
def sheB (cA : Nat → ClassId) (n : Nat) (γ : Nat → Nat) : va_W := [(γ 0, .inr (7, [.ref (γ 1), .ref (γ 2)]))] ++ [(γ 1, .inl (cA 3, n, .inr (.inr (.inr (.inr (fun j => some (γ (4 + 9 * j))))))))] ++ colsB cA n (fun k => γ (4 + k)) ++ rowB cA n (fun k => γ (2 + k))
def hisB (cA : Nat → ClassId) (γ : Nat → Nat) : va_W := [(γ 0, .inr (1, [.ref (γ 1), .int 0, .int 0]))] ++ sheB cA 14 (fun k => γ (1 + k))
set_option maxHeartbeats 4000000 in
set_option maxRecDepth 100000 in
/-- a row of n zeros -/
theorem k_X5 (l : Launch) (D : va_G) (cA : Nat → ClassId) (n : Nat) (hn0 : 1 ≤ n) (hn : n < 100000) : kMet l D cA yX5_init cX5_init 2 [.int (nI n)] 5 [.null] 1 n 1 12 kN (fun _ => rowB cA n) := by
  intro h0 sz
  unfold kQc
  refine Met.ofW (cc := cX5_init) (maxL := 2) (ret := none) (by decide) rfl ?_
  intro p e s m args below meth c s₁ B hml hv
  obtain ⟨rfl, hsz, hP, hW⟩ := hv
  have hts0 := atoms_spec (ws := Cond.code yX5_init cX5_init 2 none :: wsAll) B.pre
  have hts := fun w (hw : w ∈ wsAll) => hts0 w (List.mem_cons_of_mem _ hw)
  have hx := B.exec
  have hb := B.bytes
  have hr := B.returns
  have hown : s.vm.findClass RX5 = some m.cls := findClass_of_methodNamed B.named
  have hin : meth.name = "<init>" := (name_of_methodNamed B.named B.method).1
  subst hsz
  have hD : va_D (va_A [(h0, .inr (5, [.null]))] s.heap.size) [(h0, .inr (5, [.null]))] := va_D_one (va_A.in (k := 0) rfl)
  generalize hAe : va_A [(h0, .inr (5, [.null]))] s.heap.size = A at hD ⊢
  have hA : ∀ q : Nat, s.heap.size ≤ q → A q := fun q h => by rw [← hAe]; exact Or.inr h
  have hS : va_S A s.heap s.heap [] := va_S.rf
  have hl := lv_entry ([.ref h0, .int (nI n)]) (n := 2) (Nat.le_of_ble_eq_true rfl)
  rw [lg_entry_eq]
  generalize (lg_sl ([.ref h0, .int (nI n)]) ++ List.replicate (2 - (lg_sl ([.ref h0, .int (nI n)])).length) Slot.unset).toArray = ls at hl ⊢
  have hl : lv_has ls 2 [(0, .ref h0), (1, .int (nI n))] := hl
  have F : CallFix p m c cX5_init 2 s _ wsAll RX5 := ⟨hx, hb, hml, hown, hts⟩
  refine lv_aload_n hx hb dX5_init_0 rfl (lv_at hl 0 rfl) ?_
  refine W.objInit hx hb hown (hts _ wk38) (hts _ wk25) (hts _ wk26) rfl (by rw [hml]; exact hl.1) rfl dX5_init_1 (Nat.le_of_ble_eq_true rfl) (Nat.le_of_ble_eq_true rfl) ?_
  refine W.eq (g2 := F0 m 4 ls []) rfl ?_
  refine lv_aload_n hx hb dX5_init_4 rfl (lv_at hl 0 rfl) ?_
  refine lv_iload_n hx hb dX5_init_5 rfl (lv_at hl 1 rfl) ?_
  refine lv_if_le (tgt := 13) hx hb dX5_init_6 (by decide) (fun h9 => absurd h9 (nI_nle (by omega) (by omega))) (fun _ => ?_)
  refine lv_iload_n hx hb dX5_init_9 rfl (lv_at hl 1 rfl) ?_
  refine lv_goto (tgt := 14) hx hb dX5_init_10 (by decide) ?_
  refine knewI (n := n) (D := D) (cA := cA) hx hb hts wk43 hW hP hD hS hA hn (Nat.le_of_ble_eq_true rfl) (by show 0 + n ≤ n; omega) dX5_init_14 (fun q1 H hP hD hS => ?_)
  have hP : va_P D vwCl ([(h0, .inr (5, [.null]))] ++ [(q1, .inl (cA 0, n, .inl (fun _ => 0)))]) H := hP
  have hD : va_D A ([(h0, .inr (5, [.null]))] ++ [(q1, .inl (cA 0, n, .inl (fun _ => 0)))]) := hD
  refine va_putF (D := D) (tys := kTys cA) (ci := 5) (v := .ref q1) (ty := tyX5 0) (C := RX5) (T := TX5) (N := 1) hx hb hts win5 tyX5 tyX5_ok nmX5 hown hW.1 hP hD hS 0 rfl rfl 0 (by decide) (hts _ wk39) (fun _ h9 => h9) rfl hin rfl (tyX5_ok 0 (by decide)) rfl rfl (Nat.le_of_ble_eq_true rfl) dX5_init_16 (fun H locs hP hD hS => ?_)
  have hP : va_P D vwCl ([(h0, .inr (5, [.ref q1]))] ++ [(q1, .inl (cA 0, n, .inl (fun _ => 0)))]) H := hP
  have hD : va_D A ([(h0, .inr (5, [.ref q1]))] ++ [(q1, .inl (cA 0, n, .inl (fun _ => 0)))]) := hD
  refine W.widen (k := 1) (n := n) (by first | omega | exact Nat.le_of_ble_eq_true rfl) (by first | omega | exact Nat.le_of_ble_eq_true rfl) ?_
  obtain ⟨γ, hγ⟩ : ∃ γ : Nat → Nat, γ = fun k => match k with | 0 => h0 | _ => q1 := ⟨_, rfl⟩
  have hP9 : va_P D vwCl (rowB cA n γ) H := by rw [hγ]; exact hP
  have hD9 : va_D A (rowB cA n γ) := by rw [hγ]; exact hD
  exact W.vret hx hb hr (fun t ht hW => ⟨⟨γ, rfl, (by rw [hγ] <;> rfl), by rw [ht]; exact hP9, hD9⟩, hS.F ht⟩) hS.2.2 dX5_init_19
set_option maxHeartbeats 4000000 in
set_option maxRecDepth 100000 in
/-- PageMeasure() -/
theorem k_X2 (l : Launch) (D : va_G) (cA : Nat → ClassId) : kMet l D cA yX2_init cX2_init 1 [] 2 [.null, .int 0, .int 0, .int 0, .int 0, .int 0, .int 0, .int 0, .int 0, .int 0] 1 12 1 12 kN (fun _ => mesB cA) := by
  intro h0 sz
  unfold kQc
  refine Met.ofW (cc := cX2_init) (maxL := 1) (ret := none) (by decide) rfl ?_
  intro p e s m args below meth c s₁ B hml hv
  obtain ⟨rfl, hsz, hP, hW⟩ := hv
  have hts0 := atoms_spec (ws := Cond.code yX2_init cX2_init 1 none :: wsAll) B.pre
  have hts := fun w (hw : w ∈ wsAll) => hts0 w (List.mem_cons_of_mem _ hw)
  have hx := B.exec
  have hb := B.bytes
  have hr := B.returns
  have hown : s.vm.findClass RX2 = some m.cls := findClass_of_methodNamed B.named
  have hin : meth.name = "<init>" := (name_of_methodNamed B.named B.method).1
  subst hsz
  have hD : va_D (va_A [(h0, .inr (2, [.null, .int 0, .int 0, .int 0, .int 0, .int 0, .int 0, .int 0, .int 0, .int 0]))] s.heap.size) [(h0, .inr (2, [.null, .int 0, .int 0, .int 0, .int 0, .int 0, .int 0, .int 0, .int 0, .int 0]))] := va_D_one (va_A.in (k := 0) rfl)
  generalize hAe : va_A [(h0, .inr (2, [.null, .int 0, .int 0, .int 0, .int 0, .int 0, .int 0, .int 0, .int 0, .int 0]))] s.heap.size = A at hD ⊢
  have hA : ∀ q : Nat, s.heap.size ≤ q → A q := fun q h => by rw [← hAe]; exact Or.inr h
  have hS : va_S A s.heap s.heap [] := va_S.rf
  have hl := lv_entry ([.ref h0]) (n := 1) (Nat.le_of_ble_eq_true rfl)
  rw [lg_entry_eq]
  generalize (lg_sl ([.ref h0]) ++ List.replicate (1 - (lg_sl ([.ref h0])).length) Slot.unset).toArray = ls at hl ⊢
  have hl : lv_has ls 1 [(0, .ref h0)] := hl
  have F : CallFix p m c cX2_init 1 s _ wsAll RX2 := ⟨hx, hb, hml, hown, hts⟩
  refine lv_aload_n hx hb dX2_init_0 rfl (lv_at hl 0 rfl) ?_
  refine W.objInit hx hb hown (hts _ wk49) (hts _ wk25) (hts _ wk26) rfl (by rw [hml]; exact hl.1) rfl dX2_init_1 (Nat.le_of_ble_eq_true rfl) (Nat.le_of_ble_eq_true rfl) ?_
  refine W.eq (g2 := F0 m 4 ls []) rfl ?_
  refine lv_aload_n hx hb dX2_init_4 rfl (lv_at hl 0 rfl) ?_
  refine lv_bipush (v := nI 12) hx hb dX2_init_5 (by decide) ?_
  refine knewI (n := 12) (D := D) (cA := cA) hx hb hts wk43 hW hP hD hS hA (by omega) (Nat.le_of_ble_eq_true rfl) (Nat.le_of_ble_eq_true rfl) dX2_init_7 (fun q1 H hP hD hS => ?_)
  have hP : va_P D vwCl ([(h0, .inr (2, [.null, .int 0, .int 0, .int 0, .int 0, .int 0, .int 0, .int 0, .int 0, .int 0]))] ++ [(q1, .inl (cA 0, 12, .inl (fun _ => 0)))]) H := hP
  have hD : va_D A ([(h0, .inr (2, [.null, .int 0, .int 0, .int 0, .int 0, .int 0, .int 0, .int 0, .int 0, .int 0]))] ++ [(q1, .inl (cA 0, 12, .inl (fun _ => 0)))]) := hD
  refine va_putF (D := D) (tys := kTys cA) (ci := 2) (v := .ref q1) (ty := tyX2 0) (C := RX2) (T := TX2) (N := 10) hx hb hts win2 tyX2 tyX2_ok nmX2 hown hW.1 hP hD hS 0 rfl rfl 0 (by decide) (hts _ wk50) (fun _ h9 => h9) rfl hin rfl (tyX2_ok 0 (by decide)) rfl rfl (Nat.le_of_ble_eq_true rfl) dX2_init_9 (fun H locs hP hD hS => ?_)
  have hP : va_P D vwCl ([(h0, .inr (2, [.ref q1, .int 0, .int 0, .int 0, .int 0, .int 0, .int 0, .int 0, .int 0, .int 0]))] ++ [(q1, .inl (cA 0, 12, .inl (fun _ => 0)))]) H := hP
  have hD : va_D A ([(h0, .inr (2, [.ref q1, .int 0, .int 0, .int 0, .int 0, .int 0, .int 0, .int 0, .int 0, .int 0]))] ++ [(q1, .inl (cA 0, 12, .inl (fun _ => 0)))]) := hD
  refine W.widen (k := 1) (n := 12) (by first | omega | exact Nat.le_of_ble_eq_true rfl) (by first | omega | exact Nat.le_of_ble_eq_true rfl) ?_
  obtain ⟨γ, hγ⟩ : ∃ γ : Nat → Nat, γ = fun k => match k with | 0 => h0 | _ => q1 := ⟨_, rfl⟩
  have hP9 : va_P D vwCl (mesB cA γ) H := by rw [hγ]; exact hP
  have hD9 : va_D A (mesB cA γ) := by rw [hγ]; exact hD
  exact W.vret hx hb hr (fun t ht hW => ⟨⟨γ, rfl, (by rw [hγ] <;> rfl), by rw [ht]; exact hP9, hD9⟩, hS.F ht⟩) hS.2.2 dX2_init_12
set_option maxHeartbeats 4000000 in
set_option maxRecDepth 100000 in
/-- Column() -/
theorem k_X0 (l : Launch) (D : va_G) (cA : Nat → ClassId) : kMet l D cA yX0_init cX0_init 1 [] 0 [.null, .null, .null, .null, .int 0, .int 0, .int 0] 8 165 2 33 kN (fun _ => colB cA) := by
  intro h0 sz
  unfold kQc
  refine Met.ofW (cc := cX0_init) (maxL := 1) (ret := none) (by decide) rfl ?_
  intro p e s m args below meth c s₁ B hml hv
  obtain ⟨rfl, hsz, hP, hW⟩ := hv
  have hts0 := atoms_spec (ws := Cond.code yX0_init cX0_init 1 none :: wsAll) B.pre
  have hts := fun w (hw : w ∈ wsAll) => hts0 w (List.mem_cons_of_mem _ hw)
  have hx := B.exec
  have hb := B.bytes
  have hr := B.returns
  have hown : s.vm.findClass RX0 = some m.cls := findClass_of_methodNamed B.named
  have hin : meth.name = "<init>" := (name_of_methodNamed B.named B.method).1
  subst hsz
  have hD : va_D (va_A [(h0, .inr (0, [.null, .null, .null, .null, .int 0, .int 0, .int 0]))] s.heap.size) [(h0, .inr (0, [.null, .null, .null, .null, .int 0, .int 0, .int 0]))] := va_D_one (va_A.in (k := 0) rfl)
  generalize hAe : va_A [(h0, .inr (0, [.null, .null, .null, .null, .int 0, .int 0, .int 0]))] s.heap.size = A at hD ⊢
  have hA : ∀ q : Nat, s.heap.size ≤ q → A q := fun q h => by rw [← hAe]; exact Or.inr h
  have hS : va_S A s.heap s.heap [] := va_S.rf
  have hl := lv_entry ([.ref h0]) (n := 1) (Nat.le_of_ble_eq_true rfl)
  rw [lg_entry_eq]
  generalize (lg_sl ([.ref h0]) ++ List.replicate (1 - (lg_sl ([.ref h0])).length) Slot.unset).toArray = ls at hl ⊢
  have hl : lv_has ls 1 [(0, .ref h0)] := hl
  have F : CallFix p m c cX0_init 1 s _ wsAll RX0 := ⟨hx, hb, hml, hown, hts⟩
  refine lv_aload_n hx hb dX0_init_0 rfl (lv_at hl 0 rfl) ?_
  refine W.objInit hx hb hown (hts _ wk32) (hts _ wk25) (hts _ wk26) rfl (by rw [hml]; exact hl.1) rfl dX0_init_1 (Nat.le_of_ble_eq_true rfl) (Nat.le_of_ble_eq_true rfl) ?_
  refine W.eq (g2 := F0 m 4 ls []) rfl ?_
  refine lv_aload_n hx hb dX0_init_4 rfl (lv_at hl 0 rfl) ?_
  refine va_new (D := D) (tys := kTys cA) (ci := 5) (fs := [.null]) (C := RX5) (T := TX5) (N := 1) hx hb hts win5 tyX5 tyX5_ok hown (hts _ wk33) (hts _ wk34) (hts _ wk3) hW.1 hP hD hS hA rfl (fun j hj => by rcases (show j = 0 by omega) with rfl <;> rfl) (Nat.le_of_ble_eq_true rfl) (Nat.le_of_ble_eq_true rfl) dX0_init_5 (fun q1 H hP hD hS => ?_)
  have hP : va_P D vwCl ([(h0, .inr (0, [.null, .null, .null, .null, .int 0, .int 0, .int 0]))] ++ [(q1, .inr (5, [.null]))]) H := hP
  have hD : va_D A ([(h0, .inr (0, [.null, .null, .null, .null, .int 0, .int 0, .int 0]))] ++ [(q1, .inr (5, [.null]))]) := hD
  refine lv_dup hx hb dX0_init_8 rfl ?_
  refine lv_bipush (v := nI 120) hx hb dX0_init_9 (by decide) ?_
  refine kcallI (rest := [.ref q1, .ref h0]) F (k_X5 l D cA 120 (by omega) (by omega)) dX0_init_11 wk35 wk36 wk3 wk37 rfl (n := 1) ⟨by decide, by decide, by decide +kernel⟩ ⟨Nat.le_of_ble_eq_true rfl, Nat.le_of_ble_eq_true rfl⟩ rfl rfl (Nat.le_of_ble_eq_true rfl) hl.1 ⟨Nat.le_of_ble_eq_true rfl, Nat.le_of_ble_eq_true rfl⟩ hW hP hD hS hA (fun u1 H locs hp hP7 hD7 hS => ?_)
  obtain rfl : u1 0 = q1 := hp
  have hP : va_P D vwCl ([(h0, .inr (0, [.null, .null, .null, .null, .int 0, .int 0, .int 0]))] ++ rowB cA 120 u1) H := hP7
  have hD : va_D A ([(h0, .inr (0, [.null, .null, .null, .null, .int 0, .int 0, .int 0]))] ++ rowB cA 120 u1) := hD7
  refine va_putF (D := D) (tys := kTys cA) (ci := 0) (v := .ref (u1 0)) (ty := tyX0 0) (C := RX0) (T := TX0) (N := 7) hx hb hts win0 tyX0 tyX0_ok nmX0 hown hW.1 hP hD hS 0 rfl rfl 0 (by decide) (hts _ wk97) (fun _ h9 => h9) rfl hin rfl (tyX0_ok 0 (by decide)) rfl rfl (Nat.le_of_ble_eq_true rfl) dX0_init_14 (fun H locs hP hD hS => ?_)
  have hP : va_P D vwCl ([(h0, .inr (0, [.ref (u1 0), .null, .null, .null, .int 0, .int 0, .int 0]))] ++ rowB cA 120 u1) H := hP
  have hD : va_D A ([(h0, .inr (0, [.ref (u1 0), .null, .null, .null, .int 0, .int 0, .int 0]))] ++ rowB cA 120 u1) := hD
  refine lv_aload_n hx hb dX0_init_17 rfl (lv_at hl 0 rfl) ?_
  refine va_new (D := D) (tys := kTys cA) (ci := 5) (fs := [.null]) (C := RX5) (T := TX5) (N := 1) hx hb hts win5 tyX5 tyX5_ok hown (hts _ wk33) (hts _ wk34) (hts _ wk3) hW.1 hP hD hS hA rfl (fun j hj => by rcases (show j = 0 by omega) with rfl <;> rfl) (Nat.le_of_ble_eq_true rfl) (Nat.le_of_ble_eq_true rfl) dX0_init_18 (fun q2 H hP hD hS => ?_)
  have hP : va_P D vwCl ([(h0, .inr (0, [.ref (u1 0), .null, .null, .null, .int 0, .int 0, .int 0]))] ++ rowB cA 120 u1 ++ [(q2, .inr (5, [.null]))]) H := hP
  have hD : va_D A ([(h0, .inr (0, [.ref (u1 0), .null, .null, .null, .int 0, .int 0, .int 0]))] ++ rowB cA 120 u1 ++ [(q2, .inr (5, [.null]))]) := hD
  refine lv_dup hx hb dX0_init_21 rfl ?_
  refine lv_bipush (v := nI 10) hx hb dX0_init_22 (by decide) ?_
  refine kcallI (rest := [.ref q2, .ref h0]) F (k_X5 l D cA 10 (by omega) (by omega)) dX0_init_24 wk35 wk36 wk3 wk37 rfl (n := 1) ⟨by decide, by decide, by decide +kernel⟩ ⟨Nat.le_of_ble_eq_true rfl, Nat.le_of_ble_eq_true rfl⟩ rfl rfl (Nat.le_of_ble_eq_true rfl) hl.1 ⟨Nat.le_of_ble_eq_true rfl, Nat.le_of_ble_eq_true rfl⟩ hW hP hD hS hA (fun u2 H locs hp hP7 hD7 hS => ?_)
  obtain rfl : u2 0 = q2 := hp
  have hP : va_P D vwCl ([(h0, .inr (0, [.ref (u1 0), .null, .null, .null, .int 0, .int 0, .int 0]))] ++ rowB cA 120 u1 ++ rowB cA 10 u2) H := hP7
  have hD : va_D A ([(h0, .inr (0, [.ref (u1 0), .null, .null, .null, .int 0, .int 0, .int 0]))] ++ rowB cA 120 u1 ++ rowB cA 10 u2) := hD7
  refine va_putF (D := D) (tys := kTys cA) (ci := 0) (v := .ref (u2 0)) (ty := tyX0 1) (C := RX0) (T := TX0) (N := 7) hx hb hts win0 tyX0 tyX0_ok nmX0 hown hW.1 hP hD hS 0 rfl rfl 1 (by decide) (hts _ wk98) (fun _ h9 => h9) rfl hin rfl (tyX0_ok 1 (by decide)) rfl rfl (Nat.le_of_ble_eq_true rfl) dX0_init_27 (fun H locs hP hD hS => ?_)
  have hP : va_P D vwCl ([(h0, .inr (0, [.ref (u1 0), .ref (u2 0), .null, .null, .int 0, .int 0, .int 0]))] ++ rowB cA 120 u1 ++ rowB cA 10 u2) H := hP
  have hD : va_D A ([(h0, .inr (0, [.ref (u1 0), .ref (u2 0), .null, .null, .int 0, .int 0, .int 0]))] ++ rowB cA 120 u1 ++ rowB cA 10 u2) := hD
  refine lv_aload_n hx hb dX0_init_30 rfl (lv_at hl 0 rfl) ?_
  refine va_new (D := D) (tys := kTys cA) (ci := 5) (fs := [.null]) (C := RX5) (T := TX5) (N := 1) hx hb hts win5 tyX5 tyX5_ok hown (hts _ wk33) (hts _ wk34) (hts _ wk3) hW.1 hP hD hS hA rfl (fun j hj => by rcases (show j = 0 by omega) with rfl <;> rfl) (Nat.le_of_ble_eq_true rfl) (Nat.le_of_ble_eq_true rfl) dX0_init_31 (fun q3 H hP hD hS => ?_)
  have hP : va_P D vwCl ([(h0, .inr (0, [.ref (u1 0), .ref (u2 0), .null, .null, .int 0, .int 0, .int 0]))] ++ rowB cA 120 u1 ++ rowB cA 10 u2 ++ [(q3, .inr (5, [.null]))]) H := hP
  have hD : va_D A ([(h0, .inr (0, [.ref (u1 0), .ref (u2 0), .null, .null, .int 0, .int 0, .int 0]))] ++ rowB cA 120 u1 ++ rowB cA 10 u2 ++ [(q3, .inr (5, [.null]))]) := hD
  refine lv_dup hx hb dX0_init_34 rfl ?_
  refine lv_bipush (v := nI 10) hx hb dX0_init_35 (by decide) ?_
  refine kcallI (rest := [.ref q3, .ref h0]) F (k_X5 l D cA 10 (by omega) (by omega)) dX0_init_37 wk35 wk36 wk3 wk37 rfl (n := 1) ⟨by decide, by decide, by decide +kernel⟩ ⟨Nat.le_of_ble_eq_true rfl, Nat.le_of_ble_eq_true rfl⟩ rfl rfl (Nat.le_of_ble_eq_true rfl) hl.1 ⟨Nat.le_of_ble_eq_true rfl, Nat.le_of_ble_eq_true rfl⟩ hW hP hD hS hA (fun u3 H locs hp hP7 hD7 hS => ?_)
  obtain rfl : u3 0 = q3 := hp
  have hP : va_P D vwCl ([(h0, .inr (0, [.ref (u1 0), .ref (u2 0), .null, .null, .int 0, .int 0, .int 0]))] ++ rowB cA 120 u1 ++ rowB cA 10 u2 ++ rowB cA 10 u3) H := hP7
  have hD : va_D A ([(h0, .inr (0, [.ref (u1 0), .ref (u2 0), .null, .null, .int 0, .int 0, .int 0]))] ++ rowB cA 120 u1 ++ rowB cA 10 u2 ++ rowB cA 10 u3) := hD7
  refine va_putF (D := D) (tys := kTys cA) (ci := 0) (v := .ref (u3 0)) (ty := tyX0 2) (C := RX0) (T := TX0) (N := 7) hx hb hts win0 tyX0 tyX0_ok nmX0 hown hW.1 hP hD hS 0 rfl rfl 2 (by decide) (hts _ wk99) (fun _ h9 => h9) rfl hin rfl (tyX0_ok 2 (by decide)) rfl rfl (Nat.le_of_ble_eq_true rfl) dX0_init_40 (fun H locs hP hD hS => ?_)
  have hP : va_P D vwCl ([(h0, .inr (0, [.ref (u1 0), .ref (u2 0), .ref (u3 0), .null, .int 0, .int 0, .int 0]))] ++ rowB cA 120 u1 ++ rowB cA 10 u2 ++ rowB cA 10 u3) H := hP
  have hD : va_D A ([(h0, .inr (0, [.ref (u1 0), .ref (u2 0), .ref (u3 0), .null, .int 0, .int 0, .int 0]))] ++ rowB cA 120 u1 ++ rowB cA 10 u2 ++ rowB cA 10 u3) := hD
  refine lv_aload_n hx hb dX0_init_43 rfl (lv_at hl 0 rfl) ?_
  refine va_new (D := D) (tys := kTys cA) (ci := 2) (fs := [.null, .int 0, .int 0, .int 0, .int 0, .int 0, .int 0, .int 0, .int 0, .int 0]) (C := RX2) (T := TX2) (N := 10) hx hb hts win2 tyX2 tyX2_ok hown (hts _ wk44) (hts _ wk45) (hts _ wk4) hW.1 hP hD hS hA rfl (fun j hj => by rcases (show j = 0 ∨ j = 1 ∨ j = 2 ∨ j = 3 ∨ j = 4 ∨ j = 5 ∨ j = 6 ∨ j = 7 ∨ j = 8 ∨ j = 9 by omega) with rfl | rfl | rfl | rfl | rfl | rfl | rfl | rfl | rfl | rfl <;> rfl) (Nat.le_of_ble_eq_true rfl) (Nat.le_of_ble_eq_true rfl) dX0_init_44 (fun q4 H hP hD hS => ?_)
  have hP : va_P D vwCl ([(h0, .inr (0, [.ref (u1 0), .ref (u2 0), .ref (u3 0), .null, .int 0, .int 0, .int 0]))] ++ rowB cA 120 u1 ++ rowB cA 10 u2 ++ rowB cA 10 u3 ++ [(q4, .inr (2, [.null, .int 0, .int 0, .int 0, .int 0, .int 0, .int 0, .int 0, .int 0, .int 0]))]) H := hP
  have hD : va_D A ([(h0, .inr (0, [.ref (u1 0), .ref (u2 0), .ref (u3 0), .null, .int 0, .int 0, .int 0]))] ++ rowB cA 120 u1 ++ rowB cA 10 u2 ++ rowB cA 10 u3 ++ [(q4, .inr (2, [.null, .int 0, .int 0, .int 0, .int 0, .int 0, .int 0, .int 0, .int 0, .int 0]))]) := hD
  refine lv_dup hx hb dX0_init_47 rfl ?_
  refine kcallN (host := "CodedColumn") (rest := [.ref q4, .ref h0]) F (k_X2 l D cA) dX0_init_48 (by decide +kernel) wk47 wk4 wk48 rfl (n := 0) ⟨by decide, by decide, by decide +kernel⟩ ⟨Nat.le_of_ble_eq_true rfl, Nat.le_of_ble_eq_true rfl⟩ rfl rfl (Nat.le_of_ble_eq_true rfl) hl.1 ⟨Nat.le_of_ble_eq_true rfl, Nat.le_of_ble_eq_true rfl⟩ hW hP hD hS hA (fun u4 H locs hp hP7 hD7 hS => ?_)
  obtain rfl : u4 0 = q4 := hp
  have hP : va_P D vwCl ([(h0, .inr (0, [.ref (u1 0), .ref (u2 0), .ref (u3 0), .null, .int 0, .int 0, .int 0]))] ++ rowB cA 120 u1 ++ rowB cA 10 u2 ++ rowB cA 10 u3 ++ mesB cA u4) H := hP7
  have hD : va_D A ([(h0, .inr (0, [.ref (u1 0), .ref (u2 0), .ref (u3 0), .null, .int 0, .int 0, .int 0]))] ++ rowB cA 120 u1 ++ rowB cA 10 u2 ++ rowB cA 10 u3 ++ mesB cA u4) := hD7
  refine va_putF (D := D) (tys := kTys cA) (ci := 0) (v := .ref (u4 0)) (ty := tyX0 3) (C := RX0) (T := TX0) (N := 7) hx hb hts win0 tyX0 tyX0_ok nmX0 hown hW.1 hP hD hS 0 rfl rfl 3 (by decide) (hts _ wk100) (fun _ h9 => h9) rfl hin rfl (tyX0_ok 3 (by decide)) rfl rfl (Nat.le_of_ble_eq_true rfl) dX0_init_51 (fun H locs hP hD hS => ?_)
  have hP : va_P D vwCl ([(h0, .inr (0, [.ref (u1 0), .ref (u2 0), .ref (u3 0), .ref (u4 0), .int 0, .int 0, .int 0]))] ++ rowB cA 120 u1 ++ rowB cA 10 u2 ++ rowB cA 10 u3 ++ mesB cA u4) H := hP
  have hD : va_D A ([(h0, .inr (0, [.ref (u1 0), .ref (u2 0), .ref (u3 0), .ref (u4 0), .int 0, .int 0, .int 0]))] ++ rowB cA 120 u1 ++ rowB cA 10 u2 ++ rowB cA 10 u3 ++ mesB cA u4) := hD
  refine lv_aload_n hx hb dX0_init_54 rfl (lv_at hl 0 rfl) ?_
  refine lv_bipush (v := nI 8) hx hb dX0_init_55 (by decide) ?_
  refine va_put (D := D) (tys := kTys cA) (ci := 0) (v := .int (nI 8)) (ty := tyX0 6) (C := RX0) (T := TX0) (N := 7) hx hb hts win0 tyX0 tyX0_ok nmX0 hown hW.1 hP hD hS 0 rfl rfl 6 (by decide) (hts _ wk105) (fun _ h9 => h9) rfl (tyX0_ok 6 (by decide)) rfl rfl (Nat.le_of_ble_eq_true rfl) dX0_init_57 (fun H locs hP hD hS => ?_)
  have hP : va_P D vwCl ([(h0, .inr (0, [.ref (u1 0), .ref (u2 0), .ref (u3 0), .ref (u4 0), .int 0, .int 0, .int (nI 8)]))] ++ rowB cA 120 u1 ++ rowB cA 10 u2 ++ rowB cA 10 u3 ++ mesB cA u4) H := hP
  have hD : va_D A ([(h0, .inr (0, [.ref (u1 0), .ref (u2 0), .ref (u3 0), .ref (u4 0), .int 0, .int 0, .int (nI 8)]))] ++ rowB cA 120 u1 ++ rowB cA 10 u2 ++ rowB cA 10 u3 ++ mesB cA u4) := hD
  refine W.widen (k := 8) (n := 165) (by first | omega | exact Nat.le_of_ble_eq_true rfl) (by first | omega | exact Nat.le_of_ble_eq_true rfl) ?_
  obtain ⟨γ, hγ⟩ : ∃ γ : Nat → Nat, γ = fun k => match k with | 0 => h0 | 1 => u1 0 | 2 => u1 1 | 3 => u2 0 | 4 => u2 1 | 5 => u3 0 | 6 => u3 1 | 7 => u4 0 | _ => u4 1 := ⟨_, rfl⟩
  have hP9 : va_P D vwCl (colB cA γ) H := by rw [hγ]; exact hP
  have hD9 : va_D A (colB cA γ) := by rw [hγ]; exact hD
  exact W.vret hx hb hr (fun t ht hW => ⟨⟨γ, rfl, (by rw [hγ] <;> rfl), by rw [ht]; exact hP9, hD9⟩, hS.F ht⟩) hS.2.2 dX0_init_60
set_option maxHeartbeats 4000000 in
set_option maxRecDepth 100000 in
/-- Script() -/
theorem k_X6 (l : Launch) (D : va_G) (cA : Nat → ClassId) : kMet l D cA yX6_init cX6_init 1 [] 6 [.null] 9 172 3 53 kN (fun _ => scrB cA) := by
  intro h0 sz
  unfold kQc
  refine Met.ofW (cc := cX6_init) (maxL := 1) (ret := none) (by decide) rfl ?_
  intro p e s m args below meth c s₁ B hml hv
  obtain ⟨rfl, hsz, hP, hW⟩ := hv
  have hts0 := atoms_spec (ws := Cond.code yX6_init cX6_init 1 none :: wsAll) B.pre
  have hts := fun w (hw : w ∈ wsAll) => hts0 w (List.mem_cons_of_mem _ hw)
  have hx := B.exec
  have hb := B.bytes
  have hr := B.returns
  have hown : s.vm.findClass RX6 = some m.cls := findClass_of_methodNamed B.named
  have hin : meth.name = "<init>" := (name_of_methodNamed B.named B.method).1
  subst hsz
  have hD : va_D (va_A [(h0, .inr (6, [.null]))] s.heap.size) [(h0, .inr (6, [.null]))] := va_D_one (va_A.in (k := 0) rfl)
  generalize hAe : va_A [(h0, .inr (6, [.null]))] s.heap.size = A at hD ⊢
  have hA : ∀ q : Nat, s.heap.size ≤ q → A q := fun q h => by rw [← hAe]; exact Or.inr h
  have hS : va_S A s.heap s.heap [] := va_S.rf
  have hl := lv_entry ([.ref h0]) (n := 1) (Nat.le_of_ble_eq_true rfl)
  rw [lg_entry_eq]
  generalize (lg_sl ([.ref h0]) ++ List.replicate (1 - (lg_sl ([.ref h0])).length) Slot.unset).toArray = ls at hl ⊢
  have hl : lv_has ls 1 [(0, .ref h0)] := hl
  have F : CallFix p m c cX6_init 1 s _ wsAll RX6 := ⟨hx, hb, hml, hown, hts⟩
  refine lv_aload_n hx hb dX6_init_0 rfl (lv_at hl 0 rfl) ?_
  refine W.objInit hx hb hown (hts _ wk213) (hts _ wk25) (hts _ wk26) rfl (by rw [hml]; exact hl.1) rfl dX6_init_1 (Nat.le_of_ble_eq_true rfl) (Nat.le_of_ble_eq_true rfl) ?_
  refine W.eq (g2 := F0 m 4 ls []) rfl ?_
  refine lv_aload_n hx hb dX6_init_4 rfl (lv_at hl 0 rfl) ?_
  refine va_new (D := D) (tys := kTys cA) (ci := 0) (fs := [.null, .null, .null, .null, .int 0, .int 0, .int 0]) (C := RX0) (T := TX0) (N := 7) hx hb hts win0 tyX0 tyX0_ok hown (hts _ wk214) (hts _ wk28) (hts _ wk2) hW.1 hP hD hS hA rfl (fun j hj => by rcases (show j = 0 ∨ j = 1 ∨ j = 2 ∨ j = 3 ∨ j = 4 ∨ j = 5 ∨ j = 6 by omega) with rfl | rfl | rfl | rfl | rfl | rfl | rfl <;> rfl) (Nat.le_of_ble_eq_true rfl) (Nat.le_of_ble_eq_true rfl) dX6_init_5 (fun q1 H hP hD hS => ?_)
  have hP : va_P D vwCl ([(h0, .inr (6, [.null]))] ++ [(q1, .inr (0, [.null, .null, .null, .null, .int 0, .int 0, .int 0]))]) H := hP
  have hD : va_D A ([(h0, .inr (6, [.null]))] ++ [(q1, .inr (0, [.null, .null, .null, .null, .int 0, .int 0, .int 0]))]) := hD
  refine lv_dup hx hb dX6_init_8 rfl ?_
  refine kcallN (host := "CodedColumn") (rest := [.ref q1, .ref h0]) F (k_X0 l D cA) dX6_init_9 (by decide +kernel) wk30 wk2 wk31 rfl (n := 0) ⟨by decide, by decide, by decide +kernel⟩ ⟨Nat.le_of_ble_eq_true rfl, Nat.le_of_ble_eq_true rfl⟩ rfl rfl (Nat.le_of_ble_eq_true rfl) hl.1 ⟨Nat.le_of_ble_eq_true rfl, Nat.le_of_ble_eq_true rfl⟩ hW hP hD hS hA (fun u1 H locs hp hP7 hD7 hS => ?_)
  obtain rfl : u1 0 = q1 := hp
  have hP : va_P D vwCl ([(h0, .inr (6, [.null]))] ++ colB cA u1) H := hP7
  have hD : va_D A ([(h0, .inr (6, [.null]))] ++ colB cA u1) := hD7
  refine va_putF (D := D) (tys := kTys cA) (ci := 6) (v := .ref (u1 0)) (ty := tyX6 0) (C := RX6) (T := TX6) (N := 1) hx hb hts win6 tyX6 tyX6_ok nmX6 hown hW.1 hP hD hS 0 rfl rfl 0 (by decide) (hts _ wk216) (fun _ h9 => h9) rfl hin rfl (tyX6_ok 0 (by decide)) rfl rfl (Nat.le_of_ble_eq_true rfl) dX6_init_12 (fun H locs hP hD hS => ?_)
  have hP : va_P D vwCl ([(h0, .inr (6, [.ref (u1 0)]))] ++ colB cA u1) H := hP
  have hD : va_D A ([(h0, .inr (6, [.ref (u1 0)]))] ++ colB cA u1) := hD
  refine W.widen (k := 9) (n := 172) (by first | omega | exact Nat.le_of_ble_eq_true rfl) (by first | omega | exact Nat.le_of_ble_eq_true rfl) ?_
  obtain ⟨γ, hγ⟩ : ∃ γ : Nat → Nat, γ = fun k => match k with | 0 => h0 | 1 => u1 0 | 2 => u1 1 | 3 => u1 2 | 4 => u1 3 | 5 => u1 4 | 6 => u1 5 | 7 => u1 6 | 8 => u1 7 | _ => u1 8 := ⟨_, rfl⟩
  have hP9 : va_P D vwCl (scrB cA γ) H := by rw [hγ]; exact hP
  have hD9 : va_D A (scrB cA γ) := by rw [hγ]; exact hD
  exact W.vret hx hb hr (fun t ht hW => ⟨⟨γ, rfl, (by rw [hγ] <;> rfl), by rw [ht]; exact hP9, hD9⟩, hS.F ht⟩) hS.2.2 dX6_init_15
set_option maxHeartbeats 4000000 in
set_option maxRecDepth 100000 in
/-- PageText() -/
theorem k_X3 (l : Launch) (D : va_G) (cA : Nat → ClassId) : kMet l D cA yX3_init cX3_init 1 [] 3 [.null, .null, .null, .int 0, .int 0, .int 0, .int 0] 6 187 2 33 kN (fun _ => texB cA) := by
  intro h0 sz
  unfold kQc
  refine Met.ofW (cc := cX3_init) (maxL := 1) (ret := none) (by decide) rfl ?_
  intro p e s m args below meth c s₁ B hml hv
  obtain ⟨rfl, hsz, hP, hW⟩ := hv
  have hts0 := atoms_spec (ws := Cond.code yX3_init cX3_init 1 none :: wsAll) B.pre
  have hts := fun w (hw : w ∈ wsAll) => hts0 w (List.mem_cons_of_mem _ hw)
  have hx := B.exec
  have hb := B.bytes
  have hr := B.returns
  have hown : s.vm.findClass RX3 = some m.cls := findClass_of_methodNamed B.named
  have hin : meth.name = "<init>" := (name_of_methodNamed B.named B.method).1
  subst hsz
  have hD : va_D (va_A [(h0, .inr (3, [.null, .null, .null, .int 0, .int 0, .int 0, .int 0]))] s.heap.size) [(h0, .inr (3, [.null, .null, .null, .int 0, .int 0, .int 0, .int 0]))] := va_D_one (va_A.in (k := 0) rfl)
  generalize hAe : va_A [(h0, .inr (3, [.null, .null, .null, .int 0, .int 0, .int 0, .int 0]))] s.heap.size = A at hD ⊢
  have hA : ∀ q : Nat, s.heap.size ≤ q → A q := fun q h => by rw [← hAe]; exact Or.inr h
  have hS : va_S A s.heap s.heap [] := va_S.rf
  have hl := lv_entry ([.ref h0]) (n := 1) (Nat.le_of_ble_eq_true rfl)
  rw [lg_entry_eq]
  generalize (lg_sl ([.ref h0]) ++ List.replicate (1 - (lg_sl ([.ref h0])).length) Slot.unset).toArray = ls at hl ⊢
  have hl : lv_has ls 1 [(0, .ref h0)] := hl
  have F : CallFix p m c cX3_init 1 s _ wsAll RX3 := ⟨hx, hb, hml, hown, hts⟩
  refine lv_aload_n hx hb dX3_init_0 rfl (lv_at hl 0 rfl) ?_
  refine W.objInit hx hb hown (hts _ wk127) (hts _ wk25) (hts _ wk26) rfl (by rw [hml]; exact hl.1) rfl dX3_init_1 (Nat.le_of_ble_eq_true rfl) (Nat.le_of_ble_eq_true rfl) ?_
  refine W.eq (g2 := F0 m 4 ls []) rfl ?_
  refine lv_aload_n hx hb dX3_init_4 rfl (lv_at hl 0 rfl) ?_
  refine va_new (D := D) (tys := kTys cA) (ci := 5) (fs := [.null]) (C := RX5) (T := TX5) (N := 1) hx hb hts win5 tyX5 tyX5_ok hown (hts _ wk128) (hts _ wk34) (hts _ wk3) hW.1 hP hD hS hA rfl (fun j hj => by rcases (show j = 0 by omega) with rfl <;> rfl) (Nat.le_of_ble_eq_true rfl) (Nat.le_of_ble_eq_true rfl) dX3_init_5 (fun q1 H hP hD hS => ?_)
  have hP : va_P D vwCl ([(h0, .inr (3, [.null, .null, .null, .int 0, .int 0, .int 0, .int 0]))] ++ [(q1, .inr (5, [.null]))]) H := hP
  have hD : va_D A ([(h0, .inr (3, [.null, .null, .null, .int 0, .int 0, .int 0, .int 0]))] ++ [(q1, .inr (5, [.null]))]) := hD
  refine lv_dup hx hb dX3_init_8 rfl ?_
  refine lv_sipush (v := nI 160) hx hb dX3_init_9 (by decide) ?_
  refine kcallI (rest := [.ref q1, .ref h0]) F (k_X5 l D cA 160 (by omega) (by omega)) dX3_init_12 wk129 wk36 wk3 wk37 rfl (n := 1) ⟨by decide, by decide, by decide +kernel⟩ ⟨Nat.le_of_ble_eq_true rfl, Nat.le_of_ble_eq_true rfl⟩ rfl rfl (Nat.le_of_ble_eq_true rfl) hl.1 ⟨Nat.le_of_ble_eq_true rfl, Nat.le_of_ble_eq_true rfl⟩ hW hP hD hS hA (fun u1 H locs hp hP7 hD7 hS => ?_)
  obtain rfl : u1 0 = q1 := hp
  have hP : va_P D vwCl ([(h0, .inr (3, [.null, .null, .null, .int 0, .int 0, .int 0, .int 0]))] ++ rowB cA 160 u1) H := hP7
  have hD : va_D A ([(h0, .inr (3, [.null, .null, .null, .int 0, .int 0, .int 0, .int 0]))] ++ rowB cA 160 u1) := hD7
  refine va_putF (D := D) (tys := kTys cA) (ci := 3) (v := .ref (u1 0)) (ty := tyX3 0) (C := RX3) (T := TX3) (N := 7) hx hb hts win3 tyX3 tyX3_ok nmX3 hown hW.1 hP hD hS 0 rfl rfl 0 (by decide) (hts _ wk130) (fun _ h9 => h9) rfl hin rfl (tyX3_ok 0 (by decide)) rfl rfl (Nat.le_of_ble_eq_true rfl) dX3_init_15 (fun H locs hP hD hS => ?_)
  have hP : va_P D vwCl ([(h0, .inr (3, [.ref (u1 0), .null, .null, .int 0, .int 0, .int 0, .int 0]))] ++ rowB cA 160 u1) H := hP
  have hD : va_D A ([(h0, .inr (3, [.ref (u1 0), .null, .null, .int 0, .int 0, .int 0, .int 0]))] ++ rowB cA 160 u1) := hD
  refine lv_aload_n hx hb dX3_init_18 rfl (lv_at hl 0 rfl) ?_
  refine va_new (D := D) (tys := kTys cA) (ci := 5) (fs := [.null]) (C := RX5) (T := TX5) (N := 1) hx hb hts win5 tyX5 tyX5_ok hown (hts _ wk128) (hts _ wk34) (hts _ wk3) hW.1 hP hD hS hA rfl (fun j hj => by rcases (show j = 0 by omega) with rfl <;> rfl) (Nat.le_of_ble_eq_true rfl) (Nat.le_of_ble_eq_true rfl) dX3_init_19 (fun q2 H hP hD hS => ?_)
  have hP : va_P D vwCl ([(h0, .inr (3, [.ref (u1 0), .null, .null, .int 0, .int 0, .int 0, .int 0]))] ++ rowB cA 160 u1 ++ [(q2, .inr (5, [.null]))]) H := hP
  have hD : va_D A ([(h0, .inr (3, [.ref (u1 0), .null, .null, .int 0, .int 0, .int 0, .int 0]))] ++ rowB cA 160 u1 ++ [(q2, .inr (5, [.null]))]) := hD
  refine lv_dup hx hb dX3_init_22 rfl ?_
  refine lv_bipush (v := nI 12) hx hb dX3_init_23 (by decide) ?_
  refine kcallI (rest := [.ref q2, .ref h0]) F (k_X5 l D cA 12 (by omega) (by omega)) dX3_init_25 wk129 wk36 wk3 wk37 rfl (n := 1) ⟨by decide, by decide, by decide +kernel⟩ ⟨Nat.le_of_ble_eq_true rfl, Nat.le_of_ble_eq_true rfl⟩ rfl rfl (Nat.le_of_ble_eq_true rfl) hl.1 ⟨Nat.le_of_ble_eq_true rfl, Nat.le_of_ble_eq_true rfl⟩ hW hP hD hS hA (fun u2 H locs hp hP7 hD7 hS => ?_)
  obtain rfl : u2 0 = q2 := hp
  have hP : va_P D vwCl ([(h0, .inr (3, [.ref (u1 0), .null, .null, .int 0, .int 0, .int 0, .int 0]))] ++ rowB cA 160 u1 ++ rowB cA 12 u2) H := hP7
  have hD : va_D A ([(h0, .inr (3, [.ref (u1 0), .null, .null, .int 0, .int 0, .int 0, .int 0]))] ++ rowB cA 160 u1 ++ rowB cA 12 u2) := hD7
  refine va_putF (D := D) (tys := kTys cA) (ci := 3) (v := .ref (u2 0)) (ty := tyX3 1) (C := RX3) (T := TX3) (N := 7) hx hb hts win3 tyX3 tyX3_ok nmX3 hown hW.1 hP hD hS 0 rfl rfl 1 (by decide) (hts _ wk131) (fun _ h9 => h9) rfl hin rfl (tyX3_ok 1 (by decide)) rfl rfl (Nat.le_of_ble_eq_true rfl) dX3_init_28 (fun H locs hP hD hS => ?_)
  have hP : va_P D vwCl ([(h0, .inr (3, [.ref (u1 0), .ref (u2 0), .null, .int 0, .int 0, .int 0, .int 0]))] ++ rowB cA 160 u1 ++ rowB cA 12 u2) H := hP
  have hD : va_D A ([(h0, .inr (3, [.ref (u1 0), .ref (u2 0), .null, .int 0, .int 0, .int 0, .int 0]))] ++ rowB cA 160 u1 ++ rowB cA 12 u2) := hD
  refine lv_aload_n hx hb dX3_init_31 rfl (lv_at hl 0 rfl) ?_
  refine va_new (D := D) (tys := kTys cA) (ci := 5) (fs := [.null]) (C := RX5) (T := TX5) (N := 1) hx hb hts win5 tyX5 tyX5_ok hown (hts _ wk128) (hts _ wk34) (hts _ wk3) hW.1 hP hD hS hA rfl (fun j hj => by rcases (show j = 0 by omega) with rfl <;> rfl) (Nat.le_of_ble_eq_true rfl) (Nat.le_of_ble_eq_true rfl) dX3_init_32 (fun q3 H hP hD hS => ?_)
  have hP : va_P D vwCl ([(h0, .inr (3, [.ref (u1 0), .ref (u2 0), .null, .int 0, .int 0, .int 0, .int 0]))] ++ rowB cA 160 u1 ++ rowB cA 12 u2 ++ [(q3, .inr (5, [.null]))]) H := hP
  have hD : va_D A ([(h0, .inr (3, [.ref (u1 0), .ref (u2 0), .null, .int 0, .int 0, .int 0, .int 0]))] ++ rowB cA 160 u1 ++ rowB cA 12 u2 ++ [(q3, .inr (5, [.null]))]) := hD
  refine lv_dup hx hb dX3_init_35 rfl ?_
  refine lv_bipush (v := nI 12) hx hb dX3_init_36 (by decide) ?_
  refine kcallI (rest := [.ref q3, .ref h0]) F (k_X5 l D cA 12 (by omega) (by omega)) dX3_init_38 wk129 wk36 wk3 wk37 rfl (n := 1) ⟨by decide, by decide, by decide +kernel⟩ ⟨Nat.le_of_ble_eq_true rfl, Nat.le_of_ble_eq_true rfl⟩ rfl rfl (Nat.le_of_ble_eq_true rfl) hl.1 ⟨Nat.le_of_ble_eq_true rfl, Nat.le_of_ble_eq_true rfl⟩ hW hP hD hS hA (fun u3 H locs hp hP7 hD7 hS => ?_)
  obtain rfl : u3 0 = q3 := hp
  have hP : va_P D vwCl ([(h0, .inr (3, [.ref (u1 0), .ref (u2 0), .null, .int 0, .int 0, .int 0, .int 0]))] ++ rowB cA 160 u1 ++ rowB cA 12 u2 ++ rowB cA 12 u3) H := hP7
  have hD : va_D A ([(h0, .inr (3, [.ref (u1 0), .ref (u2 0), .null, .int 0, .int 0, .int 0, .int 0]))] ++ rowB cA 160 u1 ++ rowB cA 12 u2 ++ rowB cA 12 u3) := hD7
  refine va_putF (D := D) (tys := kTys cA) (ci := 3) (v := .ref (u3 0)) (ty := tyX3 2) (C := RX3) (T := TX3) (N := 7) hx hb hts win3 tyX3 tyX3_ok nmX3 hown hW.1 hP hD hS 0 rfl rfl 2 (by decide) (hts _ wk133) (fun _ h9 => h9) rfl hin rfl (tyX3_ok 2 (by decide)) rfl rfl (Nat.le_of_ble_eq_true rfl) dX3_init_41 (fun H locs hP hD hS => ?_)
  have hP : va_P D vwCl ([(h0, .inr (3, [.ref (u1 0), .ref (u2 0), .ref (u3 0), .int 0, .int 0, .int 0, .int 0]))] ++ rowB cA 160 u1 ++ rowB cA 12 u2 ++ rowB cA 12 u3) H := hP
  have hD : va_D A ([(h0, .inr (3, [.ref (u1 0), .ref (u2 0), .ref (u3 0), .int 0, .int 0, .int 0, .int 0]))] ++ rowB cA 160 u1 ++ rowB cA 12 u2 ++ rowB cA 12 u3) := hD
  refine W.widen (k := 6) (n := 187) (by first | omega | exact Nat.le_of_ble_eq_true rfl) (by first | omega | exact Nat.le_of_ble_eq_true rfl) ?_
  obtain ⟨γ, hγ⟩ : ∃ γ : Nat → Nat, γ = fun k => match k with | 0 => h0 | 1 => u1 0 | 2 => u1 1 | 3 => u2 0 | 4 => u2 1 | 5 => u3 0 | _ => u3 1 := ⟨_, rfl⟩
  have hP9 : va_P D vwCl (texB cA γ) H := by rw [hγ]; exact hP
  have hD9 : va_D A (texB cA γ) := by rw [hγ]; exact hD
  exact W.vret hx hb hr (fun t ht hW => ⟨⟨γ, rfl, (by rw [hγ] <;> rfl), by rw [ht]; exact hP9, hD9⟩, hS.F ht⟩) hS.2.2 dX3_init_44
set_option maxHeartbeats 4000000 in
set_option maxRecDepth 100000 in
/-- PageWriter() -/
theorem k_X4 (l : Launch) (D : va_G) (cA : Nat → ClassId) : kMet l D cA yX4_init cX4_init 1 [] 4 [.null, .int 0] 2 180 2 33 kN (fun _ => wriB cA) := by
  intro h0 sz
  unfold kQc
  refine Met.ofW (cc := cX4_init) (maxL := 1) (ret := none) (by decide) rfl ?_
  intro p e s m args below meth c s₁ B hml hv
  obtain ⟨rfl, hsz, hP, hW⟩ := hv
  have hts0 := atoms_spec (ws := Cond.code yX4_init cX4_init 1 none :: wsAll) B.pre
  have hts := fun w (hw : w ∈ wsAll) => hts0 w (List.mem_cons_of_mem _ hw)
  have hx := B.exec
  have hb := B.bytes
  have hr := B.returns
  have hown : s.vm.findClass RX4 = some m.cls := findClass_of_methodNamed B.named
  have hin : meth.name = "<init>" := (name_of_methodNamed B.named B.method).1
  subst hsz
  have hD : va_D (va_A [(h0, .inr (4, [.null, .int 0]))] s.heap.size) [(h0, .inr (4, [.null, .int 0]))] := va_D_one (va_A.in (k := 0) rfl)
  generalize hAe : va_A [(h0, .inr (4, [.null, .int 0]))] s.heap.size = A at hD ⊢
  have hA : ∀ q : Nat, s.heap.size ≤ q → A q := fun q h => by rw [← hAe]; exact Or.inr h
  have hS : va_S A s.heap s.heap [] := va_S.rf
  have hl := lv_entry ([.ref h0]) (n := 1) (Nat.le_of_ble_eq_true rfl)
  rw [lg_entry_eq]
  generalize (lg_sl ([.ref h0]) ++ List.replicate (1 - (lg_sl ([.ref h0])).length) Slot.unset).toArray = ls at hl ⊢
  have hl : lv_has ls 1 [(0, .ref h0)] := hl
  have F : CallFix p m c cX4_init 1 s _ wsAll RX4 := ⟨hx, hb, hml, hown, hts⟩
  refine lv_aload_n hx hb dX4_init_0 rfl (lv_at hl 0 rfl) ?_
  refine W.objInit hx hb hown (hts _ wk159) (hts _ wk25) (hts _ wk26) rfl (by rw [hml]; exact hl.1) rfl dX4_init_1 (Nat.le_of_ble_eq_true rfl) (Nat.le_of_ble_eq_true rfl) ?_
  refine W.eq (g2 := F0 m 4 ls []) rfl ?_
  refine lv_aload_n hx hb dX4_init_4 rfl (lv_at hl 0 rfl) ?_
  refine va_new (D := D) (tys := kTys cA) (ci := 5) (fs := [.null]) (C := RX5) (T := TX5) (N := 1) hx hb hts win5 tyX5 tyX5_ok hown (hts _ wk160) (hts _ wk34) (hts _ wk3) hW.1 hP hD hS hA rfl (fun j hj => by rcases (show j = 0 by omega) with rfl <;> rfl) (Nat.le_of_ble_eq_true rfl) (Nat.le_of_ble_eq_true rfl) dX4_init_5 (fun q1 H hP hD hS => ?_)
  have hP : va_P D vwCl ([(h0, .inr (4, [.null, .int 0]))] ++ [(q1, .inr (5, [.null]))]) H := hP
  have hD : va_D A ([(h0, .inr (4, [.null, .int 0]))] ++ [(q1, .inr (5, [.null]))]) := hD
  refine lv_dup hx hb dX4_init_8 rfl ?_
  refine lv_sipush (v := nI 179) hx hb dX4_init_9 (by decide) ?_
  refine kcallI (rest := [.ref q1, .ref h0]) F (k_X5 l D cA 179 (by omega) (by omega)) dX4_init_12 wk161 wk36 wk3 wk37 rfl (n := 1) ⟨by decide, by decide, by decide +kernel⟩ ⟨Nat.le_of_ble_eq_true rfl, Nat.le_of_ble_eq_true rfl⟩ rfl rfl (Nat.le_of_ble_eq_true rfl) hl.1 ⟨Nat.le_of_ble_eq_true rfl, Nat.le_of_ble_eq_true rfl⟩ hW hP hD hS hA (fun u1 H locs hp hP7 hD7 hS => ?_)
  obtain rfl : u1 0 = q1 := hp
  have hP : va_P D vwCl ([(h0, .inr (4, [.null, .int 0]))] ++ rowB cA 179 u1) H := hP7
  have hD : va_D A ([(h0, .inr (4, [.null, .int 0]))] ++ rowB cA 179 u1) := hD7
  refine va_putF (D := D) (tys := kTys cA) (ci := 4) (v := .ref (u1 0)) (ty := tyX4 0) (C := RX4) (T := TX4) (N := 2) hx hb hts win4 tyX4 tyX4_ok nmX4 hown hW.1 hP hD hS 0 rfl rfl 0 (by decide) (hts _ wk162) (fun _ h9 => h9) rfl hin rfl (tyX4_ok 0 (by decide)) rfl rfl (Nat.le_of_ble_eq_true rfl) dX4_init_15 (fun H locs hP hD hS => ?_)
  have hP : va_P D vwCl ([(h0, .inr (4, [.ref (u1 0), .int 0]))] ++ rowB cA 179 u1) H := hP
  have hD : va_D A ([(h0, .inr (4, [.ref (u1 0), .int 0]))] ++ rowB cA 179 u1) := hD
  refine W.widen (k := 2) (n := 180) (by first | omega | exact Nat.le_of_ble_eq_true rfl) (by first | omega | exact Nat.le_of_ble_eq_true rfl) ?_
  obtain ⟨γ, hγ⟩ : ∃ γ : Nat → Nat, γ = fun k => match k with | 0 => h0 | 1 => u1 0 | _ => u1 1 := ⟨_, rfl⟩
  have hP9 : va_P D vwCl (wriB cA γ) H := by rw [hγ]; exact hP
  have hD9 : va_D A (wriB cA γ) := by rw [hγ]; exact hD
  exact W.vret hx hb hr (fun t ht hW => ⟨⟨γ, rfl, (by rw [hγ] <;> rfl), by rw [ht]; exact hP9, hD9⟩, hS.F ht⟩) hS.2.2 dX4_init_18
end P72
