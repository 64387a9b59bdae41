/-! ===== the law from its entry ===== -/
section P77
theorem wl19 : (Jvm.Cond.classLink "CodedColumnLaw" (8 : Nat) "CodedColumn") ∈ wsAll := wm_of 19 (by decide +kernel) (by decide +kernel)
theorem wl20 : (Jvm.Cond.instantiable "CodedColumn" (10 : Nat)) ∈ wsAll := wm_of 20 (by decide +kernel) (by decide +kernel)
theorem wl1 : (Jvm.Cond.initialized "CodedColumn") ∈ wsAll := wm_of 1 (by decide +kernel) (by decide +kernel)
theorem wl21 : (Jvm.Cond.methodLink "CodedColumnLaw" (93 : Nat) ({ cls := "CodedColumn", name := "<init>", desc := "()V" } : Jvm.MethodName)) ∈ wsAll := wm_of 21 (by decide +kernel) (by decide +kernel)
theorem wl22 : (Jvm.Cond.instanceMethod ({ cls := "CodedColumn", name := "<init>", desc := "()V" } : Jvm.MethodName)) ∈ wsAll := wm_of 22 (by decide +kernel) (by decide +kernel)
theorem wl23 : (Jvm.Cond.code ({ cls := "CodedColumn", name := "<init>", desc := "()V" } : Jvm.MethodName) prog_1_method_1_code (1 : Nat) (Option.none : Option Jvm.ClassFile.FieldType)) ∈ wsAll := wm_of 23 (by decide +kernel) (by decide +kernel)
theorem wl1004 : (Jvm.Cond.classLink "CodedColumnLaw" (94 : Nat) "CodedColumnModel") ∈ wsAll := wm_of 1011 (by decide +kernel) (by decide +kernel)
theorem wl1005 : (Jvm.Cond.instantiable "CodedColumnModel" (17 : Nat)) ∈ wsAll := wm_of 1012 (by decide +kernel) (by decide +kernel)
theorem wl10 : (Jvm.Cond.initialized "CodedColumnModel") ∈ wsAll := wm_of 10 (by decide +kernel) (by decide +kernel)
theorem wl1006 : (Jvm.Cond.methodLink "CodedColumnLaw" (96 : Nat) ({ cls := "CodedColumnModel", name := "<init>", desc := "()V" } : Jvm.MethodName)) ∈ wsAll := wm_of 1013 (by decide +kernel) (by decide +kernel)
theorem wl1007 : (Jvm.Cond.instanceMethod ({ cls := "CodedColumnModel", name := "<init>", desc := "()V" } : Jvm.MethodName)) ∈ wsAll := wm_of 1014 (by decide +kernel) (by decide +kernel)
theorem wl1008 : (Jvm.Cond.code ({ cls := "CodedColumnModel", name := "<init>", desc := "()V" } : Jvm.MethodName) prog_11_method_1_code (1 : Nat) (Option.none : Option Jvm.ClassFile.FieldType)) ∈ wsAll := wm_of 1015 (by decide +kernel) (by decide +kernel)
theorem wl1360 : (Jvm.Cond.arrayClass Jvm.ClassFile.FieldType.long) ∈ wsAll := wm_of 1367 (by decide +kernel) (by decide +kernel)
theorem wl43 : (Jvm.Cond.arrayClass Jvm.ClassFile.FieldType.int) ∈ wsAll := wm_of 43 (by decide +kernel) (by decide +kernel)
theorem wl1062 : (Jvm.Cond.arrayClass Jvm.ClassFile.FieldType.boolean) ∈ wsAll := wm_of 1069 (by decide +kernel) (by decide +kernel)
theorem wl_all : ∀ w ∈ wsAll, w ∈ lw_tbl := fun w h => (List.mem_filter.mp h).1
theorem wl_tab {w : Cond} (i : Nat) (h : tables_1[i]? = some w) : w ∈ lw_tbl := List.mem_append_right _ (List.mem_of_getElem? h)
theorem wl_nest : ∀ w ∈ xNest, w ∈ lw_tbl := by decide +kernel
theorem wl_strs : ∀ q ∈ xStrs, Cond.stringRef q.1 q.2.1 q.2.2 ∈ lw_tbl := by decide +kernel
theorem wl_own : ∀ q ∈ xStrs, q.1 = RX8 := by decide +kernel
theorem wl_ncs : ∀ q ∈ xNcs, Cond.not (.castable q.1 q.2) ∈ flatC (Jvm.Cond.and given_1 narrow_1) := by decide +kernel
theorem k_arr {s : State} {args : Array Value} {ty : FieldType} (h : (Cond.arrayClass ty).before args s = true) : ∃ c : ClassId, ArrOfT s c ty ∧ s.vm.findClass ("[" ++ ty.toString) = some c := by
  obtain ⟨c, kA, comp, h1, h2, h3⟩ := Cond.arrayClass_spec h
  exact ⟨c, fun n z => ⟨fun k h => (by cases h), kA, h2, comp, h3⟩, h1⟩
theorem k_arrQ {s : State} {args : Array Value} {C : String} (h : (Cond.arrayOver (.object C)).before args s = true) : ∃ c : ClassId, ArrOfT s c (.object C) ∧ va_RA s c (.object C) := by
  obtain ⟨comp, c, k, h1, h2, h3, h4, h5⟩ := Cond.arrayOver_spec h
  exact ⟨c, fun n z => ⟨fun k h => (by cases h), k, h3, comp, h4⟩, k, comp, h3, h4, h1, h5⟩
set_option maxHeartbeats 4000000 in
set_option maxRecDepth 100000 in
/-- the classes' places and slots, the arrays' classes -/
theorem k_world {s : State} {args : Array Value} (hts : ∀ w ∈ lw_tbl, w.before args s = true) : ∃ (D : va_G) (cA : Nat → ClassId), kW D cA s := by
  have ht := fun w (hw : w ∈ wsAll) => hts w (wl_all w hw)
  obtain ⟨c0, i0, n0⟩ := u_known (C := RX0) (T := TX0) (N := 7) (n := 7) ht win0 (hts _ (wl_tab 28 (by decide +kernel)))
  obtain ⟨c1, i1, n1⟩ := u_known (C := RX1) (T := TX1) (N := 3) (n := 3) ht win1 (hts _ (wl_tab 172 (by decide +kernel)))
  obtain ⟨c2, i2, n2⟩ := u_known (C := RX2) (T := TX2) (N := 10) (n := 10) ht win2 (hts _ (wl_tab 45 (by decide +kernel)))
  obtain ⟨c3, i3, n3⟩ := u_known (C := RX3) (T := TX3) (N := 7) (n := 7) ht win3 (hts _ (wl_tab 123 (by decide +kernel)))
  obtain ⟨c4, i4, n4⟩ := u_known (C := RX4) (T := TX4) (N := 2) (n := 2) ht win4 (hts _ (wl_tab 155 (by decide +kernel)))
  obtain ⟨c5, i5, n5⟩ := u_known (C := RX5) (T := TX5) (N := 1) (n := 1) ht win5 (hts _ (wl_tab 34 (by decide +kernel)))
  obtain ⟨c6, i6, n6⟩ := u_known (C := RX6) (T := TX6) (N := 1) (n := 1) ht win6 (hts _ (wl_tab 209 (by decide +kernel)))
  obtain ⟨c7, i7, n7⟩ := u_known (C := RX7) (T := TX7) (N := 2) (n := 2) ht win7 (hts _ (wl_tab 178 (by decide +kernel)))
  obtain ⟨c8, i8, n8⟩ := u_known (C := RX8) (T := TX8) (N := 10) (n := 10) ht win8 (hts _ (wl_tab 20 (by decide +kernel)))
  obtain ⟨c9, i9, n9⟩ := u_known (C := RX9) (T := TX9) (N := 17) (n := 17) ht win9 (hts _ (wl_tab 1012 (by decide +kernel)))
  obtain ⟨a0, b0, e0⟩ := k_arr (ht _ wl43)
  obtain ⟨a1, b1, e1⟩ := k_arr (ht _ wl1062)
  obtain ⟨a2, b2, e2⟩ := k_arr (ht _ wl1360)
  obtain ⟨a3, b3, e3⟩ := k_arrQ (C := RX0) (hts _ (wl_tab 184 (by decide +kernel)))
  refine ⟨(fun k => match k with | 0 => c0 | 1 => c1 | 2 => c2 | 3 => c3 | 4 => c4 | 5 => c5 | 6 => c6 | 7 => c7 | 8 => c8 | _ => c9, fun k => match k with | 0 => i0 | 1 => i1 | 2 => i2 | 3 => i3 | 4 => i4 | 5 => i5 | 6 => i6 | 7 => i7 | 8 => i8 | _ => i9), fun k => match k with | 0 => a0 | 1 => a1 | 2 => a2 | _ => a3, ⟨fun k q hq => ?_, fun k q hq => ?_⟩, fun w hw => va_Nw.of (xNw_on (xNest_ok w hw)) (hts w (wl_nest w hw)), va_AO.of (C := RX0) (hts _ (wl_tab 184 (by decide +kernel)))⟩
  · match k, hq with
    | 0, hq => cases hq; exact n0
    | 1, hq => cases hq; exact n1
    | 2, hq => cases hq; exact n2
    | 3, hq => cases hq; exact n3
    | 4, hq => cases hq; exact n4
    | 5, hq => cases hq; exact n5
    | 6, hq => cases hq; exact n6
    | 7, hq => cases hq; exact n7
    | 8, hq => cases hq; exact n8
    | 9, hq => cases hq; exact n9
    | k + 10, hq => simp [vwCl] at hq
  · match k, hq with
    | 0, hq => cases hq; exact ⟨b0, e0⟩
    | 1, hq => cases hq; exact ⟨b1, e1⟩
    | 2, hq => cases hq; exact ⟨b2, e2⟩
    | 3, hq => cases hq; exact ⟨b3, e3⟩
    | k + 4, hq => simp [kTys] at hq
set_option maxHeartbeats 4000000 in
set_option maxRecDepth 100000 in
theorem k_xW {s : State} {args : Array Value} {D : va_G} {cA γc : Nat → ClassId} {γ : Nat → Nat} (hts : ∀ w ∈ lw_tbl, w.before args s = true) (hgv : (Jvm.Cond.and given_1 narrow_1).before args s = true) (hW : kW D cA s) : xWx (D, γ, cA, s.heap.size) s := by
  have hs := flat_of_before _ hgv
  have hA : ∀ a : Nat, a < s.heap.size → ¬ xA (D, γ, cA, s.heap.size) a := fun a h h2 => absurd h (Nat.not_lt.mpr h2)
  have hfc : s.vm.findClass RX8 = some (D.1 8) := (hW.1.1 8 _ rfl).2.1
  refine ⟨⟨hW.1, hW.2.1, ?_, ?_, fun q hq => ?_⟩, fun q hq => va_Nc.of (hs _ (wl_ncs q hq))⟩
  · exact vx_Zqof (hts _ (wl_tab 482 (by decide +kernel))) (hts _ (wl_tab 11 (by decide +kernel))) (hs _ (by decide +kernel)) hA
  · exact vx_Zqof (hts _ (wl_tab 484 (by decide +kernel))) (hts _ (wl_tab 11 (by decide +kernel))) (hs _ (by decide +kernel)) hA
  · have h1 := hts _ (wl_strs q hq)
    have h2 : s.vm.findClass q.1 = some (D.1 8) := by rw [wl_own q hq]; exact hfc
    obtain ⟨k, cf, i, a, hk, hcf, hcp, -, hr, hev⟩ := Cond.stringRef_spec h2 h1
    exact ⟨a, vk_R.of h1 hev⟩
set_option maxHeartbeats 4000000 in
set_option maxRecDepth 100000 in
/-- THE LAW, from its entry -/
theorem whole_start {p : Program} {e : Env} {s : State} {m : MethodId} {below : List Frame} {meth : Method} {c : Code} (l : Launch) (hflags : l.flags = flags0) {b L : Nat} {xs : Nat → Int32} (hL : L ≤ 2048) (C0 : lw_At p s m meth c b L xs) : W p l e room_1 s m #[Value.ref b] below meth c s.heap [] 0 0 (lw_Z below #[Value.ref b] s) (entryFrame m ([Value.ref b] : List Value).toArray 7) := by
  obtain ⟨hx, hb, hrt, hml, hown0, hts0, hX, hbl, hlk, hgv⟩ := id C0
  have hts := fun w (hw : w ∈ wsAll) => hts0 w (wl_all w hw)
  have hown : s.vm.findClass RL = some m.cls := hown0
  have hfl : l.stackTraces = false := by
    unfold Launch.stackTraces
    rw [hflags]
    decide +kernel
  obtain ⟨D, cA, hW⟩ := k_world hts0
  obtain ⟨A, hAe⟩ : ∃ A : Nat → Prop, A = fun q => s.heap.size ≤ q := ⟨_, rfl⟩
  have hA : ∀ q : Nat, s.heap.size ≤ q → A q := fun q h => by rw [hAe]; exact h
  have hS : va_S A s.heap s.heap [] := va_S.rf
  have hP : va_P D vwCl [] s.heap := fun k q h => by simp at h
  have hD : va_D A [] := ⟨fun i j p q h => by simp at h, fun k q h => by simp at h⟩
  have hl := lv_entry ([.ref b]) (n := 7) (Nat.le_of_ble_eq_true rfl)
  rw [lg_entry_eq]
  generalize (lg_sl ([.ref b]) ++ List.replicate (7 - (lg_sl ([.ref b])).length) Slot.unset).toArray = ls at hl ⊢
  have hl : lv_has ls 7 [(0, .ref b)] := hl
  have F : CallFix p m c cL_law 7 s _ wsAll RL := ⟨hx, hb, hml, hown, hts⟩
  refine va_new (D := D) (tys := kTys cA) (ci := 8) (fs := [.null, .null, .null, .null, .null, .null, .null, .null, .null, .null]) (C := RX8) (T := TX8) (N := 10) hx hb hts win8 tyX8 tyX8_ok hown (hts _ wl19) (hts _ wl20) (hts _ wl1) hW.1 hP hD hS hA rfl (fun j hj => by rcases (show j = 0 ∨ j = 1 ∨ j = 2 ∨ j = 3 ∨ j = 4 ∨ j = 5 ∨ j = 6 ∨ j = 7 ∨ j = 8 ∨ j = 9 by omega) with rfl | rfl | rfl | rfl | rfl | rfl | rfl | rfl | rfl | rfl <;> rfl) (Nat.le_of_ble_eq_true rfl) (Nat.le_of_ble_eq_true rfl) dL_law_0 (fun q1 H hP hD hS => ?_)
  have hP : va_P D vwCl ([] ++ [(q1, .inr (8, [.null, .null, .null, .null, .null, .null, .null, .null, .null, .null]))]) H := hP
  have hD : va_D A ([] ++ [(q1, .inr (8, [.null, .null, .null, .null, .null, .null, .null, .null, .null, .null]))]) := hD
  refine lv_dup hx hb dL_law_3 rfl ?_
  refine kcallI (ws := []) (rest := [.ref q1]) F (k_X8 l D cA) dL_law_4 wl21 wl22 wl1 wl23 rfl (n := 0) ⟨by decide, by decide, by decide +kernel⟩ ⟨Nat.le_of_ble_eq_true rfl, Nat.le_of_ble_eq_true rfl⟩ rfl rfl (Nat.le_of_ble_eq_true rfl) hl.1 ⟨Nat.le_of_ble_eq_true rfl, Nat.le_of_ble_eq_true rfl⟩ hW hP hD hS hA (fun Γ H locs hp hP7 hD7 hS => ?_)
  obtain rfl : Γ 0 0 = q1 := hp
  have hP : va_P D vwCl (ccB cA Γ) H := hP7
  have hD : va_D A (ccB cA Γ) := hD7
  refine lv_astore_n (lv' := [(1, .ref (Γ 0 0)), (0, .ref b)]) hx hb dL_law_7 rfl hl (by decide) rfl (fun ls hl => ?_)
  refine va_new (D := D) (tys := kTys cA) (ci := 9) (fs := [.int 0, .null, .int 0, .int 0, .null, .null, .null, .null, .int 0, .null, .null, .null, .int 0, .null, .null, .int 0, .null]) (C := RX9) (T := TX9) (N := 17) hx hb hts win9 tyX9 tyX9_ok hown (hts _ wl1004) (hts _ wl1005) (hts _ wl10) hW.1 hP hD hS hA rfl (fun j hj => by rcases (show j = 0 ∨ j = 1 ∨ j = 2 ∨ j = 3 ∨ j = 4 ∨ j = 5 ∨ j = 6 ∨ j = 7 ∨ j = 8 ∨ j = 9 ∨ j = 10 ∨ j = 11 ∨ j = 12 ∨ j = 13 ∨ j = 14 ∨ j = 15 ∨ j = 16 by omega) with rfl | rfl | rfl | rfl | rfl | rfl | rfl | rfl | rfl | rfl | rfl | rfl | rfl | rfl | rfl | rfl | rfl <;> rfl) (Nat.le_of_ble_eq_true rfl) (Nat.le_of_ble_eq_true rfl) dL_law_8 (fun q2 H hP hD hS => ?_)
  have hP : va_P D vwCl (ccB cA Γ ++ [(q2, .inr (9, [.int 0, .null, .int 0, .int 0, .null, .null, .null, .null, .int 0, .null, .null, .null, .int 0, .null, .null, .int 0, .null]))]) H := hP
  have hD : va_D A (ccB cA Γ ++ [(q2, .inr (9, [.int 0, .null, .int 0, .int 0, .null, .null, .null, .null, .int 0, .null, .null, .null, .int 0, .null, .null, .int 0, .null]))]) := hD
  refine lv_dup hx hb dL_law_11 rfl ?_
  refine kcallI (ws := ccB cA Γ) (rest := [.ref q2]) F (k_X9 l D cA) dL_law_12 wl1006 wl1007 wl10 wl1008 rfl (n := 0) ⟨by decide, by decide, by decide +kernel⟩ ⟨Nat.le_of_ble_eq_true rfl, Nat.le_of_ble_eq_true rfl⟩ rfl rfl (Nat.le_of_ble_eq_true rfl) hl.1 ⟨Nat.le_of_ble_eq_true rfl, Nat.le_of_ble_eq_true rfl⟩ hW hP hD hS hA (fun μ H locs hp hP7 hD7 hS => ?_)
  obtain rfl : μ 0 = q2 := hp
  have hP : va_P D vwCl (ccB cA Γ ++ modB cA μ) H := hP7
  have hD : va_D A (ccB cA Γ ++ modB cA μ) := hD7
  refine lv_astore_n (lv' := [(2, .ref (μ 0)), (1, .ref (Γ 0 0)), (0, .ref b)]) hx hb dL_law_15 rfl hl (by decide) rfl (fun ls hl => ?_)
  refine lv_iconst (v := nI 1) hx hb dL_law_16 (by decide) ?_
  refine knewJ (n := 1) (D := D) (cA := cA) hx hb hts wl1360 hW hP hD hS hA (by omega) (Nat.le_of_ble_eq_true rfl) (Nat.le_of_ble_eq_true rfl) dL_law_17 (fun q H hP hD hS => ?_)
  refine lv_astore_n (lv' := [(3, .ref q), (2, .ref (μ 0)), (1, .ref (Γ 0 0)), (0, .ref b)]) hx hb dL_law_19 rfl hl (by decide) rfl (fun ls hl => ?_)
  refine lv_iconst (v := nI 0) hx hb dL_law_20 (by decide) ?_
  refine lv_istore (lv' := [(4, .int (nI 0)), (3, .ref q), (2, .ref (μ 0)), (1, .ref (Γ 0 0)), (0, .ref b)]) hx hb dL_law_21 hl (by decide) rfl (fun ls hl => ?_)
  refine W.widen (k := 1000 + 0) (n := 100000 + 6 * 0) (Nat.le_of_ble_eq_true rfl) (Nat.le_of_ble_eq_true rfl) ?_
  have hP : va_P D vwCl (allB cA Γ μ q) H := hP
  have hD : va_D A (allB cA Γ μ q) := hD
  obtain ⟨g, hg⟩ : ∃ g : xG, g = (D, gam Γ μ q, cA, s.heap.size) := ⟨_, rfl⟩
  have hAg : A = xA g := by rw [hAe, hg]; rfl
  rw [hAg] at hD hS
  have hr : xRep g s I0 H locs := ⟨by rw [hg]; exact wp_P hP, by rw [hg] at hD ⊢; exact wp_D hD, hS⟩
  have e0 : g.2.1 0 = Γ 0 0 := by rw [hg]; rfl
  have e1 : g.2.1 189 = μ 0 := by rw [hg]; rfl
  have e2 : g.2.1 201 = q := by rw [hg]; rfl
  have hz : g.2.2.2 = s.heap.size := by rw [hg]
  have hWx : xWx g s := by rw [hg]; exact k_xW (γc := cA) hts0 hgv hW
  have hbA : ¬ xA g b := fun h => by
    have h2 : g.2.2.2 ≤ b := h
    rw [hz] at h2
    omega
  have hl : lv_has ls 7 (lvC g b 0) := by
    unfold lvC
    rw [e0, e1, e2]
    exact lv_sub hl [4, 3, 2, 1, 0] rfl
  exact law_loop hfl ⟨hx, hb, hml, hown, hts, hWx, Nat.le_of_eq hz⟩ hX hbl hbA hL hrt hlk hz 513 0 I0 α0 H locs ls (Nat.zero_le _) (by omega) cInv0 mInv0 hr hl
end P77
