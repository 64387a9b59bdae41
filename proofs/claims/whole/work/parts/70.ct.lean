/-! ===== constructors: what is the same in all of them ===== -/
section P70
abbrev kTys (cA : Nat → ClassId) : List (ClassId × FieldType) := [(cA 0, .int), (cA 1, .boolean), (cA 2, .long), (cA 3, .object RX0)]
def kW (D : va_G) (cA : Nat → ClassId) (U : State) : Prop := va_K D vwCl (kTys cA) U ∧ (∀ w ∈ xNest, va_Nw w U) ∧ va_AO RX0 U
theorem kW_go {D : va_G} {cA : Nat → ClassId} {s U : State} (h : kW D cA s) (hW : s.WarmedH U.vm) : kW D cA U := ⟨va_K.moved hW.alike h.1, fun w hw => xNw_warm (xNest_ok w hw) hW (h.2.1 w hw), va_AO.moved hW.alike h.2.2⟩
theorem kW_blind {D : va_G} {cA : Nat → ClassId} {U : State} (f : JFrame) (mk : MethodId) (a : Array Value) (h : kW D cA U) : kW D cA (U.calling f mk a) := kW_go h (State.WarmedH.refl U : U.WarmedH (U.calling f mk a).vm)
def kPc (D : va_G) (cA : Nat → ClassId) (vs : List Value) (h0 ci : Nat) (fs : List Value) (sz : Nat) : Array Value → State → Prop := va_Pc vs (fun U => U.heap.size = sz ∧ va_P D vwCl [(h0, .inr (ci, fs))] U.heap ∧ kW D cA U)
theorem kPc_blind {D : va_G} {cA : Nat → ClassId} {vs : List Value} {h0 ci : Nat} {fs : List Value} {sz : Nat} : FrameBlind (kPc D cA vs h0 ci fs sz) := fun a U f mk q => ⟨q.1, q.2.1, q.2.2.1, kW_blind f mk a q.2.2.2⟩
def kQc (D : va_G) (h0 ci : Nat) (fs : List Value) (sz : Nat) {S : Type} (post : Nat → S → Prop) (blk : Nat → S → va_W) : Array Value → State → Outcome → State → Prop := va_Qv (fun u : S => post h0 u) (fun u t => va_P D vwCl (blk h0 u) t.heap ∧ va_D (va_A [(h0, .inr (ci, fs))] sz) (blk h0 u)) (va_A [(h0, .inr (ci, fs))] sz)
/-- a constructor: its object, with these fields, becomes this block of cells -/
def kMet (l : Launch) (D : va_G) (cA : Nat → ClassId) (y : MethodName) (cy : ByteArray) (nL : Nat) (As : List Value) (ci : Nat) (fs : List Value) (mc ms fr lo : Nat) {S : Type} (post : Nat → S → Prop) (blk : Nat → S → va_W) : Prop := ∀ h0 sz : Nat, Met l y (Cond.code y cy nL none :: wsAll) { frames := fr, cells := mc, slots := ms, locals := lo } (kPc D cA (.ref h0 :: As) h0 ci fs sz) (kQc D h0 ci fs sz post blk) mc ms (va_A [(h0, .inr (ci, fs))] sz)
theorem va_D_one {A : Nat → Prop} {q : Nat × va_E} (h : A q.1) : va_D A [q] := ⟨fun i j x y hi hj _ => by
  have h1 : i < 1 := (List.getElem?_eq_some_iff.mp hi).1
  have h2 : j < 1 := (List.getElem?_eq_some_iff.mp hj).1
  omega, fun k x hk => by
  have h1 : k < 1 := (List.getElem?_eq_some_iff.mp hk).1
  rw [show k = 0 by omega] at hk
  cases hk
  exact h⟩
theorem last_get {ws : va_W} {x : Nat × va_E} : (ws ++ [x])[ws.length]? = some x := by simp
theorem last_C {ws : va_W} {x : Nat × va_E} : [ws.length].map (fun i => (ws ++ [x])[i]?) = [x].map some := by simp
theorem last_R {ws : va_W} {x : Nat × va_E} : (List.range ws.length).map (fun i => (ws ++ [x])[i]?) = ws.map some := by
  apply List.ext_getElem?
  intro i
  by_cases h : i < ws.length
  · rw [List.getElem?_map, List.getElem?_range h, List.getElem?_map, Option.map_some, List.getElem?_append_left h]
    cases hq : ws[i]? with
    | none => rw [List.getElem?_eq_none_iff] at hq; omega
    | some v => rfl
  · rw [List.getElem?_eq_none (by simp; omega), List.getElem?_eq_none (by simp; omega)]
theorem range_nd' : ∀ (n k : Nat), va_nd (List.range' k n) = true
  | 0, _ => rfl
  | n + 1, k => by
    rw [List.range'_succ]
    simp only [va_nd, Bool.and_eq_true, decide_eq_true_eq]
    refine ⟨fun h => ?_, range_nd' n (k + 1)⟩
    have := List.mem_range'_1.mp h
    omega
theorem range_nd (n : Nat) : va_nd (List.range n) = true := by
  rw [List.range_eq_range']
  exact range_nd' n 0
section P70V
variable {p : Program} {l : Launch} {e : Env} {R : Room} {s : State} {m : MethodId} {args : Array Value} {below : List Frame} {meth : Method} {c : Code} {H : Heap} {locs : List Loc} {cells slots : Nat} {Q : State → Prop} {cc : ByteArray} {pc : Nat} {ls : Array Slot} {D : va_G} {cA : Nat → ClassId} {A : Nat → Prop} {own : String} {nL : Nat}
/-- behind a constructor's call -/
theorem kcall_b {S : Type} {post : Nat → S → Prop} {blk : Nat → S → va_W} {ci q mc ms : Nat} {fs st0 rest : List Value} {ws : va_W} {a : Array Value} (hr : va_Run p l e R s m args below meth c H locs cells slots mc ms (F0 m pc ls st0) rest (kQc D q ci fs H.size post blk a) (va_A [(q, .inr (ci, fs))] H.size)) (hP : va_P D vwCl (ws ++ [(q, .inr (ci, fs))]) H) (hD : va_D A (ws ++ [(q, .inr (ci, fs))])) (hS : va_S A s.heap H locs) (hA : ∀ x, s.heap.size ≤ x → A x)
    (kk : ∀ (u : S) (H1 : Heap) (locs1 : List Loc), post q u → va_P D vwCl (ws ++ blk q u) H1 → va_D A (ws ++ blk q u) → va_S A s.heap H1 locs1 → W p l e R s m args below meth c H1 locs1 (cells + mc) (slots + ms) Q (F0 m (pc + 3) ls rest)) : W p l e R s m args below meth c H locs cells slots Q (F0 m pc ls st0) := by
  have hF : ∀ x, va_A [(q, .inr (ci, fs))] H.size x → A x := va_free (wc := [(q, .inr (ci, fs))]) hD hS hA [ws.length] last_C
  refine va_callv hr hS (fun x _ h => hF x h) hF (fun u t H1 locs1 ht hvm hp hB hz hk hS1 => ?_)
  obtain ⟨hP1, hD1⟩ := hB
  rw [ht] at hP1
  obtain ⟨hP2, hD2⟩ := va_join (wr := ws) (w1 := blk q u) hP hD [ws.length] (List.range ws.length) last_C last_R (range_nd _) (fun i hi h => by
    have := List.mem_range.mp hi
    simp only [List.mem_cons, List.not_mem_nil, or_false] at h
    omega) hk hF hP1 hD1
  exact kk u H1 locs1 hp hP2 hD2 hS1
theorem kpre {As : List Value} {q ci : Nat} {fs : List Value} {ws : va_W} (hW : kW D cA s) (hP : va_P D vwCl (ws ++ [(q, .inr (ci, fs))]) H) : PreS s H (kPc D cA (.ref q :: As) q ci fs H.size) (.ref q :: As) := ⟨kPc_blind, fun U hU hv => ⟨rfl, by rw [hU], fun k x hk => by
  have h1 : k < 1 := (List.getElem?_eq_some_iff.mp hk).1
  rw [show k = 0 by omega] at hk
  cases hk
  rw [hU]
  exact hP _ _ last_get, kW_go hW hv⟩⟩
/-- a constructor is called -/
theorem kcallI {S : Type} {post : Nat → S → Prop} {blk : Nat → S → va_W} {y : MethodName} {cy : ByteArray} {nY ci q mc ms fr lo idx n : Nat} {As fs st0 rest : List Value} {ws : va_W} (F : CallFix p m c cc nL s args wsAll own) (hM : kMet l D cA y cy nY As ci fs mc ms fr lo post blk) (hd : decode cc pc = .ok (.invokespecial idx, 3)) (w1 : Cond.methodLink own idx y ∈ wsAll) (w2 : Cond.instanceMethod y ∈ wsAll) (w4 : Cond.initialized y.cls ∈ wsAll) (w5 : Cond.code y cy nY none ∈ wsAll) (hy1 : y.name = "<init>") (hy : xDesc y n) (hR : fr + 1 ≤ R.frames ∧ 8 + (nY + 11) + lo ≤ R.locals)
    (hn : As.length = n) (hst : st0 = As.reverse ++ .ref q :: rest) (hcat : (rest.map fun v => v.category).sum ≤ 8) (hsz : ls.size = nL) (hf : cells + mc ≤ R.cells ∧ slots + ms ≤ R.slots) (hW : kW D cA s) (hP : va_P D vwCl (ws ++ [(q, .inr (ci, fs))]) H) (hD : va_D A (ws ++ [(q, .inr (ci, fs))])) (hS : va_S A s.heap H locs) (hA : ∀ x, s.heap.size ≤ x → A x)
    (kk : ∀ (u : S) (H1 : Heap) (locs1 : List Loc), post q u → va_P D vwCl (ws ++ blk q u) H1 → va_D A (ws ++ blk q u) → va_S A s.heap H1 locs1 → W p l e R s m args below meth c H1 locs1 (cells + mc) (slots + ms) Q (F0 m (pc + 3) ls rest)) : W p l e R s m args below meth c H locs cells slots Q (F0 m pc ls st0) :=
  kcall_b (va_runI (As := As) (rest := rest) (nL := nL) (n := n) F (hM q H.size) (cwI n F.2.2.2.2 (xgoodC w5) rfl rfl rfl (F.2.2.2.2 _ w4) (F.2.2.2.2 _ w1) (F.2.2.2.2 _ w2) hy1 hy hR) (kpre hW hP) rfl hn hsz hst (lv_room hcat) hd hf) hP hD hS hA kk
/-- a nest mate's -/
theorem kcallN {S : Type} {post : Nat → S → Prop} {blk : Nat → S → va_W} {y : MethodName} {cy : ByteArray} {nY ci q mc ms fr lo idx n : Nat} {host : String} {As fs st0 rest : List Value} {ws : va_W} (F : CallFix p m c cc nL s args wsAll own) (hM : kMet l D cA y cy nY As ci fs mc ms fr lo post blk) (hd : decode cc pc = .ok (.invokespecial idx, 3)) (w1 : Cond.methodLinkNest own idx y host ∈ xNest) (w2 : Cond.instanceMethod y ∈ wsAll) (w4 : Cond.initialized y.cls ∈ wsAll) (w5 : Cond.code y cy nY none ∈ wsAll) (hy1 : y.name = "<init>") (hy : xDesc y n) (hR : fr + 1 ≤ R.frames ∧ 8 + (nY + 11) + lo ≤ R.locals)
    (hn : As.length = n) (hst : st0 = As.reverse ++ .ref q :: rest) (hcat : (rest.map fun v => v.category).sum ≤ 8) (hsz : ls.size = nL) (hf : cells + mc ≤ R.cells ∧ slots + ms ≤ R.slots) (hW : kW D cA s) (hP : va_P D vwCl (ws ++ [(q, .inr (ci, fs))]) H) (hD : va_D A (ws ++ [(q, .inr (ci, fs))])) (hS : va_S A s.heap H locs) (hA : ∀ x, s.heap.size ≤ x → A x)
    (kk : ∀ (u : S) (H1 : Heap) (locs1 : List Loc), post q u → va_P D vwCl (ws ++ blk q u) H1 → va_D A (ws ++ blk q u) → va_S A s.heap H1 locs1 → W p l e R s m args below meth c H1 locs1 (cells + mc) (slots + ms) Q (F0 m (pc + 3) ls rest)) : W p l e R s m args below meth c H locs cells slots Q (F0 m pc ls st0) :=
  kcall_b (va_runIN (As := As) (rest := rest) (nL := nL) (n := n) (host := host) F (hM q H.size) ⟨va_cnB n F.2.2.2.2 (xgoodC w5) rfl rfl rfl (hW.2.1 _ w1) (F.2.2.2.2 _ w4) hy hR, hy1, F.2.2.2.2 _ w2⟩ (kpre hW hP) rfl hn hsz hst (lv_room hcat) hd hf) hP hD hS hA kk
/-- an array of numbers is made: its class is the one of the tables -/
theorem knewI {n : Nat} {rest : List Value} {ws : va_W} (hx : p.tables.exec = Jvm.exec) (hb : c.code = cc) (hts : ∀ w ∈ wsAll, w.before args s = true) (hw : Cond.arrayClass .int ∈ wsAll) (hW : kW D cA s) (hP : va_P D vwCl ws H) (hD : va_D A ws) (hS : va_S A s.heap H locs) (hA : ∀ x, s.heap.size ≤ x → A x) (hn : n < 100000) (hcells : cells + 1 ≤ R.cells) (hslots : slots + n ≤ R.slots) (hd : decode cc pc = .ok (.newarray .int, 2))
    (kk : ∀ (q : Nat) (H1 : Heap), va_P D vwCl (ws ++ [(q, .inl (cA 0, n, .inl (fun _ => 0)))]) H1 → va_D A (ws ++ [(q, .inl (cA 0, n, .inl (fun _ => 0)))]) → va_S A s.heap H1 locs → W p l e R s m args below meth c H1 locs (cells + 1) (slots + n) Q (F0 m (pc + 2) ls (.ref q :: rest))) : W p l e R s m args below meth c H locs cells slots Q (F0 m pc ls (.int (nI n) :: rest)) := by
  refine va_newa (atype := .int) (ty := .int) (N' := n) (a0 := (n, .inl (fun _ => 0))) hx hb (hts _ hw) rfl hW.1 hP hD hS hA (fun cA => rfl) (nI_pos (by omega)) (nI_clamp (by omega)) (by show n * 4 ≤ _; omega) hcells hslots hd (fun q cB H1 hK1 hP1 hD1 hS1 => ?_)
  have e1 : s.vm.findClass ("[" ++ FieldType.int.toString) = some (cA 0) := (hW.1.2 0 _ rfl).2
  have e2 : s.vm.findClass ("[" ++ FieldType.int.toString) = some cB := (hK1.2 4 _ rfl).2
  have e3 : cB = cA 0 := Option.some.inj (e2.symm.trans e1)
  subst e3
  exact kk q H1 hP1 hD1 hS1
theorem knewZ {n : Nat} {rest : List Value} {ws : va_W} (hx : p.tables.exec = Jvm.exec) (hb : c.code = cc) (hts : ∀ w ∈ wsAll, w.before args s = true) (hw : Cond.arrayClass .boolean ∈ wsAll) (hW : kW D cA s) (hP : va_P D vwCl ws H) (hD : va_D A ws) (hS : va_S A s.heap H locs) (hA : ∀ x, s.heap.size ≤ x → A x) (hn : n < 100000) (hcells : cells + 1 ≤ R.cells) (hslots : slots + n ≤ R.slots) (hd : decode cc pc = .ok (.newarray .boolean, 2))
    (kk : ∀ (q : Nat) (H1 : Heap), va_P D vwCl (ws ++ [(q, .inl (cA 1, n, .inl (fun _ => 0)))]) H1 → va_D A (ws ++ [(q, .inl (cA 1, n, .inl (fun _ => 0)))]) → va_S A s.heap H1 locs → W p l e R s m args below meth c H1 locs (cells + 1) (slots + n) Q (F0 m (pc + 2) ls (.ref q :: rest))) : W p l e R s m args below meth c H locs cells slots Q (F0 m pc ls (.int (nI n) :: rest)) := by
  refine va_newa (atype := .boolean) (ty := .boolean) (N' := n) (a0 := (n, .inl (fun _ => 0))) hx hb (hts _ hw) rfl hW.1 hP hD hS hA (fun cA => rfl) (nI_pos (by omega)) (nI_clamp (by omega)) (by show n * 1 ≤ _; omega) hcells hslots hd (fun q cB H1 hK1 hP1 hD1 hS1 => ?_)
  have e1 : s.vm.findClass ("[" ++ FieldType.boolean.toString) = some (cA 1) := (hW.1.2 1 _ rfl).2
  have e2 : s.vm.findClass ("[" ++ FieldType.boolean.toString) = some cB := (hK1.2 4 _ rfl).2
  have e3 : cB = cA 1 := Option.some.inj (e2.symm.trans e1)
  subst e3
  exact kk q H1 hP1 hD1 hS1
theorem knewJ {n : Nat} {rest : List Value} {ws : va_W} (hx : p.tables.exec = Jvm.exec) (hb : c.code = cc) (hts : ∀ w ∈ wsAll, w.before args s = true) (hw : Cond.arrayClass .long ∈ wsAll) (hW : kW D cA s) (hP : va_P D vwCl ws H) (hD : va_D A ws) (hS : va_S A s.heap H locs) (hA : ∀ x, s.heap.size ≤ x → A x) (hn : n < 100000) (hcells : cells + 1 ≤ R.cells) (hslots : slots + n ≤ R.slots) (hd : decode cc pc = .ok (.newarray .long, 2))
    (kk : ∀ (q : Nat) (H1 : Heap), va_P D vwCl (ws ++ [(q, .inl (cA 2, n, .inr (.inl (fun _ => 0))))]) H1 → va_D A (ws ++ [(q, .inl (cA 2, n, .inr (.inl (fun _ => 0))))]) → va_S A s.heap H1 locs → W p l e R s m args below meth c H1 locs (cells + 1) (slots + n) Q (F0 m (pc + 2) ls (.ref q :: rest))) : W p l e R s m args below meth c H locs cells slots Q (F0 m pc ls (.int (nI n) :: rest)) := by
  refine va_newa (atype := .long) (ty := .long) (N' := n) (a0 := (n, .inr (.inl (fun _ => 0)))) hx hb (hts _ hw) rfl hW.1 hP hD hS hA (fun cA => rfl) (nI_pos (by omega)) (nI_clamp (by omega)) (by show n * 8 ≤ _; omega) hcells hslots hd (fun q cB H1 hK1 hP1 hD1 hS1 => ?_)
  have e1 : s.vm.findClass ("[" ++ FieldType.long.toString) = some (cA 2) := (hW.1.2 2 _ rfl).2
  have e2 : s.vm.findClass ("[" ++ FieldType.long.toString) = some cB := (hK1.2 4 _ rfl).2
  have e3 : cB = cA 2 := Option.some.inj (e2.symm.trans e1)
  subst e3
  exact kk q H1 hP1 hD1 hS1
theorem knewQ {n idx : Nat} {rest : List Value} {ws : va_W} (hx : p.tables.exec = Jvm.exec) (hb : c.code = cc) (hown : s.vm.findClass own = some m.cls) (hts : ∀ w ∈ wsAll, w.before args s = true) (hw : Cond.classLink own idx RX0 ∈ wsAll) (hW : kW D cA s) (hP : va_P D vwCl ws H) (hD : va_D A ws) (hS : va_S A s.heap H locs) (hA : ∀ x, s.heap.size ≤ x → A x) (hn : n < 100000) (hcells : cells + 1 ≤ R.cells) (hslots : slots + n ≤ R.slots) (hd : decode cc pc = .ok (.anewarray idx, 3))
    (kk : ∀ (q : Nat) (H1 : Heap), va_P D vwCl (ws ++ [(q, .inl (cA 3, n, .inr (.inr (.inr (.inr (fun _ => none))))))]) H1 → va_D A (ws ++ [(q, .inl (cA 3, n, .inr (.inr (.inr (.inr (fun _ => none))))))]) → va_S A s.heap H1 locs → W p l e R s m args below meth c H1 locs (cells + 1) (slots + n) Q (F0 m (pc + 3) ls (.ref q :: rest))) : W p l e R s m args below meth c H locs cells slots Q (F0 m pc ls (.int (nI n) :: rest)) := by
  refine va_newq (N' := n) hx hb hown (hts _ hw) hW.2.2 hW.1 hP hD hS hA (nI_pos (by omega)) (nI_clamp (by omega)) (by omega) hcells hslots hd (fun q cB H1 hK1 hP1 hD1 hS1 => ?_)
  obtain ⟨kA, comp, -, -, -, e1⟩ := (hW.1.2 3 _ rfl).2
  obtain ⟨kA', comp', -, -, -, e2⟩ := (hK1.2 4 (cB, .object RX0) rfl).2
  have e3 : cB = cA 3 := Option.some.inj (e2.symm.trans e1)
  subst e3
  exact kk q H1 hP1 hD1 hS1
end P70V
end P70
