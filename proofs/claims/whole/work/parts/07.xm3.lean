/-! ===== what each step of the abstract walk means in the machine ===== -/
section XM3
def xWorld (g : xG) (U : State) : Prop := va_K g.1 vwCl (xTys g) U ∧ (∀ w ∈ xNest, va_Nw w U) ∧ vx_Zq Bundle.tN "UNASSIGNED_STACK" Bundle.steD (xA g) U U.heap ∧ vx_Zq Bundle.tN "SUPPRESSED_SENTINEL" Bundle.listD (xA g) U U.heap ∧ (∀ q ∈ xStrs, ∃ sa, vk_R q.1 q.2.1 q.2.2 sa U)
def xNestB : Cond → Bool
  | .fieldLinkNest _ _ _ _ _ _ => true
  | .methodLinkNest _ _ _ _ => true
  | .declares _ => true
  | .castable _ _ => true
  | _ => false
theorem xNest_ok : ∀ w ∈ xNest, xNestB w = true := List.all_eq_true.mp (by decide +kernel : xNest.all xNestB = true)
theorem xNw_warm {w : Cond} (h : xNestB w = true) {s U : State} (hW : s.WarmedH U.vm) (hz : va_Nw w s) : va_Nw w U := by
  cases w <;> first | exact va_Nw.warmF hW hz | exact va_Nw.warmM hW hz | exact va_Nw.warmD hW hz | exact va_Nw.warmC hW hz | cases h
theorem xNw_on {w : Cond} (h : xNestB w = true) : w.onTables = true := by
  cases w <;> first | rfl | cases h
theorem xWorld_go {g : xG} {s U : State} {H : Heap} {locs : List Loc} (h : xWorld g s) (hS : va_S (xA g) s.heap H locs) (hH : U.heap = H) (hW : s.WarmedH U.vm) : xWorld g U := by
  obtain ⟨h1, h2, h3, h4, h5⟩ := h
  refine ⟨va_K.moved hW.alike h1, fun w hw => xNw_warm (xNest_ok w hw) hW (h2 w hw), ?_, ?_, fun q hq => ?_⟩
  · rw [hH]; exact vx_Zq.moved hW.alike (h3.kept hS.2.1)
  · rw [hH]; exact vx_Zq.moved hW.alike (h4.kept hS.2.1)
  · obtain ⟨sa, ha⟩ := h5 q hq
    exact ⟨sa, vk_R.warm hW ha⟩
theorem xWorld_blind {g : xG} {U : State} (f : JFrame) (mk : MethodId) (a : Array Value) (h : xWorld g U) : xWorld g (U.calling f mk a) := by
  obtain ⟨h1, h2, h3, h4, h5⟩ := h
  have hW : U.WarmedH (U.calling f mk a).vm := State.WarmedH.refl U
  refine ⟨va_K.moved hW.alike h1, fun w hw => xNw_warm (xNest_ok w hw) hW (h2 w hw), vx_Zq.moved hW.alike h3, vx_Zq.moved hW.alike h4, fun q hq => ?_⟩
  obtain ⟨sa, ha⟩ := h5 q hq
  exact ⟨sa, vk_R.warm hW ha⟩
def xRep (g : xG) (s : State) (I : xMem) (H : Heap) (locs : List Loc) : Prop := va_P g.1 vwCl (xWl g I) H ∧ va_D (xA g) (xWl g I) ∧ va_S (xA g) s.heap H locs
def xCtx (g : xG) (cc : ByteArray) (nL : Nat) (own : String) (ret : Option FieldType) (p : Program) (s : State) (m : MethodId) (args : Array Value) (meth : Method) (c : Code) : Prop :=
  p.tables.exec = Jvm.exec ∧ c.code = cc ∧ c.maxLocals = nL ∧ s.vm.findClass own = some m.cls ∧ (∀ w ∈ wsAll, w.before args s = true) ∧ xWorld g s ∧ meth.sig.returnType = ret ∧ meth.locks = false ∧ g.2.2.2 ≤ s.heap.size ∧ (∀ x ∈ c.exceptionTable.toList, False)
/-- the machine comes to its end from every state that holds these numbers -/
def xV (p : Program) (l : Launch) (e : Env) (R : Room) (s : State) (m : MethodId) (args : Array Value) (below : List Frame) (meth : Method) (c : Code) (Q : State → Prop) (g : xG) (nL : Nat) (pc : Nat) (L : List (Option Value)) (st : List Value) (I : xMem) : Prop :=
  ∀ (ls : Array Slot) (H : Heap) (locs : List Loc), xLoc g nL ls L → xRep g s I H locs → W p l e R s m args below meth c H locs 0 0 Q (F0 m pc ls (st.map (xc g)))
def xSim (V : Nat → List (Option Value) → List Value → xMem → Prop) (r0 : xRes) (pc : Nat) (o : xOp) : Prop :=
  (∀ (L : List (Option Value)) (st : List Value) (I : xMem) (pc' : Nat) (L' : List (Option Value)) (st' : List Value) (I' : xMem), o L st I = some (.inl (pc', L', st', I')) → V pc' L' st' I' → V pc L st I) ∧
  (∀ (L : List (Option Value)) (st : List Value) (I : xMem), o L st I = some (.inr r0) → V pc L st I)
def xAll (P : Nat → xOp → Prop) : xCode → Prop
  | [] => True
  | q :: t => P q.1 q.2 ∧ xAll P t
theorem xAll_at {P : Nat → xOp → Prop} : ∀ {k : xCode} {pc : Nat} {o : xOp}, xAll P k → xlk k pc = some o → P pc o
  | [], pc, o, _, h => by cases h
  | q :: t, pc, o, hk, h => by
    unfold xlk at h
    cases hb : Nat.beq pc q.1 with
    | true =>
      rw [hb] at h
      cases h
      rw [Nat.eq_of_beq_eq_true hb]
      exact hk.1
    | false =>
      rw [hb] at h
      exact xAll_at hk.2 h
theorem xit_sim {V : Nat → List (Option Value) → List Value → xMem → Prop} {r0 : xRes} {k : xCode} (hk : xAll (xSim V r0) k) : ∀ {n pc : Nat} {L : List (Option Value)} {st : List Value} {I : xMem}, xit k n pc L st I = some r0 → V pc L st I := by
  intro n
  induction n with
  | zero => intro pc L st I h; exact absurd h (by simp [xit])
  | succ n ih =>
    intro pc L st I h
    unfold xit xstep at h
    cases ho : xlk k pc with
    | none => rw [ho] at h; cases h
    | some o =>
      rw [ho] at h
      dsimp only at h
      have hs := xAll_at hk ho
      split at h
      · cases h
      · rename_i r hr
        cases h
        exact hs.2 L st I hr
      · rename_i pc' L' st' I' hr
        exact hs.1 L st I pc' L' st' I' hr (ih h)
theorem xc_cats (g : xG) (r : List Value) : ((r.map (xc g)).map fun v => v.category).sum = (r.map fun v => v.category).sum := by
  rw [List.map_map]
  congr 1
  exact List.map_congr_left (fun v _ => xc_cat g v)
section XM3V
variable {p : Program} {l : Launch} {e : Env} {R : Room} {s : State} {m : MethodId} {args : Array Value} {below : List Frame} {meth : Method} {c : Code} {Q : State → Prop} {g : xG} {cc : ByteArray} {nL : Nat} {own : String} {ret : Option FieldType} {pc : Nat} {r0 : xRes}
theorem xs_iload_n (C : xCtx g cc nL own ret p s m args meth c) {k : Fin 4} {i : Nat} (hd : decode cc pc = .ok (.iload_n k, 1)) (hi : (k : Nat) = i) : xSim (xV p l e R s m args below meth c Q g nL) r0 pc (oIload i (pc + 1)) := by
  refine ⟨fun L st I pc' L' st' I' h kk => ?_, fun L st I h => ?_⟩
  · unfold oIload at h
    split at h
    · rename_i x hx
      cases h
      intro ls H locs hl hr
      exact lv_iload_n C.1 C.2.1 hd hi (hl.2.2 _ _ hx) (kk ls H locs hl hr)
    · cases h
  · unfold oIload at h
    split at h <;> cases h
theorem xs_iload (C : xCtx g cc nL own ret p s m args meth c) {i : Nat} (hd : decode cc pc = .ok (.iload i, 2)) : xSim (xV p l e R s m args below meth c Q g nL) r0 pc (oIload i (pc + 2)) := by
  refine ⟨fun L st I pc' L' st' I' h kk => ?_, fun L st I h => ?_⟩
  · unfold oIload at h
    split at h
    · rename_i x hx
      cases h
      intro ls H locs hl hr
      exact lv_iload C.1 C.2.1 hd (hl.2.2 _ _ hx) (kk ls H locs hl hr)
    · cases h
  · unfold oIload at h
    split at h <;> cases h
theorem xs_lload_n (C : xCtx g cc nL own ret p s m args meth c) {k : Fin 4} {i : Nat} (hd : decode cc pc = .ok (.lload_n k, 1)) (hi : (k : Nat) = i) : xSim (xV p l e R s m args below meth c Q g nL) r0 pc (oLload i (pc + 1)) := by
  refine ⟨fun L st I pc' L' st' I' h kk => ?_, fun L st I h => ?_⟩
  · unfold oLload at h
    split at h
    · rename_i x hx
      cases h
      intro ls H locs hl hr
      exact lv_lload_n C.1 C.2.1 hd hi (hl.2.2 _ _ hx) (kk ls H locs hl hr)
    · cases h
  · unfold oLload at h
    split at h <;> cases h
theorem xs_lload (C : xCtx g cc nL own ret p s m args meth c) {i : Nat} (hd : decode cc pc = .ok (.lload i, 2)) : xSim (xV p l e R s m args below meth c Q g nL) r0 pc (oLload i (pc + 2)) := by
  refine ⟨fun L st I pc' L' st' I' h kk => ?_, fun L st I h => ?_⟩
  · unfold oLload at h
    split at h
    · rename_i x hx
      cases h
      intro ls H locs hl hr
      exact lv_lload C.1 C.2.1 hd (hl.2.2 _ _ hx) (kk ls H locs hl hr)
    · cases h
  · unfold oLload at h
    split at h <;> cases h
theorem xs_aload_n (C : xCtx g cc nL own ret p s m args meth c) {k : Fin 4} {i : Nat} (hd : decode cc pc = .ok (.aload_n k, 1)) (hi : (k : Nat) = i) : xSim (xV p l e R s m args below meth c Q g nL) r0 pc (oAload i (pc + 1)) := by
  refine ⟨fun L st I pc' L' st' I' h kk => ?_, fun L st I h => ?_⟩
  · unfold oAload at h
    split at h
    · rename_i x hx
      cases h
      intro ls H locs hl hr
      exact lv_aload_n C.1 C.2.1 hd hi (hl.2.2 _ _ hx) (kk ls H locs hl hr)
    · rename_i hx
      cases h
      intro ls H locs hl hr
      exact lv_aload_nN C.1 C.2.1 hd hi (hl.2.2 _ _ hx) (kk ls H locs hl hr)
    · cases h
  · unfold oAload at h
    split at h <;> cases h
theorem xs_aload (C : xCtx g cc nL own ret p s m args meth c) {i : Nat} (hd : decode cc pc = .ok (.aload i, 2)) : xSim (xV p l e R s m args below meth c Q g nL) r0 pc (oAload i (pc + 2)) := by
  refine ⟨fun L st I pc' L' st' I' h kk => ?_, fun L st I h => ?_⟩
  · unfold oAload at h
    split at h
    · rename_i x hx
      cases h
      intro ls H locs hl hr
      exact lv_aload C.1 C.2.1 hd (hl.2.2 _ _ hx) (kk ls H locs hl hr)
    · rename_i hx
      cases h
      intro ls H locs hl hr
      exact lv_aloadN C.1 C.2.1 hd (hl.2.2 _ _ hx) (kk ls H locs hl hr)
    · cases h
  · unfold oAload at h
    split at h <;> cases h
theorem xs_istore_n (C : xCtx g cc nL own ret p s m args meth c) {k : Fin 4} {i : Nat} (hd : decode cc pc = .ok (.istore_n k, 1)) (hi : (k : Nat) = i) : xSim (xV p l e R s m args below meth c Q g nL) r0 pc (oIstore i nL (pc + 1)) := by
  refine ⟨fun L st I pc' L' st' I' h kk => ?_, fun L st I h => ?_⟩
  · unfold oIstore at h
    split at h
    · rename_i x r
      cases hb : (Nat.blt i nL && xok L i) with
      | false => rw [hb] at h; cases h
      | true =>
        rw [hb] at h
        cases h
        simp only [Bool.and_eq_true] at hb
        intro ls H locs hl hr
        exact lv_istore_n C.1 C.2.1 hd hi hl.has (Nat.le_of_ble_eq_true hb.1) rfl (fun ls' h' => kk ls' H locs (xLoc_set1 (v := .int x) hb.2 h') hr)
    · cases h
  · unfold oIstore at h
    split at h
    · cases hb : (Nat.blt i nL && xok L i) <;> rw [hb] at h <;> cases h
    · cases h
theorem xs_istore (C : xCtx g cc nL own ret p s m args meth c) {i : Nat} (hd : decode cc pc = .ok (.istore i, 2)) : xSim (xV p l e R s m args below meth c Q g nL) r0 pc (oIstore i nL (pc + 2)) := by
  refine ⟨fun L st I pc' L' st' I' h kk => ?_, fun L st I h => ?_⟩
  · unfold oIstore at h
    split at h
    · rename_i x r
      cases hb : (Nat.blt i nL && xok L i) with
      | false => rw [hb] at h; cases h
      | true =>
        rw [hb] at h
        cases h
        simp only [Bool.and_eq_true] at hb
        intro ls H locs hl hr
        exact lv_istore C.1 C.2.1 hd hl.has (Nat.le_of_ble_eq_true hb.1) rfl (fun ls' h' => kk ls' H locs (xLoc_set1 (v := .int x) hb.2 h') hr)
    · cases h
  · unfold oIstore at h
    split at h
    · cases hb : (Nat.blt i nL && xok L i) <;> rw [hb] at h <;> cases h
    · cases h
theorem xs_lstore_n (C : xCtx g cc nL own ret p s m args meth c) {k : Fin 4} {i : Nat} (hd : decode cc pc = .ok (.lstore_n k, 1)) (hi : (k : Nat) = i) : xSim (xV p l e R s m args below meth c Q g nL) r0 pc (oLstore i nL (pc + 1)) := by
  refine ⟨fun L st I pc' L' st' I' h kk => ?_, fun L st I h => ?_⟩
  · unfold oLstore at h
    split at h
    · rename_i x r
      cases hb : (Nat.blt (i + 1) nL && xok L i) with
      | false => rw [hb] at h; cases h
      | true =>
        rw [hb] at h
        cases h
        simp only [Bool.and_eq_true] at hb
        intro ls H locs hl hr
        exact lv_lstore_n C.1 C.2.1 hd hi hl.has (Nat.le_of_ble_eq_true hb.1) rfl (fun ls' h' => kk ls' H locs (xLoc_set2 (v := .long x) hb.2 h') hr)
    · cases h
  · unfold oLstore at h
    split at h
    · cases hb : (Nat.blt (i + 1) nL && xok L i) <;> rw [hb] at h <;> cases h
    · cases h
theorem xs_lstore (C : xCtx g cc nL own ret p s m args meth c) {i : Nat} (hd : decode cc pc = .ok (.lstore i, 2)) : xSim (xV p l e R s m args below meth c Q g nL) r0 pc (oLstore i nL (pc + 2)) := by
  refine ⟨fun L st I pc' L' st' I' h kk => ?_, fun L st I h => ?_⟩
  · unfold oLstore at h
    split at h
    · rename_i x r
      cases hb : (Nat.blt (i + 1) nL && xok L i) with
      | false => rw [hb] at h; cases h
      | true =>
        rw [hb] at h
        cases h
        simp only [Bool.and_eq_true] at hb
        intro ls H locs hl hr
        exact lv_lstore C.1 C.2.1 hd hl.has (Nat.le_of_ble_eq_true hb.1) rfl (fun ls' h' => kk ls' H locs (xLoc_set2 (v := .long x) hb.2 h') hr)
    · cases h
  · unfold oLstore at h
    split at h
    · cases hb : (Nat.blt (i + 1) nL && xok L i) <;> rw [hb] at h <;> cases h
    · cases h
theorem xs_astore_n (C : xCtx g cc nL own ret p s m args meth c) {k : Fin 4} {i : Nat} (hd : decode cc pc = .ok (.astore_n k, 1)) (hi : (k : Nat) = i) : xSim (xV p l e R s m args below meth c Q g nL) r0 pc (oAstore i nL (pc + 1)) := by
  refine ⟨fun L st I pc' L' st' I' h kk => ?_, fun L st I h => ?_⟩
  · unfold oAstore at h
    split at h
    · rename_i x r
      cases hb : (Nat.blt i nL && xok L i) with
      | false => rw [hb] at h; cases h
      | true =>
        rw [hb] at h
        cases h
        simp only [Bool.and_eq_true] at hb
        intro ls H locs hl hr
        exact lv_astore_n C.1 C.2.1 hd hi hl.has (Nat.le_of_ble_eq_true hb.1) rfl (fun ls' h' => kk ls' H locs (xLoc_set1 (v := .ref x) hb.2 h') hr)
    · rename_i r
      cases hb : (Nat.blt i nL && xok L i) with
      | false => rw [hb] at h; cases h
      | true =>
        rw [hb] at h
        cases h
        simp only [Bool.and_eq_true] at hb
        intro ls H locs hl hr
        exact lv_astore_nN C.1 C.2.1 hd hi hl.has (Nat.le_of_ble_eq_true hb.1) rfl (fun ls' h' => kk ls' H locs (xLoc_set1 (v := .null) hb.2 h') hr)
    · cases h
  · unfold oAstore at h
    split at h
    · cases hb : (Nat.blt i nL && xok L i) <;> rw [hb] at h <;> cases h
    · cases hb : (Nat.blt i nL && xok L i) <;> rw [hb] at h <;> cases h
    · cases h
theorem xs_astore (C : xCtx g cc nL own ret p s m args meth c) {i : Nat} (hd : decode cc pc = .ok (.astore i, 2)) : xSim (xV p l e R s m args below meth c Q g nL) r0 pc (oAstore i nL (pc + 2)) := by
  refine ⟨fun L st I pc' L' st' I' h kk => ?_, fun L st I h => ?_⟩
  · unfold oAstore at h
    split at h
    · rename_i x r
      cases hb : (Nat.blt i nL && xok L i) with
      | false => rw [hb] at h; cases h
      | true =>
        rw [hb] at h
        cases h
        simp only [Bool.and_eq_true] at hb
        intro ls H locs hl hr
        exact lv_astore C.1 C.2.1 hd hl.has (Nat.le_of_ble_eq_true hb.1) rfl (fun ls' h' => kk ls' H locs (xLoc_set1 (v := .ref x) hb.2 h') hr)
    · rename_i r
      cases hb : (Nat.blt i nL && xok L i) with
      | false => rw [hb] at h; cases h
      | true =>
        rw [hb] at h
        cases h
        simp only [Bool.and_eq_true] at hb
        intro ls H locs hl hr
        exact lv_astoreN C.1 C.2.1 hd hl.has (Nat.le_of_ble_eq_true hb.1) rfl (fun ls' h' => kk ls' H locs (xLoc_set1 (v := .null) hb.2 h') hr)
    · cases h
  · unfold oAstore at h
    split at h
    · cases hb : (Nat.blt i nL && xok L i) <;> rw [hb] at h <;> cases h
    · cases hb : (Nat.blt i nL && xok L i) <;> rw [hb] at h <;> cases h
    · cases h
theorem xs_iinc (C : xCtx g cc nL own ret p s m args meth c) {i : Nat} {z : Int} {n : Int32} (hd : decode cc pc = .ok (.iinc i z, 3)) (hz : Int32.ofInt z = n) : xSim (xV p l e R s m args below meth c Q g nL) r0 pc (oIinc i n nL (pc + 3)) := by
  subst hz
  refine ⟨fun L st I pc' L' st' I' h kk => ?_, fun L st I h => ?_⟩
  · unfold oIinc at h
    split at h
    · rename_i x hx
      cases hb : (Nat.blt i nL && xok L i) with
      | false => rw [hb] at h; cases h
      | true =>
        rw [hb] at h
        cases h
        simp only [Bool.and_eq_true] at hb
        intro ls H locs hl hr
        obtain ⟨k9, hk9⟩ := List.getElem?_of_mem (xAs_mem (g := g) hx)
        exact lv_iinc C.1 C.2.1 hd hl.has hk9 rfl (Nat.le_of_ble_eq_true hb.1) rfl (fun ls' h' => kk ls' H locs (xLoc_set1 (v := .int (x + Int32.ofInt z)) hb.2 h') hr)
    · cases h
  · unfold oIinc at h
    split at h
    · cases hb : (Nat.blt i nL && xok L i) <;> rw [hb] at h <;> cases h
    · cases h
theorem xs_iconst (C : xCtx g cc nL own ret p s m args meth c) {n : Int} {x : Int32} (hd : decode cc pc = .ok (.iconst n, 1)) (hv : Int32.ofInt n = x) : xSim (xV p l e R s m args below meth c Q g nL) r0 pc (oConst x (pc + 1)) := by
  refine ⟨fun L st I pc' L' st' I' h kk => ?_, fun L st I h => ?_⟩
  · unfold oConst at h
    cases h
    intro ls H locs hl hr
    exact lv_iconst C.1 C.2.1 hd hv (kk ls H locs hl hr)
  · unfold oConst at h
    cases h
theorem xs_bipush (C : xCtx g cc nL own ret p s m args meth c) {n : Int} {x : Int32} (hd : decode cc pc = .ok (.bipush n, 2)) (hv : (Int8.ofInt n).toInt32 = x) : xSim (xV p l e R s m args below meth c Q g nL) r0 pc (oConst x (pc + 2)) := by
  refine ⟨fun L st I pc' L' st' I' h kk => ?_, fun L st I h => ?_⟩
  · unfold oConst at h
    cases h
    intro ls H locs hl hr
    exact lv_bipush C.1 C.2.1 hd hv (kk ls H locs hl hr)
  · unfold oConst at h
    cases h
theorem xs_sipush (C : xCtx g cc nL own ret p s m args meth c) {n : Int} {x : Int32} (hd : decode cc pc = .ok (.sipush n, 3)) (hv : (Int16.ofInt n).toInt32 = x) : xSim (xV p l e R s m args below meth c Q g nL) r0 pc (oConst x (pc + 3)) := by
  refine ⟨fun L st I pc' L' st' I' h kk => ?_, fun L st I h => ?_⟩
  · unfold oConst at h
    cases h
    intro ls H locs hl hr
    exact lv_sipush C.1 C.2.1 hd hv (kk ls H locs hl hr)
  · unfold oConst at h
    cases h
theorem xs_ldc (C : xCtx g cc nL own ret p s m args meth c) {j : Nat} {x : Int32} (hd : decode cc pc = .ok (.ldc j, 2)) (hw : Cond.constant own j x ∈ wsAll) : xSim (xV p l e R s m args below meth c Q g nL) r0 pc (oConst x (pc + 2)) := by
  refine ⟨fun L st I pc' L' st' I' h kk => ?_, fun L st I h => ?_⟩
  · unfold oConst at h
    cases h
    intro ls H locs hl hr
    exact lv_ldc C.1 C.2.1 C.2.2.2.1 (C.2.2.2.2.1 _ hw) hd (kk ls H locs hl hr)
  · unfold oConst at h
    cases h
theorem xs_ldcw (C : xCtx g cc nL own ret p s m args meth c) {j : Nat} {x : Int32} (hd : decode cc pc = .ok (.ldc_w j, 3)) (hw : Cond.constant own j x ∈ wsAll) : xSim (xV p l e R s m args below meth c Q g nL) r0 pc (oConst x (pc + 3)) := by
  refine ⟨fun L st I pc' L' st' I' h kk => ?_, fun L st I h => ?_⟩
  · unfold oConst at h
    cases h
    intro ls H locs hl hr
    exact lv_ldcw C.1 C.2.1 C.2.2.2.1 (C.2.2.2.2.1 _ hw) hd (kk ls H locs hl hr)
  · unfold oConst at h
    cases h
theorem xs_ldc2 (C : xCtx g cc nL own ret p s m args meth c) {j : Nat} {x : Int64} (hd : decode cc pc = .ok (.ldc2_w j, 3)) (hw : Cond.constantLong own j x ∈ wsAll) : xSim (xV p l e R s m args below meth c Q g nL) r0 pc (oLconst x (pc + 3)) := by
  refine ⟨fun L st I pc' L' st' I' h kk => ?_, fun L st I h => ?_⟩
  · unfold oLconst at h
    cases h
    intro ls H locs hl hr
    exact lv_ldc2 C.1 C.2.1 C.2.2.2.1 (C.2.2.2.2.1 _ hw) hd (kk ls H locs hl hr)
  · unfold oLconst at h
    cases h
theorem xs_lconst (C : xCtx g cc nL own ret p s m args meth c) {n : Fin 2} {x : Int64} (hd : decode cc pc = .ok (.lconst n, 1)) (hv : Int64.ofNat (n : Nat) = x) : xSim (xV p l e R s m args below meth c Q g nL) r0 pc (oLconst x (pc + 1)) := by
  refine ⟨fun L st I pc' L' st' I' h kk => ?_, fun L st I h => ?_⟩
  · unfold oLconst at h
    cases h
    intro ls H locs hl hr
    exact lv_lconst C.1 C.2.1 hd hv (kk ls H locs hl hr)
  · unfold oLconst at h
    cases h
theorem xs_null (C : xCtx g cc nL own ret p s m args meth c) (hd : decode cc pc = .ok (.aconst_null, 1)) : xSim (xV p l e R s m args below meth c Q g nL) r0 pc (oNull (pc + 1)) := by
  refine ⟨fun L st I pc' L' st' I' h kk => ?_, fun L st I h => ?_⟩
  · unfold oNull at h
    cases h
    intro ls H locs hl hr
    exact lv_null C.1 C.2.1 hd (kk ls H locs hl hr)
  · unfold oNull at h
    cases h
theorem xs_goto (C : xCtx g cc nL own ret p s m args meth c) {off : Int} {t : Nat} (hd : decode cc pc = .ok (.goto off, 3)) (ht : (pc : Int) + off = (t : Int)) : xSim (xV p l e R s m args below meth c Q g nL) r0 pc (oGoto t) := by
  refine ⟨fun L st I pc' L' st' I' h kk => ?_, fun L st I h => ?_⟩
  · unfold oGoto at h
    cases h
    intro ls H locs hl hr
    exact lv_goto C.1 C.2.1 hd ht (kk ls H locs hl hr)
  · unfold oGoto at h
    cases h
theorem xs_iadd (C : xCtx g cc nL own ret p s m args meth c) (hd : decode cc pc = .ok (.iadd, 1)) : xSim (xV p l e R s m args below meth c Q g nL) r0 pc (oBin (fun x y => x + y) (pc + 1)) := by
  refine ⟨fun L st I pc' L' st' I' h kk => ?_, fun L st I h => ?_⟩
  · unfold oBin at h
    split at h
    · rename_i y x r
      cases h
      intro ls H locs hl hr
      exact lv_iadd C.1 C.2.1 hd (kk ls H locs hl hr)
    · cases h
  · unfold oBin at h
    split at h <;> cases h
theorem xs_isub (C : xCtx g cc nL own ret p s m args meth c) (hd : decode cc pc = .ok (.isub, 1)) : xSim (xV p l e R s m args below meth c Q g nL) r0 pc (oBin (fun x y => x - y) (pc + 1)) := by
  refine ⟨fun L st I pc' L' st' I' h kk => ?_, fun L st I h => ?_⟩
  · unfold oBin at h
    split at h
    · rename_i y x r
      cases h
      intro ls H locs hl hr
      exact lv_isub C.1 C.2.1 hd (kk ls H locs hl hr)
    · cases h
  · unfold oBin at h
    split at h <;> cases h
theorem xs_imul (C : xCtx g cc nL own ret p s m args meth c) (hd : decode cc pc = .ok (.imul, 1)) : xSim (xV p l e R s m args below meth c Q g nL) r0 pc (oBin (fun x y => x * y) (pc + 1)) := by
  refine ⟨fun L st I pc' L' st' I' h kk => ?_, fun L st I h => ?_⟩
  · unfold oBin at h
    split at h
    · rename_i y x r
      cases h
      intro ls H locs hl hr
      exact lv_imul C.1 C.2.1 hd (kk ls H locs hl hr)
    · cases h
  · unfold oBin at h
    split at h <;> cases h
theorem xs_iand (C : xCtx g cc nL own ret p s m args meth c) (hd : decode cc pc = .ok (.iand, 1)) : xSim (xV p l e R s m args below meth c Q g nL) r0 pc (oBin (fun x y => x &&& y) (pc + 1)) := by
  refine ⟨fun L st I pc' L' st' I' h kk => ?_, fun L st I h => ?_⟩
  · unfold oBin at h
    split at h
    · rename_i y x r
      cases h
      intro ls H locs hl hr
      exact lv_iand C.1 C.2.1 hd (kk ls H locs hl hr)
    · cases h
  · unfold oBin at h
    split at h <;> cases h
theorem xs_ior (C : xCtx g cc nL own ret p s m args meth c) (hd : decode cc pc = .ok (.ior, 1)) : xSim (xV p l e R s m args below meth c Q g nL) r0 pc (oBin (fun x y => x ||| y) (pc + 1)) := by
  refine ⟨fun L st I pc' L' st' I' h kk => ?_, fun L st I h => ?_⟩
  · unfold oBin at h
    split at h
    · rename_i y x r
      cases h
      intro ls H locs hl hr
      exact lv_ior C.1 C.2.1 hd (kk ls H locs hl hr)
    · cases h
  · unfold oBin at h
    split at h <;> cases h
theorem xs_ishl (C : xCtx g cc nL own ret p s m args meth c) (hd : decode cc pc = .ok (.ishl, 1)) : xSim (xV p l e R s m args below meth c Q g nL) r0 pc (oBin (fun x y => x <<< (y &&& 31)) (pc + 1)) := by
  refine ⟨fun L st I pc' L' st' I' h kk => ?_, fun L st I h => ?_⟩
  · unfold oBin at h
    split at h
    · rename_i y x r
      cases h
      intro ls H locs hl hr
      exact lv_ishl C.1 C.2.1 hd (kk ls H locs hl hr)
    · cases h
  · unfold oBin at h
    split at h <;> cases h
theorem xs_ishr (C : xCtx g cc nL own ret p s m args meth c) (hd : decode cc pc = .ok (.ishr, 1)) : xSim (xV p l e R s m args below meth c Q g nL) r0 pc (oBin (fun x y => x >>> (y &&& 31)) (pc + 1)) := by
  refine ⟨fun L st I pc' L' st' I' h kk => ?_, fun L st I h => ?_⟩
  · unfold oBin at h
    split at h
    · rename_i y x r
      cases h
      intro ls H locs hl hr
      exact lv_ishr C.1 C.2.1 hd (kk ls H locs hl hr)
    · cases h
  · unfold oBin at h
    split at h <;> cases h
theorem xs_iushr (C : xCtx g cc nL own ret p s m args meth c) (hd : decode cc pc = .ok (.iushr, 1)) : xSim (xV p l e R s m args below meth c Q g nL) r0 pc (oBin (fun x y => (x.toUInt32 >>> (y.toUInt32 &&& Int32.toUInt32 31)).toInt32) (pc + 1)) := by
  refine ⟨fun L st I pc' L' st' I' h kk => ?_, fun L st I h => ?_⟩
  · unfold oBin at h
    split at h
    · rename_i y x r
      cases h
      intro ls H locs hl hr
      exact lv_iushr C.1 C.2.1 hd rfl (kk ls H locs hl hr)
    · cases h
  · unfold oBin at h
    split at h <;> cases h
theorem xs_ineg (C : xCtx g cc nL own ret p s m args meth c) (hd : decode cc pc = .ok (.ineg, 1)) : xSim (xV p l e R s m args below meth c Q g nL) r0 pc (oUn (fun x => -x) (pc + 1)) := by
  refine ⟨fun L st I pc' L' st' I' h kk => ?_, fun L st I h => ?_⟩
  · unfold oUn at h
    split at h
    · rename_i x r
      cases h
      intro ls H locs hl hr
      exact lv_ineg C.1 C.2.1 hd (kk ls H locs hl hr)
    · cases h
  · unfold oUn at h
    split at h <;> cases h
theorem xs_ladd (C : xCtx g cc nL own ret p s m args meth c) (hd : decode cc pc = .ok (.ladd, 1)) : xSim (xV p l e R s m args below meth c Q g nL) r0 pc (oLBin (fun x y => x + y) (pc + 1)) := by
  refine ⟨fun L st I pc' L' st' I' h kk => ?_, fun L st I h => ?_⟩
  · unfold oLBin at h
    split at h
    · rename_i y x r
      cases h
      intro ls H locs hl hr
      exact lv_ladd C.1 C.2.1 hd (kk ls H locs hl hr)
    · cases h
  · unfold oLBin at h
    split at h <;> cases h
theorem xs_lsub (C : xCtx g cc nL own ret p s m args meth c) (hd : decode cc pc = .ok (.lsub, 1)) : xSim (xV p l e R s m args below meth c Q g nL) r0 pc (oLBin (fun x y => x - y) (pc + 1)) := by
  refine ⟨fun L st I pc' L' st' I' h kk => ?_, fun L st I h => ?_⟩
  · unfold oLBin at h
    split at h
    · rename_i y x r
      cases h
      intro ls H locs hl hr
      exact lv_lsub C.1 C.2.1 hd (kk ls H locs hl hr)
    · cases h
  · unfold oLBin at h
    split at h <;> cases h
theorem xs_lmul (C : xCtx g cc nL own ret p s m args meth c) (hd : decode cc pc = .ok (.lmul, 1)) : xSim (xV p l e R s m args below meth c Q g nL) r0 pc (oLBin (fun x y => x * y) (pc + 1)) := by
  refine ⟨fun L st I pc' L' st' I' h kk => ?_, fun L st I h => ?_⟩
  · unfold oLBin at h
    split at h
    · rename_i y x r
      cases h
      intro ls H locs hl hr
      exact lv_lmul C.1 C.2.1 hd (kk ls H locs hl hr)
    · cases h
  · unfold oLBin at h
    split at h <;> cases h
theorem xs_land (C : xCtx g cc nL own ret p s m args meth c) (hd : decode cc pc = .ok (.land, 1)) : xSim (xV p l e R s m args below meth c Q g nL) r0 pc (oLBin (fun x y => x &&& y) (pc + 1)) := by
  refine ⟨fun L st I pc' L' st' I' h kk => ?_, fun L st I h => ?_⟩
  · unfold oLBin at h
    split at h
    · rename_i y x r
      cases h
      intro ls H locs hl hr
      exact lv_land C.1 C.2.1 hd (kk ls H locs hl hr)
    · cases h
  · unfold oLBin at h
    split at h <;> cases h
theorem xs_lor (C : xCtx g cc nL own ret p s m args meth c) (hd : decode cc pc = .ok (.lor, 1)) : xSim (xV p l e R s m args below meth c Q g nL) r0 pc (oLBin (fun x y => x ||| y) (pc + 1)) := by
  refine ⟨fun L st I pc' L' st' I' h kk => ?_, fun L st I h => ?_⟩
  · unfold oLBin at h
    split at h
    · rename_i y x r
      cases h
      intro ls H locs hl hr
      exact lv_lor C.1 C.2.1 hd (kk ls H locs hl hr)
    · cases h
  · unfold oLBin at h
    split at h <;> cases h
theorem xs_lushr (C : xCtx g cc nL own ret p s m args meth c) (hd : decode cc pc = .ok (.lushr, 1)) : xSim (xV p l e R s m args below meth c Q g nL) r0 pc (oLSh (fun x y => (x.toUInt64 >>> (y.toInt64.toUInt64 &&& Int64.toUInt64 63)).toInt64) (pc + 1)) := by
  refine ⟨fun L st I pc' L' st' I' h kk => ?_, fun L st I h => ?_⟩
  · unfold oLSh at h
    split at h
    · rename_i y x r
      cases h
      intro ls H locs hl hr
      exact lv_lushr C.1 C.2.1 hd rfl (kk ls H locs hl hr)
    · cases h
  · unfold oLSh at h
    split at h <;> cases h
theorem xs_lshl (C : xCtx g cc nL own ret p s m args meth c) (hd : decode cc pc = .ok (.lshl, 1)) : xSim (xV p l e R s m args below meth c Q g nL) r0 pc (oLSh (fun x y => x <<< (y.toInt64 &&& 63)) (pc + 1)) := by
  refine ⟨fun L st I pc' L' st' I' h kk => ?_, fun L st I h => ?_⟩
  · unfold oLSh at h
    split at h
    · rename_i y x r
      cases h
      intro ls H locs hl hr
      exact lv_lshl C.1 C.2.1 hd rfl (kk ls H locs hl hr)
    · cases h
  · unfold oLSh at h
    split at h <;> cases h
theorem xs_i2l (C : xCtx g cc nL own ret p s m args meth c) (hd : decode cc pc = .ok (.i2l, 1)) : xSim (xV p l e R s m args below meth c Q g nL) r0 pc (oI2l (pc + 1)) := by
  refine ⟨fun L st I pc' L' st' I' h kk => ?_, fun L st I h => ?_⟩
  · unfold oI2l at h
    split at h
    · rename_i x r
      cases h
      intro ls H locs hl hr
      exact lv_i2l C.1 C.2.1 hd rfl (kk ls H locs hl hr)
    · cases h
  · unfold oI2l at h
    split at h <;> cases h
theorem xs_l2i (C : xCtx g cc nL own ret p s m args meth c) (hd : decode cc pc = .ok (.l2i, 1)) : xSim (xV p l e R s m args below meth c Q g nL) r0 pc (oL2i (pc + 1)) := by
  refine ⟨fun L st I pc' L' st' I' h kk => ?_, fun L st I h => ?_⟩
  · unfold oL2i at h
    split at h
    · rename_i x r
      cases h
      intro ls H locs hl hr
      exact lv_l2i C.1 C.2.1 hd rfl (kk ls H locs hl hr)
    · cases h
  · unfold oL2i at h
    split at h <;> cases h
theorem xs_lcmp (C : xCtx g cc nL own ret p s m args meth c) (hd : decode cc pc = .ok (.lcmp, 1)) : xSim (xV p l e R s m args below meth c Q g nL) r0 pc (oLcmp (pc + 1)) := by
  refine ⟨fun L st I pc' L' st' I' h kk => ?_, fun L st I h => ?_⟩
  · unfold oLcmp at h
    split at h
    · rename_i y x r
      cases h
      intro ls H locs hl hr
      exact W.lcmp C.1 C.2.1 hd (kk ls H locs hl hr)
    · cases h
  · unfold oLcmp at h
    split at h <;> cases h
theorem xs_pop (C : xCtx g cc nL own ret p s m args meth c) (hd : decode cc pc = .ok (.pop, 1)) : xSim (xV p l e R s m args below meth c Q g nL) r0 pc (oPop (pc + 1)) := by
  refine ⟨fun L st I pc' L' st' I' h kk => ?_, fun L st I h => ?_⟩
  · unfold oPop at h
    split at h
    · rename_i x r
      cases h
      intro ls H locs hl hr
      exact lv_pop (va := .int x) C.1 C.2.1 hd rfl (kk ls H locs hl hr)
    · cases h
  · unfold oPop at h
    split at h <;> cases h
theorem xs_dup2 (C : xCtx g cc nL own ret p s m args meth c) (hd : decode cc pc = .ok (.dup2, 1)) : xSim (xV p l e R s m args below meth c Q g nL) r0 pc (oDup2 (pc + 1)) := by
  refine ⟨fun L st I pc' L' st' I' h kk => ?_, fun L st I h => ?_⟩
  · unfold oDup2 at h
    split at h
    · rename_i y x r
      cases h
      intro ls H locs hl hr
      exact lv_dup2_11 (va := .int y) (vb := .ref (g.2.1 x)) C.1 C.2.1 hd rfl rfl (kk ls H locs hl hr)
    · cases h
  · unfold oDup2 at h
    split at h <;> cases h
theorem xs_dup (C : xCtx g cc nL own ret p s m args meth c) (hd : decode cc pc = .ok (.dup, 1)) : xSim (xV p l e R s m args below meth c Q g nL) r0 pc (oDup (pc + 1)) := by
  refine ⟨fun L st I pc' L' st' I' h kk => ?_, fun L st I h => ?_⟩
  · unfold oDup at h
    split at h
    · rename_i x r
      cases h
      intro ls H locs hl hr
      exact lv_dup (va := .int x) C.1 C.2.1 hd rfl (kk ls H locs hl hr)
    · rename_i x r
      cases h
      intro ls H locs hl hr
      exact lv_dup (va := .ref (g.2.1 x)) C.1 C.2.1 hd rfl (kk ls H locs hl hr)
    · cases h
  · unfold oDup at h
    split at h <;> cases h
theorem xs_idiv (C : xCtx g cc nL own ret p s m args meth c) (hd : decode cc pc = .ok (.idiv, 1)) : xSim (xV p l e R s m args below meth c Q g nL) r0 pc (oDiv (fun x y => x / y) (pc + 1)) := by
  refine ⟨fun L st I pc' L' st' I' h kk => ?_, fun L st I h => ?_⟩
  · unfold oDiv at h
    split at h
    · rename_i y x r
      by_cases h0 : y = 0
      · rw [if_pos h0] at h; cases h
      · rw [if_neg h0] at h
        cases h
        intro ls H locs hl hr
        exact lv_idiv C.1 C.2.1 hd h0 (kk ls H locs hl hr)
    · cases h
  · unfold oDiv at h
    split at h
    · rename_i y x r
      by_cases h0 : y = 0
      · rw [if_pos h0] at h; cases h
      · rw [if_neg h0] at h; cases h
    · cases h
theorem xs_irem (C : xCtx g cc nL own ret p s m args meth c) (hd : decode cc pc = .ok (.irem, 1)) : xSim (xV p l e R s m args below meth c Q g nL) r0 pc (oDiv (fun x y => x - x / y * y) (pc + 1)) := by
  refine ⟨fun L st I pc' L' st' I' h kk => ?_, fun L st I h => ?_⟩
  · unfold oDiv at h
    split at h
    · rename_i y x r
      by_cases h0 : y = 0
      · rw [if_pos h0] at h; cases h
      · rw [if_neg h0] at h
        cases h
        intro ls H locs hl hr
        exact lv_irem C.1 C.2.1 hd h0 (kk ls H locs hl hr)
    · cases h
  · unfold oDiv at h
    split at h
    · rename_i y x r
      by_cases h0 : y = 0
      · rw [if_pos h0] at h; cases h
      · rw [if_neg h0] at h; cases h
    · cases h
theorem xs_ldiv (C : xCtx g cc nL own ret p s m args meth c) (hd : decode cc pc = .ok (.ldiv, 1)) : xSim (xV p l e R s m args below meth c Q g nL) r0 pc (oLDiv (fun x y => x / y) (pc + 1)) := by
  refine ⟨fun L st I pc' L' st' I' h kk => ?_, fun L st I h => ?_⟩
  · unfold oLDiv at h
    split at h
    · rename_i y x r
      by_cases h0 : y = 0
      · rw [if_pos h0] at h; cases h
      · rw [if_neg h0] at h
        cases h
        intro ls H locs hl hr
        exact lv_ldiv C.1 C.2.1 hd h0 (kk ls H locs hl hr)
    · cases h
  · unfold oLDiv at h
    split at h
    · rename_i y x r
      by_cases h0 : y = 0
      · rw [if_pos h0] at h; cases h
      · rw [if_neg h0] at h; cases h
    · cases h
theorem xs_lrem (C : xCtx g cc nL own ret p s m args meth c) (hd : decode cc pc = .ok (.lrem, 1)) : xSim (xV p l e R s m args below meth c Q g nL) r0 pc (oLDiv (fun x y => x - x / y * y) (pc + 1)) := by
  refine ⟨fun L st I pc' L' st' I' h kk => ?_, fun L st I h => ?_⟩
  · unfold oLDiv at h
    split at h
    · rename_i y x r
      by_cases h0 : y = 0
      · rw [if_pos h0] at h; cases h
      · rw [if_neg h0] at h
        cases h
        intro ls H locs hl hr
        exact lv_lrem C.1 C.2.1 hd h0 (kk ls H locs hl hr)
    · cases h
  · unfold oLDiv at h
    split at h
    · rename_i y x r
      by_cases h0 : y = 0
      · rw [if_pos h0] at h; cases h
      · rw [if_neg h0] at h; cases h
    · cases h
theorem xs_if_eq (C : xCtx g cc nL own ret p s m args meth c) {off : Int} {t : Nat} (hd : decode cc pc = .ok (.ifCond .eq off, 3)) (ht : (pc : Int) + off = (t : Int)) : xSim (xV p l e R s m args below meth c Q g nL) r0 pc (oIf1 (fun x => decide (x = 0)) t (pc + 3)) := by
  refine ⟨fun L st I pc' L' st' I' h kk => ?_, fun L st I h => ?_⟩
  · unfold oIf1 at h
    split at h
    · rename_i x r
      intro ls H locs hl hr
      exact lv_if_eq C.1 C.2.1 hd ht (fun q => by rw [if_pos (by simpa using q)] at h; cases h; exact kk ls H locs hl hr) (fun q => by rw [if_neg (by simpa using q)] at h; cases h; exact kk ls H locs hl hr)
    · cases h
  · unfold oIf1 at h
    split at h
    · split at h <;> cases h
    · cases h
theorem xs_if_ne (C : xCtx g cc nL own ret p s m args meth c) {off : Int} {t : Nat} (hd : decode cc pc = .ok (.ifCond .ne off, 3)) (ht : (pc : Int) + off = (t : Int)) : xSim (xV p l e R s m args below meth c Q g nL) r0 pc (oIf1 (fun x => !(decide (x = 0))) t (pc + 3)) := by
  refine ⟨fun L st I pc' L' st' I' h kk => ?_, fun L st I h => ?_⟩
  · unfold oIf1 at h
    split at h
    · rename_i x r
      intro ls H locs hl hr
      exact lv_if_ne C.1 C.2.1 hd ht (fun q => by rw [if_pos (by simpa using q)] at h; cases h; exact kk ls H locs hl hr) (fun q => by rw [if_neg (by simpa using q)] at h; cases h; exact kk ls H locs hl hr)
    · cases h
  · unfold oIf1 at h
    split at h
    · split at h <;> cases h
    · cases h
theorem xs_if_lt (C : xCtx g cc nL own ret p s m args meth c) {off : Int} {t : Nat} (hd : decode cc pc = .ok (.ifCond .lt off, 3)) (ht : (pc : Int) + off = (t : Int)) : xSim (xV p l e R s m args below meth c Q g nL) r0 pc (oIf1 (fun x => decide (x < 0)) t (pc + 3)) := by
  refine ⟨fun L st I pc' L' st' I' h kk => ?_, fun L st I h => ?_⟩
  · unfold oIf1 at h
    split at h
    · rename_i x r
      intro ls H locs hl hr
      exact lv_if_lt C.1 C.2.1 hd ht (fun q => by rw [if_pos (by simpa using q)] at h; cases h; exact kk ls H locs hl hr) (fun q => by rw [if_neg (by simpa using q)] at h; cases h; exact kk ls H locs hl hr)
    · cases h
  · unfold oIf1 at h
    split at h
    · split at h <;> cases h
    · cases h
theorem xs_if_ge (C : xCtx g cc nL own ret p s m args meth c) {off : Int} {t : Nat} (hd : decode cc pc = .ok (.ifCond .ge off, 3)) (ht : (pc : Int) + off = (t : Int)) : xSim (xV p l e R s m args below meth c Q g nL) r0 pc (oIf1 (fun x => decide (0 ≤ x)) t (pc + 3)) := by
  refine ⟨fun L st I pc' L' st' I' h kk => ?_, fun L st I h => ?_⟩
  · unfold oIf1 at h
    split at h
    · rename_i x r
      intro ls H locs hl hr
      exact lv_if_ge C.1 C.2.1 hd ht (fun q => by rw [if_pos (by simpa using q)] at h; cases h; exact kk ls H locs hl hr) (fun q => by rw [if_neg (by simpa using q)] at h; cases h; exact kk ls H locs hl hr)
    · cases h
  · unfold oIf1 at h
    split at h
    · split at h <;> cases h
    · cases h
theorem xs_if_gt (C : xCtx g cc nL own ret p s m args meth c) {off : Int} {t : Nat} (hd : decode cc pc = .ok (.ifCond .gt off, 3)) (ht : (pc : Int) + off = (t : Int)) : xSim (xV p l e R s m args below meth c Q g nL) r0 pc (oIf1 (fun x => decide (0 < x)) t (pc + 3)) := by
  refine ⟨fun L st I pc' L' st' I' h kk => ?_, fun L st I h => ?_⟩
  · unfold oIf1 at h
    split at h
    · rename_i x r
      intro ls H locs hl hr
      exact lv_if_gt C.1 C.2.1 hd ht (fun q => by rw [if_pos (by simpa using q)] at h; cases h; exact kk ls H locs hl hr) (fun q => by rw [if_neg (by simpa using q)] at h; cases h; exact kk ls H locs hl hr)
    · cases h
  · unfold oIf1 at h
    split at h
    · split at h <;> cases h
    · cases h
theorem xs_if_le (C : xCtx g cc nL own ret p s m args meth c) {off : Int} {t : Nat} (hd : decode cc pc = .ok (.ifCond .le off, 3)) (ht : (pc : Int) + off = (t : Int)) : xSim (xV p l e R s m args below meth c Q g nL) r0 pc (oIf1 (fun x => decide (x ≤ 0)) t (pc + 3)) := by
  refine ⟨fun L st I pc' L' st' I' h kk => ?_, fun L st I h => ?_⟩
  · unfold oIf1 at h
    split at h
    · rename_i x r
      intro ls H locs hl hr
      exact lv_if_le C.1 C.2.1 hd ht (fun q => by rw [if_pos (by simpa using q)] at h; cases h; exact kk ls H locs hl hr) (fun q => by rw [if_neg (by simpa using q)] at h; cases h; exact kk ls H locs hl hr)
    · cases h
  · unfold oIf1 at h
    split at h
    · split at h <;> cases h
    · cases h
theorem xs_icmp_eq (C : xCtx g cc nL own ret p s m args meth c) {off : Int} {t : Nat} (hd : decode cc pc = .ok (.if_icmp .eq off, 3)) (ht : (pc : Int) + off = (t : Int)) : xSim (xV p l e R s m args below meth c Q g nL) r0 pc (oIf2 (fun x y => decide (x = y)) t (pc + 3)) := by
  refine ⟨fun L st I pc' L' st' I' h kk => ?_, fun L st I h => ?_⟩
  · unfold oIf2 at h
    split at h
    · rename_i y x r
      intro ls H locs hl hr
      exact lv_icmp_eq C.1 C.2.1 hd ht (fun q => by rw [if_pos (by simpa using q)] at h; cases h; exact kk ls H locs hl hr) (fun q => by rw [if_neg (by simpa using q)] at h; cases h; exact kk ls H locs hl hr)
    · cases h
  · unfold oIf2 at h
    split at h
    · split at h <;> cases h
    · cases h
theorem xs_icmp_ne (C : xCtx g cc nL own ret p s m args meth c) {off : Int} {t : Nat} (hd : decode cc pc = .ok (.if_icmp .ne off, 3)) (ht : (pc : Int) + off = (t : Int)) : xSim (xV p l e R s m args below meth c Q g nL) r0 pc (oIf2 (fun x y => !(decide (x = y))) t (pc + 3)) := by
  refine ⟨fun L st I pc' L' st' I' h kk => ?_, fun L st I h => ?_⟩
  · unfold oIf2 at h
    split at h
    · rename_i y x r
      intro ls H locs hl hr
      exact lv_icmp_ne C.1 C.2.1 hd ht (fun q => by rw [if_pos (by simpa using q)] at h; cases h; exact kk ls H locs hl hr) (fun q => by rw [if_neg (by simpa using q)] at h; cases h; exact kk ls H locs hl hr)
    · cases h
  · unfold oIf2 at h
    split at h
    · split at h <;> cases h
    · cases h
theorem xs_icmp_lt (C : xCtx g cc nL own ret p s m args meth c) {off : Int} {t : Nat} (hd : decode cc pc = .ok (.if_icmp .lt off, 3)) (ht : (pc : Int) + off = (t : Int)) : xSim (xV p l e R s m args below meth c Q g nL) r0 pc (oIf2 (fun x y => decide (x < y)) t (pc + 3)) := by
  refine ⟨fun L st I pc' L' st' I' h kk => ?_, fun L st I h => ?_⟩
  · unfold oIf2 at h
    split at h
    · rename_i y x r
      intro ls H locs hl hr
      exact lv_icmp_lt C.1 C.2.1 hd ht (fun q => by rw [if_pos (by simpa using q)] at h; cases h; exact kk ls H locs hl hr) (fun q => by rw [if_neg (by simpa using q)] at h; cases h; exact kk ls H locs hl hr)
    · cases h
  · unfold oIf2 at h
    split at h
    · split at h <;> cases h
    · cases h
theorem xs_icmp_ge (C : xCtx g cc nL own ret p s m args meth c) {off : Int} {t : Nat} (hd : decode cc pc = .ok (.if_icmp .ge off, 3)) (ht : (pc : Int) + off = (t : Int)) : xSim (xV p l e R s m args below meth c Q g nL) r0 pc (oIf2 (fun x y => decide (y ≤ x)) t (pc + 3)) := by
  refine ⟨fun L st I pc' L' st' I' h kk => ?_, fun L st I h => ?_⟩
  · unfold oIf2 at h
    split at h
    · rename_i y x r
      intro ls H locs hl hr
      exact lv_icmp_ge C.1 C.2.1 hd ht (fun q => by rw [if_pos (by simpa using q)] at h; cases h; exact kk ls H locs hl hr) (fun q => by rw [if_neg (by simpa using q)] at h; cases h; exact kk ls H locs hl hr)
    · cases h
  · unfold oIf2 at h
    split at h
    · split at h <;> cases h
    · cases h
theorem xs_icmp_gt (C : xCtx g cc nL own ret p s m args meth c) {off : Int} {t : Nat} (hd : decode cc pc = .ok (.if_icmp .gt off, 3)) (ht : (pc : Int) + off = (t : Int)) : xSim (xV p l e R s m args below meth c Q g nL) r0 pc (oIf2 (fun x y => decide (y < x)) t (pc + 3)) := by
  refine ⟨fun L st I pc' L' st' I' h kk => ?_, fun L st I h => ?_⟩
  · unfold oIf2 at h
    split at h
    · rename_i y x r
      intro ls H locs hl hr
      exact lv_icmp_gt C.1 C.2.1 hd ht (fun q => by rw [if_pos (by simpa using q)] at h; cases h; exact kk ls H locs hl hr) (fun q => by rw [if_neg (by simpa using q)] at h; cases h; exact kk ls H locs hl hr)
    · cases h
  · unfold oIf2 at h
    split at h
    · split at h <;> cases h
    · cases h
theorem xs_icmp_le (C : xCtx g cc nL own ret p s m args meth c) {off : Int} {t : Nat} (hd : decode cc pc = .ok (.if_icmp .le off, 3)) (ht : (pc : Int) + off = (t : Int)) : xSim (xV p l e R s m args below meth c Q g nL) r0 pc (oIf2 (fun x y => decide (x ≤ y)) t (pc + 3)) := by
  refine ⟨fun L st I pc' L' st' I' h kk => ?_, fun L st I h => ?_⟩
  · unfold oIf2 at h
    split at h
    · rename_i y x r
      intro ls H locs hl hr
      exact lv_icmp_le C.1 C.2.1 hd ht (fun q => by rw [if_pos (by simpa using q)] at h; cases h; exact kk ls H locs hl hr) (fun q => by rw [if_neg (by simpa using q)] at h; cases h; exact kk ls H locs hl hr)
    · cases h
  · unfold oIf2 at h
    split at h
    · split at h <;> cases h
    · cases h
theorem xs_ifnull (C : xCtx g cc nL own ret p s m args meth c) {off : Int} {t : Nat} (hd : decode cc pc = .ok (.ifnull off, 3)) (ht : (pc : Int) + off = (t : Int)) : xSim (xV p l e R s m args below meth c Q g nL) r0 pc (oIfnull t (pc + 3)) := by
  refine ⟨fun L st I pc' L' st' I' h kk => ?_, fun L st I h => ?_⟩
  · unfold oIfnull at h
    split at h
    · cases h
      intro ls H locs hl hr
      exact lv_ifnullN C.1 C.2.1 hd ht (kk ls H locs hl hr)
    · rename_i x r
      cases h
      intro ls H locs hl hr
      exact lv_ifnull C.1 C.2.1 hd (kk ls H locs hl hr)
    · cases h
  · unfold oIfnull at h
    split at h <;> cases h
theorem xsel_in : ∀ (ts : List Nat) (lo x : Int) (d : Nat) (y : Int32), y.toInt = x → ¬ x < lo → ¬ (lo + ts.length ≤ x) → ts[(x - lo).toNat]? = some (xsel y lo ts d)
  | [], lo, x, d, y, _, h1, h2 => by simp at h2; omega
  | t :: ts, lo, x, d, y, hy, h1, h2 => by
    unfold xsel
    by_cases h : y.toInt = lo
    · rw [if_pos h, show (x - lo).toNat = 0 by omega]
      rfl
    · rw [if_neg h, show (x - lo).toNat = (x - (lo + 1)).toNat + 1 by omega, List.getElem?_cons_succ]
      exact xsel_in ts (lo + 1) x d y hy (by omega) (by simp at h2; omega)
theorem xsel_out : ∀ (ts : List Nat) (lo x : Int) (d : Nat) (y : Int32), y.toInt = x → (x < lo ∨ lo + ts.length ≤ x) → xsel y lo ts d = d
  | [], lo, x, d, y, _, _ => rfl
  | t :: ts, lo, x, d, y, hy, h => by
    unfold xsel
    rw [if_neg (by simp at h; omega)]
    exact xsel_out ts (lo + 1) x d y hy (by simp at h ⊢; omega)
theorem xs_tab (C : xCtx g cc nL own ret p s m args meth c) {dflt lo hi : Int} {offs : Array Int} {len : Nat} {ts : List Nat} {d : Nat} (hd : decode cc pc = .ok (.tableswitch dflt lo hi offs, len)) (ht : offs.toList.map (fun o => (pc : Int) + o) = ts.map (fun (t : Nat) => (t : Int))) (hh : hi + 1 = lo + ts.length) (hdf : (pc : Int) + dflt = (d : Int)) : xSim (xV p l e R s m args below meth c Q g nL) r0 pc (oTab lo ts d) := by
  refine ⟨fun L st I pc' L' st' I' h kk => ?_, fun L st I h => ?_⟩
  · unfold oTab at h
    split at h
    · rename_i x r
      cases h
      intro ls H locs hl hr
      by_cases hx : x.toInt < lo ∨ lo + ts.length ≤ x.toInt
      · have e9 := xsel_out ts lo x.toInt d x rfl hx
        refine lv_tableOut C.1 C.2.1 hd (by omega) hdf ?_
        have := kk ls H locs hl hr
        rw [e9] at this
        exact this
      · have e9 := xsel_in ts lo x.toInt d x rfl (by omega) (by omega)
        have e8 : (offs.toList.map (fun o => (pc : Int) + o))[(x.toInt - lo).toNat]? = some ((xsel x lo ts d : Nat) : Int) := by
          rw [ht, List.getElem?_map, e9]
          rfl
        rw [List.getElem?_map] at e8
        cases e7 : offs.toList[(x.toInt - lo).toNat]? with
        | none => rw [e7] at e8; cases e8
        | some o9 =>
          rw [e7] at e8
          exact lv_tableIn C.1 C.2.1 hd (by omega) (by omega) (by rw [← Array.getElem?_toList]; exact e7) (Option.some.inj e8) (kk ls H locs hl hr)
    · cases h
  · unfold oTab at h
    split at h <;> cases h
theorem xsel2_at : ∀ (ps : List (Int × Int)) (ts : List (Int × Nat)) (dflt : Int) (d pc : Nat) (x : Int32), ps.map (fun q => (q.1, (pc : Int) + q.2)) = ts.map (fun (q : Int × Nat) => (q.1, (q.2 : Int))) → (pc : Int) + dflt = (d : Int) → (pc : Int) + Op.lookupswitch.offset ps dflt x.toInt = ((xsel2 x ts d : Nat) : Int)
  | [], [], dflt, d, pc, x, _, hd => hd
  | [], t :: ts, dflt, d, pc, x, h, _ => by cases h
  | q :: ps, [], dflt, d, pc, x, h, _ => by cases h
  | q :: ps, t :: ts, dflt, d, pc, x, h, hd => by
    simp only [List.map_cons, List.cons.injEq, Prod.mk.injEq] at h
    obtain ⟨⟨h1, h2⟩, h3⟩ := h
    obtain ⟨q1, q2⟩ := q
    unfold xsel2
    rw [Op.lookupswitch.offset_cons]
    dsimp only at h1 h2
    by_cases hx : x.toInt = t.1
    · rw [if_pos hx, if_pos (by omega), h2]
    · rw [if_neg hx, if_neg (by omega)]
      exact xsel2_at ps ts dflt d pc x h3 hd
theorem xs_lkp (C : xCtx g cc nL own ret p s m args meth c) {dflt : Int} {ps : Array (Int × Int)} {len : Nat} {ts : List (Int × Nat)} {d : Nat} (hd : decode cc pc = .ok (.lookupswitch dflt ps, len)) (hp : (ps.toList.zip (ps.toList.drop 1)).all (fun (a, next) => a.1 < next.1) = true) (ht : ps.toList.map (fun q => (q.1, (pc : Int) + q.2)) = ts.map (fun (q : Int × Nat) => (q.1, (q.2 : Int)))) (hdf : (pc : Int) + dflt = (d : Int)) : xSim (xV p l e R s m args below meth c Q g nL) r0 pc (oLkp ts d) := by
  refine ⟨fun L st I pc' L' st' I' h kk => ?_, fun L st I h => ?_⟩
  · unfold oLkp at h
    split at h
    · rename_i x r
      cases h
      intro ls H locs hl hr
      exact lv_lookup C.1 C.2.1 hd hp rfl (xsel2_at ps.toList ts dflt d pc x ht hdf) (kk ls H locs hl hr)
    · cases h
  · unfold oLkp at h
    split at h <;> cases h
theorem xs_max (C : xCtx g cc nL own ret p s m args meth c) {j : Nat} (hd : decode cc pc = .ok (.invokestatic j, 3)) (hw : Cond.methodLink own j Lib.Math.max.name ∈ wsAll) (hw2 : Cond.static Lib.Math.max.name ∈ wsAll) (hw3 : Cond.initialized "java/lang/Math" ∈ wsAll) (hw4 : Cond.code Lib.Math.max.name Lib.Math.max.code 2 (some .int) ∈ wsAll) (hR : 1 ≤ R.frames ∧ 21 ≤ R.locals) : xSim (xV p l e R s m args below meth c Q g nL) r0 pc (oMax (pc + 3)) := by
  refine ⟨fun L st I pc' L' st' I' h kk => ?_, fun L st I h => ?_⟩
  · unfold oMax at h
    split at h
    · rename_i y x r
      cases hb : Nat.ble ((r.map fun v => v.category).sum) 8 with
      | false => rw [hb] at h; cases h
      | true =>
        rw [hb] at h
        cases h
        intro ls H locs hl hr
        have h8 := Nat.le_of_ble_eq_true hb
        rw [← xc_cats g] at h8
        exact va_mmax C.1 C.2.1 (C.2.2.1.trans hl.1.symm) C.2.2.2.1 (C.2.2.2.2.1 _ hw) (C.2.2.2.2.1 _ hw2) (C.2.2.2.2.1 _ hw3) (C.2.2.2.2.1 _ hw4) hR.1 (by have := hR.2; omega) (Nat.zero_le _) (Nat.zero_le _) hd (kk ls H locs hl hr)
    · cases h
  · unfold oMax at h
    split at h
    · rename_i y x r
      cases hb : Nat.ble ((r.map fun v => v.category).sum) 8 <;> rw [hb] at h <;> cases h
    · cases h
theorem xs_min (C : xCtx g cc nL own ret p s m args meth c) {j : Nat} (hd : decode cc pc = .ok (.invokestatic j, 3)) (hw : Cond.methodLink own j Lib.Math.min.name ∈ wsAll) (hw2 : Cond.static Lib.Math.min.name ∈ wsAll) (hw3 : Cond.initialized "java/lang/Math" ∈ wsAll) (hw4 : Cond.code Lib.Math.min.name Lib.Math.min.code 2 (some .int) ∈ wsAll) (hR : 1 ≤ R.frames ∧ 21 ≤ R.locals) : xSim (xV p l e R s m args below meth c Q g nL) r0 pc (oMin (pc + 3)) := by
  refine ⟨fun L st I pc' L' st' I' h kk => ?_, fun L st I h => ?_⟩
  · unfold oMin at h
    split at h
    · rename_i y x r
      cases hb : Nat.ble ((r.map fun v => v.category).sum) 8 with
      | false => rw [hb] at h; cases h
      | true =>
        rw [hb] at h
        cases h
        intro ls H locs hl hr
        have h8 := Nat.le_of_ble_eq_true hb
        rw [← xc_cats g] at h8
        exact va_mmin C.1 C.2.1 (C.2.2.1.trans hl.1.symm) C.2.2.2.1 (C.2.2.2.2.1 _ hw) (C.2.2.2.2.1 _ hw2) (C.2.2.2.2.1 _ hw3) (C.2.2.2.2.1 _ hw4) hR.1 (by have := hR.2; omega) (Nat.zero_le _) (Nat.zero_le _) hd (kk ls H locs hl hr)
    · cases h
  · unfold oMin at h
    split at h
    · rename_i y x r
      cases hb : Nat.ble ((r.map fun v => v.category).sum) 8 <;> rw [hb] at h <;> cases h
    · cases h
end XM3V
end XM3
