/-! ===== calls, ends, a whole method ===== -/
section XM5
def xSl : List Value → Nat
  | [] => 0
  | v :: t => (if v.category = 2 then 2 else 1) + xSl t
theorem xSl_eq (g : xG) : ∀ vs : List Value, (lg_sl (vs.map (xc g))).length = xSl vs
  | [] => rfl
  | v :: t => by
    have ih := xSl_eq g t
    unfold lg_sl at ih ⊢
    unfold xSl
    simp only [List.map_cons, List.flatMap_cons, List.length_append, ih, xc_cat]
    split <;> rfl
/-- what a method computes from its arguments -/
noncomputable def xrun (k : xCode) (nL : Nat) : xRun := fun vs I => cond (Nat.ble (xSl vs) nL) (xgo k 0 (xin nL vs) [] I) none
def xDesc (y : MethodName) (n : Nat) : Prop := y.cls ≠ "java/lang/invoke/MethodHandle" ∧ y.cls ≠ "java/lang/invoke/VarHandle" ∧ (parseMethodDescriptor y.desc).map (fun d => d.parameters.length) = some n
section XM5V
variable {p : Program} {l : Launch} {e : Env} {R : Room} {s : State} {m : MethodId} {args : Array Value} {below : List Frame} {meth : Method} {c : Code} {Q : State → Prop} {g : xG} {cc : ByteArray} {nL : Nat} {own : String} {ret : Option FieldType} {pc : Nat} {r0 : xRes}
theorem xcall {v0 : Option Value} {I' : xMem} {H : Heap} {locs : List Loc} {ls : Array Slot} {st0 rest : List Value} {a : Array Value} (hr : va_Run p l e R s m args below meth c H locs 0 0 0 0 (F0 m pc ls st0) rest (xQc g (.inl v0, I') a) (xA g)) (hS : va_S (xA g) s.heap H locs) (hD : va_D (xA g) (xWl g I'))
    (kk : ∀ (H1 : Heap) (locs1 : List Loc), xRep g s I' H1 locs1 → W p l e R s m args below meth c H1 locs1 0 0 Q (F0 m (pc + 3) ls ((v0.map (xc g)).toList ++ rest))) : W p l e R s m args below meth c H locs 0 0 Q (F0 m pc ls st0) := by
  intro T hT X
  obtain ⟨v, st₀, t, T', L, h0, X', hL, e1, e2, ⟨hv, hP, hz, hk⟩, st⟩ := hr T hT X
  cases hv
  rw [h0] at hz hk
  obtain ⟨t2, a1, b1⟩ := kk T'.heap (locs ++ L) ⟨by rw [e1]; exact hP, hD, Nat.le_trans hS.1 (by rw [e1]; exact hz), fun q h1 h2 => by rw [e1, hk q (Nat.lt_of_lt_of_le h1 hS.1) h2]; exact hS.2.1 q h1 h2, fun q hq => by
      rcases List.mem_append.mp hq with h | h
      · exact hS.2.2 q h
      · exact hL q h⟩ T' rfl X'
  exact ⟨t2, st t2 a1, b1⟩
theorem xpre {As : List Value} {H : Heap} {locs : List Loc} {I : xMem} (hW : xWorld g s) (hr : xRep g s I H locs) (hz : g.2.2.2 ≤ s.heap.size) : ∀ U : State, U.heap = H → s.WarmedH U.vm → xPc g As I ((As.map (xc g)).toArray) U := fun U hU hv => ⟨rfl, xWorld_go hW hr.2.2 hU hv, by rw [hU]; exact hr.1, hr.2.1, by rw [hU]; exact Nat.le_trans hz hr.2.2.1⟩
theorem xrecv {ci b : Nat} {C : String} {T : u_T} {N : Nat} {H : Heap} {locs : List Loc} {I : xMem} (hK : va_K g.1 vwCl (xTys g) s) (hr : xRep g s I H locs) (hk : xK b = ci) (h10 : ci < 10) (hc : vwCl[ci]? = some (C, T, N)) : ∃ cell : Cell, H[g.2.1 b]? = some cell ∧ cell.vm.isStatics = false ∧ s.vm.findClass C = some cell.cls := by
  have hlt : b < 211 := xK_lt (by omega)
  exact va_recv hK hr.1 hc (q0 := b) (by rw [xWl_get g I hlt, xCell_o g I hk h10])
/-- a call of a method of an object: what it returns, in the machine -/
theorem xW_callV (C : xCtx g cc nL own ret p s m args meth c) {y : MethodName} {cy : ByteArray} {nY idx ci n fr lo N b : Nat} {ry : Option FieldType} {run : xRun} {D : String} {T : u_T} {st rest : List Value} {ls : Array Slot} {H : Heap} {locs : List Loc} {I I' : xMem} {v0 : Option Value} (hM : xMet l g y cy nY ry fr lo run) (hd : decode cc pc = .ok (.invokevirtual idx, 3)) (hc : vwCl[ci]? = some (D, T, N)) (h10 : ci < 10) (hyc : y.cls = D) (hy : xDesc y n)
    (hw1 : Cond.methodLink own idx y ∈ wsAll) (hw2 : Cond.instanceMethod y ∈ wsAll) (hw3 : Cond.selects D y y ∈ wsAll) (hw4 : Cond.initialized D ∈ wsAll) (hw5 : Cond.code y cy nY ry ∈ wsAll) (hR : fr + 1 ≤ R.frames ∧ 8 + (nY + 11) + lo ≤ R.locals)
    (hst : st.drop n = .ref b :: rest) (hk : xK b = ci) (hcat : (rest.map fun v => v.category).sum ≤ 8) (hrun : run (.ref b :: (st.take n).reverse) I = some (.inl v0, I')) (hsz : ls.size = nL) (hr : xRep g s I H locs)
    (kk : ∀ (H1 : Heap) (locs1 : List Loc), xRep g s I' H1 locs1 → W p l e R s m args below meth c H1 locs1 0 0 Q (F0 m (pc + 3) ls ((v0.map (xc g)).toList ++ rest.map (xc g)))) : W p l e R s m args below meth c H locs 0 0 Q (F0 m pc ls (st.map (xc g))) := by
  obtain ⟨hs1, hs2⟩ := xst_split g hst
  have hM1 := hM (.ref b :: (st.take n).reverse) I v0 I' hrun
  refine xcall (va_runV (As := (st.take n).reverse.map (xc g)) (rest := rest.map (xc g)) (nL := nL) (n := n) ⟨C.1, C.2.1, C.2.2.1, C.2.2.2.1, C.2.2.2.2.1⟩ hM1 (cwV n C.2.2.2.2.1 (xgoodV hw1 hw2 hw3 hw4 hw5) rfl rfl rfl ⟨hyc, hy⟩ hR) ⟨xPc_blind, xrecv C.2.2.2.2.2.1.1 hr hk h10 hc, xpre C.2.2.2.2.2.1 hr C.2.2.2.2.2.2.2.2.1⟩ rfl hs2 hsz hs1 (lv_room (by rw [xc_cats]; exact hcat)) hd ⟨Nat.zero_le _, Nat.zero_le _⟩) hr.2.2 (xWl_D hr.2.1) kk
theorem xs_callV (C : xCtx g cc nL own ret p s m args meth c) {y : MethodName} {cy : ByteArray} {nY idx ci n fr lo N : Nat} {ry : Option FieldType} {run : xRun} {D : String} {T : u_T} (hM : xMet l g y cy nY ry fr lo run) (hd : decode cc pc = .ok (.invokevirtual idx, 3)) (hc : vwCl[ci]? = some (D, T, N)) (h10 : ci < 10) (hyc : y.cls = D) (hy : xDesc y n)
    (hw1 : Cond.methodLink own idx y ∈ wsAll) (hw2 : Cond.instanceMethod y ∈ wsAll) (hw3 : Cond.selects D y y ∈ wsAll) (hw4 : Cond.initialized D ∈ wsAll) (hw5 : Cond.code y cy nY ry ∈ wsAll) (hR : fr + 1 ≤ R.frames ∧ 8 + (nY + 11) + lo ≤ R.locals) : xSim (xV p l e R s m args below meth c Q g nL) r0 pc (oCallV ci n run (pc + 3)) := by
  refine ⟨fun L st I pc' L' st' I' h kk => ?_, fun L st I h => ?_⟩
  · unfold oCallV at h
    split at h
    · rename_i b rest hst
      cases hb : (Nat.beq (xK b) ci && Nat.ble ((rest.map fun v => v.category).sum) 8) with
      | false => rw [hb] at h; cases h
      | true =>
        rw [hb] at h
        simp only [Bool.and_eq_true] at hb
        have h : xrV (run (.ref b :: (st.take n).reverse) I) (pc + 3) L rest = some (.inl (pc', L', st', I')) := h
        unfold xrV at h
        split at h
        · rename_i v I2 hrun
          cases h
          intro ls H locs hl hr
          exact xW_callV C hM hd hc h10 hyc hy hw1 hw2 hw3 hw4 hw5 hR hst (Nat.eq_of_beq_eq_true hb.1) (Nat.le_of_ble_eq_true hb.2) hrun hl.1 hr (fun H1 locs1 hr1 => kk ls H1 locs1 hl hr1)
        · cases h
    · cases h
  · unfold oCallV at h
    split at h
    · rename_i b rest hst
      cases hb : (Nat.beq (xK b) ci && Nat.ble ((rest.map fun v => v.category).sum) 8) with
      | false => rw [hb] at h; cases h
      | true =>
        rw [hb] at h
        have h : xrV (run (.ref b :: (st.take n).reverse) I) (pc + 3) L rest = some (.inr r0) := h
        unfold xrV at h
        split at h <;> cases h
    · cases h
theorem xs_callU (C : xCtx g cc nL own ret p s m args meth c) {y : MethodName} {cy : ByteArray} {nY idx ci n fr lo N : Nat} {ry : Option FieldType} {run : xRun} {D : String} {T : u_T} (hM : xMet l g y cy nY ry fr lo run) (hd : decode cc pc = .ok (.invokevirtual idx, 3)) (hc : vwCl[ci]? = some (D, T, N)) (h10 : ci < 10) (hyc : y.cls = D) (hy : xDesc y n)
    (hw1 : Cond.methodLink own idx y ∈ wsAll) (hw2 : Cond.instanceMethod y ∈ wsAll) (hw3 : Cond.selects D y y ∈ wsAll) (hw4 : Cond.initialized D ∈ wsAll) (hw5 : Cond.code y cy nY ry ∈ wsAll) (hR : fr + 1 ≤ R.frames ∧ 8 + (nY + 11) + lo ≤ R.locals) : xSim (xV p l e R s m args below meth c Q g nL) r0 pc (oCallU ci n run (pc + 3)) := by
  refine ⟨fun L st I pc' L' st' I' h kk => ?_, fun L st I h => ?_⟩
  · unfold oCallU at h
    split at h
    · rename_i b rest hst
      cases hb : (Nat.beq (xK b) ci && Nat.ble ((rest.map fun v => v.category).sum) 8) with
      | false => rw [hb] at h; cases h
      | true =>
        rw [hb] at h
        simp only [Bool.and_eq_true] at hb
        have h : xrU (run (.ref b :: (st.take n).reverse) I) (pc + 3) L rest = some (.inl (pc', L', st', I')) := h
        unfold xrU at h
        split at h
        · rename_i I2 hrun
          cases h
          intro ls H locs hl hr
          exact xW_callV C hM hd hc h10 hyc hy hw1 hw2 hw3 hw4 hw5 hR hst (Nat.eq_of_beq_eq_true hb.1) (Nat.le_of_ble_eq_true hb.2) hrun hl.1 hr (fun H1 locs1 hr1 => kk ls H1 locs1 hl hr1)
        · cases h
    · cases h
  · unfold oCallU at h
    split at h
    · rename_i b rest hst
      cases hb : (Nat.beq (xK b) ci && Nat.ble ((rest.map fun v => v.category).sum) 8) with
      | false => rw [hb] at h; cases h
      | true =>
        rw [hb] at h
        have h : xrU (run (.ref b :: (st.take n).reverse) I) (pc + 3) L rest = some (.inr r0) := h
        unfold xrU at h
        split at h <;> cases h
    · cases h
/-- a call of a static method -/
theorem xW_callS (C : xCtx g cc nL own ret p s m args meth c) {y : MethodName} {cy : ByteArray} {nY idx n fr lo : Nat} {ry : Option FieldType} {run : xRun} {st : List Value} {ls : Array Slot} {H : Heap} {locs : List Loc} {I I' : xMem} {v0 : Option Value} (hM : xMet l g y cy nY ry fr lo run) (hd : decode cc pc = .ok (.invokestatic idx, 3)) (hyc : y.cls = own) (hy : xDesc y n)
    (hw1 : Cond.methodLink own idx y ∈ wsAll) (hw2 : Cond.static y ∈ wsAll) (hw4 : Cond.initialized own ∈ wsAll) (hw5 : Cond.code y cy nY ry ∈ wsAll) (hR : fr + 1 ≤ R.frames ∧ 8 + (nY + 11) + lo ≤ R.locals)
    (hst : n ≤ st.length) (hcat : ((st.drop n).map fun v => v.category).sum ≤ 8) (hrun : run (st.take n).reverse I = some (.inl v0, I')) (hsz : ls.size = nL) (hr : xRep g s I H locs)
    (kk : ∀ (H1 : Heap) (locs1 : List Loc), xRep g s I' H1 locs1 → W p l e R s m args below meth c H1 locs1 0 0 Q (F0 m (pc + 3) ls ((v0.map (xc g)).toList ++ (st.drop n).map (xc g)))) : W p l e R s m args below meth c H locs 0 0 Q (F0 m pc ls (st.map (xc g))) := by
  obtain ⟨hs1, hs2⟩ := xst_split2 g hst
  have hM1 := hM (st.take n).reverse I v0 I' hrun
  refine xcall (va_runS (As := (st.take n).reverse.map (xc g)) (rest := (st.drop n).map (xc g)) (nL := nL) (n := n) ⟨C.1, C.2.1, C.2.2.1, C.2.2.2.1, C.2.2.2.2.1⟩ hM1 (cwS n C.2.2.2.2.1 (xgoodS hw1 hw2 hw4 hw5) rfl rfl rfl ⟨hyc, hy⟩ hR) ⟨xPc_blind, xpre C.2.2.2.2.2.1 hr C.2.2.2.2.2.2.2.2.1⟩ rfl hs2 hsz hs1 (lv_room (by rw [xc_cats]; exact hcat)) hd ⟨Nat.zero_le _, Nat.zero_le _⟩) hr.2.2 (xWl_D hr.2.1) kk
/-- of a static method of another class, by its link alone -/
theorem xW_callO (C : xCtx g cc nL own ret p s m args meth c) {y : MethodName} {cy : ByteArray} {nY idx n fr lo : Nat} {ry : Option FieldType} {run : xRun} {st : List Value} {ls : Array Slot} {H : Heap} {locs : List Loc} {I I' : xMem} {v0 : Option Value} (hM : xMet l g y cy nY ry fr lo run) (hd : decode cc pc = .ok (.invokestatic idx, 3)) (hy : xDesc y n)
    (hw1 : Cond.methodLink own idx y ∈ wsAll) (hw2 : Cond.static y ∈ wsAll) (hw4 : Cond.initialized y.cls ∈ wsAll) (hw5 : Cond.code y cy nY ry ∈ wsAll) (hR : fr + 1 ≤ R.frames ∧ 8 + (nY + 11) + lo ≤ R.locals)
    (hst : n ≤ st.length) (hcat : ((st.drop n).map fun v => v.category).sum ≤ 8) (hrun : run (st.take n).reverse I = some (.inl v0, I')) (hsz : ls.size = nL) (hr : xRep g s I H locs)
    (kk : ∀ (H1 : Heap) (locs1 : List Loc), xRep g s I' H1 locs1 → W p l e R s m args below meth c H1 locs1 0 0 Q (F0 m (pc + 3) ls ((v0.map (xc g)).toList ++ (st.drop n).map (xc g)))) : W p l e R s m args below meth c H locs 0 0 Q (F0 m pc ls (st.map (xc g))) := by
  obtain ⟨hs1, hs2⟩ := xst_split2 g hst
  have hM1 := hM (st.take n).reverse I v0 I' hrun
  have hts := C.2.2.2.2.1
  refine xcall (va_runS (As := (st.take n).reverse.map (xc g)) (rest := (st.drop n).map (xc g)) (nL := nL) (n := n) ⟨C.1, C.2.1, C.2.2.1, C.2.2.2.1, hts⟩ hM1 ⟨callB_of n hts (xgoodC hw5) rfl rfl rfl (hts _ hw4) (hts _ hw1) hy hR, hts _ hw2⟩ ⟨xPc_blind, xpre C.2.2.2.2.2.1 hr C.2.2.2.2.2.2.2.2.1⟩ rfl hs2 hsz hs1 (lv_room (by rw [xc_cats]; exact hcat)) hd ⟨Nat.zero_le _, Nat.zero_le _⟩) hr.2.2 (xWl_D hr.2.1) kk
/-- a static method of a nest mate -/
theorem xW_callN (C : xCtx g cc nL own ret p s m args meth c) {y : MethodName} {cy : ByteArray} {nY idx n fr lo : Nat} {host : String} {ry : Option FieldType} {run : xRun} {st : List Value} {ls : Array Slot} {H : Heap} {locs : List Loc} {I I' : xMem} {v0 : Option Value} (hM : xMet l g y cy nY ry fr lo run) (hd : decode cc pc = .ok (.invokestatic idx, 3)) (hy : xDesc y n)
    (hw1 : Cond.methodLinkNest own idx y host ∈ xNest) (hw2 : Cond.static y ∈ wsAll) (hw4 : Cond.initialized y.cls ∈ wsAll) (hw5 : Cond.code y cy nY ry ∈ wsAll) (hR : fr + 1 ≤ R.frames ∧ 8 + (nY + 11) + lo ≤ R.locals)
    (hst : n ≤ st.length) (hcat : ((st.drop n).map fun v => v.category).sum ≤ 8) (hrun : run (st.take n).reverse I = some (.inl v0, I')) (hsz : ls.size = nL) (hr : xRep g s I H locs)
    (kk : ∀ (H1 : Heap) (locs1 : List Loc), xRep g s I' H1 locs1 → W p l e R s m args below meth c H1 locs1 0 0 Q (F0 m (pc + 3) ls ((v0.map (xc g)).toList ++ (st.drop n).map (xc g)))) : W p l e R s m args below meth c H locs 0 0 Q (F0 m pc ls (st.map (xc g))) := by
  obtain ⟨hs1, hs2⟩ := xst_split2 g hst
  have hM1 := hM (st.take n).reverse I v0 I' hrun
  have hts := C.2.2.2.2.1
  refine xcall (va_runSN (As := (st.take n).reverse.map (xc g)) (rest := (st.drop n).map (xc g)) (nL := nL) (n := n) ⟨C.1, C.2.1, C.2.2.1, C.2.2.2.1, hts⟩ hM1 ⟨va_cnB n hts (xgoodC hw5) rfl rfl rfl (C.2.2.2.2.2.1.2.1 _ hw1) (hts _ hw4) hy hR, hts _ hw2, trivial⟩ ⟨xPc_blind, xpre C.2.2.2.2.2.1 hr C.2.2.2.2.2.2.2.2.1⟩ rfl hs2 hsz hs1 (lv_room (by rw [xc_cats]; exact hcat)) hd ⟨Nat.zero_le _, Nat.zero_le _⟩) hr.2.2 (xWl_D hr.2.1) kk
theorem xs_callSV (C : xCtx g cc nL own ret p s m args meth c) {y : MethodName} {cy : ByteArray} {nY idx n fr lo : Nat} {ry : Option FieldType} {run : xRun} (hM : xMet l g y cy nY ry fr lo run) (hd : decode cc pc = .ok (.invokestatic idx, 3)) (hyc : y.cls = own) (hy : xDesc y n) (hw1 : Cond.methodLink own idx y ∈ wsAll)
    (hw2 : Cond.static y ∈ wsAll) (hw4 : Cond.initialized own ∈ wsAll) (hw5 : Cond.code y cy nY ry ∈ wsAll) (hR : fr + 1 ≤ R.frames ∧ 8 + (nY + 11) + lo ≤ R.locals) : xSim (xV p l e R s m args below meth c Q g nL) r0 pc (oCallSV n run (pc + 3)) := by
  refine ⟨fun L st I pc' L' st' I' h kk => ?_, fun L st I h => ?_⟩
  · unfold oCallSV at h
    cases hb : (Nat.ble n st.length && Nat.ble (((st.drop n).map fun v => v.category).sum) 8) with
    | false => rw [hb] at h; cases h
    | true =>
      rw [hb] at h
      simp only [Bool.and_eq_true] at hb
      have h : xrV (run (st.take n).reverse I) (pc + 3) L (st.drop n) = some (.inl (pc', L', st', I')) := h
      unfold xrV at h
      split at h
      · rename_i v I2 hrun
        cases h
        intro ls H locs hl hr
        exact xW_callS C hM hd hyc hy hw1 hw2 hw4 hw5 hR (Nat.le_of_ble_eq_true hb.1) (Nat.le_of_ble_eq_true hb.2) hrun hl.1 hr (fun H1 locs1 hr1 => kk ls H1 locs1 hl hr1)
      · cases h
  · unfold oCallSV at h
    cases hb : (Nat.ble n st.length && Nat.ble (((st.drop n).map fun v => v.category).sum) 8) with
    | false => rw [hb] at h; cases h
    | true =>
      rw [hb] at h
      have h : xrV (run (st.take n).reverse I) (pc + 3) L (st.drop n) = some (.inr r0) := h
      unfold xrV at h
      split at h <;> cases h
theorem xs_callSU (C : xCtx g cc nL own ret p s m args meth c) {y : MethodName} {cy : ByteArray} {nY idx n fr lo : Nat} {ry : Option FieldType} {run : xRun} (hM : xMet l g y cy nY ry fr lo run) (hd : decode cc pc = .ok (.invokestatic idx, 3)) (hyc : y.cls = own) (hy : xDesc y n) (hw1 : Cond.methodLink own idx y ∈ wsAll)
    (hw2 : Cond.static y ∈ wsAll) (hw4 : Cond.initialized own ∈ wsAll) (hw5 : Cond.code y cy nY ry ∈ wsAll) (hR : fr + 1 ≤ R.frames ∧ 8 + (nY + 11) + lo ≤ R.locals) : xSim (xV p l e R s m args below meth c Q g nL) r0 pc (oCallSU n run (pc + 3)) := by
  refine ⟨fun L st I pc' L' st' I' h kk => ?_, fun L st I h => ?_⟩
  · unfold oCallSU at h
    cases hb : (Nat.ble n st.length && Nat.ble (((st.drop n).map fun v => v.category).sum) 8) with
    | false => rw [hb] at h; cases h
    | true =>
      rw [hb] at h
      simp only [Bool.and_eq_true] at hb
      have h : xrU (run (st.take n).reverse I) (pc + 3) L (st.drop n) = some (.inl (pc', L', st', I')) := h
      unfold xrU at h
      split at h
      · rename_i I2 hrun
        cases h
        intro ls H locs hl hr
        exact xW_callS C hM hd hyc hy hw1 hw2 hw4 hw5 hR (Nat.le_of_ble_eq_true hb.1) (Nat.le_of_ble_eq_true hb.2) hrun hl.1 hr (fun H1 locs1 hr1 => kk ls H1 locs1 hl hr1)
      · cases h
  · unfold oCallSU at h
    cases hb : (Nat.ble n st.length && Nat.ble (((st.drop n).map fun v => v.category).sum) 8) with
    | false => rw [hb] at h; cases h
    | true =>
      rw [hb] at h
      have h : xrU (run (st.take n).reverse I) (pc + 3) L (st.drop n) = some (.inr r0) := h
      unfold xrU at h
      split at h <;> cases h
theorem xs_callOV (C : xCtx g cc nL own ret p s m args meth c) {y : MethodName} {cy : ByteArray} {nY idx n fr lo : Nat} {ry : Option FieldType} {run : xRun} (hM : xMet l g y cy nY ry fr lo run) (hd : decode cc pc = .ok (.invokestatic idx, 3)) (hy : xDesc y n) (hw1 : Cond.methodLink own idx y ∈ wsAll)
    (hw2 : Cond.static y ∈ wsAll) (hw4 : Cond.initialized y.cls ∈ wsAll) (hw5 : Cond.code y cy nY ry ∈ wsAll) (hR : fr + 1 ≤ R.frames ∧ 8 + (nY + 11) + lo ≤ R.locals) : xSim (xV p l e R s m args below meth c Q g nL) r0 pc (oCallSV n run (pc + 3)) := by
  refine ⟨fun L st I pc' L' st' I' h kk => ?_, fun L st I h => ?_⟩
  · unfold oCallSV at h
    cases hb : (Nat.ble n st.length && Nat.ble (((st.drop n).map fun v => v.category).sum) 8) with
    | false => rw [hb] at h; cases h
    | true =>
      rw [hb] at h
      simp only [Bool.and_eq_true] at hb
      have h : xrV (run (st.take n).reverse I) (pc + 3) L (st.drop n) = some (.inl (pc', L', st', I')) := h
      unfold xrV at h
      split at h
      · rename_i v I2 hrun
        cases h
        intro ls H locs hl hr
        exact xW_callO C hM hd hy hw1 hw2 hw4 hw5 hR (Nat.le_of_ble_eq_true hb.1) (Nat.le_of_ble_eq_true hb.2) hrun hl.1 hr (fun H1 locs1 hr1 => kk ls H1 locs1 hl hr1)
      · cases h
  · unfold oCallSV at h
    cases hb : (Nat.ble n st.length && Nat.ble (((st.drop n).map fun v => v.category).sum) 8) with
    | false => rw [hb] at h; cases h
    | true =>
      rw [hb] at h
      have h : xrV (run (st.take n).reverse I) (pc + 3) L (st.drop n) = some (.inr r0) := h
      unfold xrV at h
      split at h <;> cases h
theorem xs_callNV (C : xCtx g cc nL own ret p s m args meth c) {y : MethodName} {cy : ByteArray} {nY idx n fr lo : Nat} {host : String} {ry : Option FieldType} {run : xRun} (hM : xMet l g y cy nY ry fr lo run) (hd : decode cc pc = .ok (.invokestatic idx, 3)) (hy : xDesc y n) (hw1 : Cond.methodLinkNest own idx y host ∈ xNest)
    (hw2 : Cond.static y ∈ wsAll) (hw4 : Cond.initialized y.cls ∈ wsAll) (hw5 : Cond.code y cy nY ry ∈ wsAll) (hR : fr + 1 ≤ R.frames ∧ 8 + (nY + 11) + lo ≤ R.locals) : xSim (xV p l e R s m args below meth c Q g nL) r0 pc (oCallSV n run (pc + 3)) := by
  refine ⟨fun L st I pc' L' st' I' h kk => ?_, fun L st I h => ?_⟩
  · unfold oCallSV at h
    cases hb : (Nat.ble n st.length && Nat.ble (((st.drop n).map fun v => v.category).sum) 8) with
    | false => rw [hb] at h; cases h
    | true =>
      rw [hb] at h
      simp only [Bool.and_eq_true] at hb
      have h : xrV (run (st.take n).reverse I) (pc + 3) L (st.drop n) = some (.inl (pc', L', st', I')) := h
      unfold xrV at h
      split at h
      · rename_i v I2 hrun
        cases h
        intro ls H locs hl hr
        exact xW_callN C hM hd hy hw1 hw2 hw4 hw5 hR (Nat.le_of_ble_eq_true hb.1) (Nat.le_of_ble_eq_true hb.2) hrun hl.1 hr (fun H1 locs1 hr1 => kk ls H1 locs1 hl hr1)
      · cases h
  · unfold oCallSV at h
    cases hb : (Nat.ble n st.length && Nat.ble (((st.drop n).map fun v => v.category).sum) 8) with
    | false => rw [hb] at h; cases h
    | true =>
      rw [hb] at h
      have h : xrV (run (st.take n).reverse I) (pc + 3) L (st.drop n) = some (.inr r0) := h
      unfold xrV at h
      split at h <;> cases h
theorem xs_iret {mc ms : Nat} (C : xCtx g cc nL own ret p s m args meth c) (hd : decode cc pc = .ok (.ireturn, 1)) (hret : ret = some .int) : xSim (xV p l e R s m args below meth c (vx_MQ below (xQc g r0) (xXC g r0) args s mc ms (xA g)) g nL) r0 pc oIret := by
  refine ⟨fun L st I pc' L' st' I' h kk => ?_, fun L st I h => ?_⟩
  · unfold oIret at h
    split at h <;> cases h
  · unfold oIret at h
    split at h
    · cases h
      intro ls H locs hl hr
      exact W.widen (k := mc) (n := ms) (Nat.zero_le _) (Nat.zero_le _) (vx_ret (W.iret C.1 C.2.1 (C.2.2.2.2.2.2.1.trans hret) (fun t ht hW => ⟨rfl, by rw [ht]; exact hr.1, hr.2.2.F ht⟩) hr.2.2.2.2 hd C.2.2.2.2.2.2.2.1))
    · cases h
theorem xs_zret {mc ms : Nat} (C : xCtx g cc nL own ret p s m args meth c) (hd : decode cc pc = .ok (.ireturn, 1)) (hret : ret = some .boolean) : xSim (xV p l e R s m args below meth c (vx_MQ below (xQc g r0) (xXC g r0) args s mc ms (xA g)) g nL) r0 pc oZret := by
  refine ⟨fun L st I pc' L' st' I' h kk => ?_, fun L st I h => ?_⟩
  · unfold oZret at h
    split at h
    · split at h <;> cases h
    · cases h
  · unfold oZret at h
    split at h
    · rename_i x
      by_cases h01 : x = 0 ∨ x = 1
      · rw [if_pos h01] at h
        cases h
        intro ls H locs hl hr
        exact W.widen (k := mc) (n := ms) (Nat.zero_le _) (Nat.zero_le _) (vx_ret (W.zret C.1 C.2.1 (C.2.2.2.2.2.2.1.trans hret) (by rcases h01 with rfl | rfl <;> decide) (fun t ht hW => ⟨rfl, by rw [ht]; exact hr.1, hr.2.2.F ht⟩) hr.2.2.2.2 hd C.2.2.2.2.2.2.2.1))
      · rw [if_neg h01] at h; cases h
    · cases h
theorem xs_aret {mc ms : Nat} {rt : FieldType} (C : xCtx g cc nL own ret p s m args meth c) (hd : decode cc pc = .ok (.areturn, 1)) (hret : ret = some rt) (hrt : ∃ n, rt = .object n) : xSim (xV p l e R s m args below meth c (vx_MQ below (xQc g r0) (xXC g r0) args s mc ms (xA g)) g nL) r0 pc oAret := by
  refine ⟨fun L st I pc' L' st' I' h kk => ?_, fun L st I h => ?_⟩
  · unfold oAret at h
    split at h <;> cases h
  · unfold oAret at h
    split at h
    · rename_i x
      cases h
      intro ls H locs hl hr
      exact W.widen (k := mc) (n := ms) (Nat.zero_le _) (Nat.zero_le _) (vx_ret (W.aret (v := .ref (g.2.1 x)) C.1 C.2.1 (C.2.2.2.2.2.2.1.trans hret) (Or.inl hrt) (Or.inr ⟨_, rfl⟩) (fun t ht hW => ⟨rfl, by rw [ht]; exact hr.1, hr.2.2.F ht⟩) hr.2.2.2.2 hd C.2.2.2.2.2.2.2.1))
    · cases h
      intro ls H locs hl hr
      exact W.widen (k := mc) (n := ms) (Nat.zero_le _) (Nat.zero_le _) (vx_ret (W.aret (v := .null) C.1 C.2.1 (C.2.2.2.2.2.2.1.trans hret) (Or.inl hrt) (Or.inl rfl) (fun t ht hW => ⟨rfl, by rw [ht]; exact hr.1, hr.2.2.F ht⟩) hr.2.2.2.2 hd C.2.2.2.2.2.2.2.1))
    · cases h
theorem xs_vret {mc ms : Nat} (C : xCtx g cc nL own ret p s m args meth c) (hd : decode cc pc = .ok (.return_, 1)) (hret : ret = none) : xSim (xV p l e R s m args below meth c (vx_MQ below (xQc g r0) (xXC g r0) args s mc ms (xA g)) g nL) r0 pc oVret := by
  refine ⟨fun L st I pc' L' st' I' h kk => ?_, fun L st I h => ?_⟩
  · unfold oVret at h
    split at h <;> cases h
  · unfold oVret at h
    split at h
    · cases h
      intro ls H locs hl hr
      exact W.widen (k := mc) (n := ms) (Nat.zero_le _) (Nat.zero_le _) (vx_ret (W.vret C.1 C.2.1 (C.2.2.2.2.2.2.1.trans hret) (fun t ht hW => ⟨rfl, by rw [ht]; exact hr.1, hr.2.2.F ht⟩) hr.2.2.2.2 hd C.2.2.2.2.2.2.2.1))
    · cases h
/-- 'throw new E(text)', its five instructions at once -/
theorem xs_throw {mc ms j ik is ic : Nat} {cls text : String} (C : xCtx g cc nL own ret p s m args meth c) (hfl : l.stackTraces = false)
    (d0 : decode cc pc = .ok (.new ik, 3)) (d3 : decode cc (pc + 3) = .ok (.dup, 1)) (d4 : decode cc (pc + 4) = .ok (.ldc is, 2)) (d6 : decode cc (pc + 6) = .ok (.invokespecial ic, 3)) (d9 : decode cc (pc + 9) = .ok (.athrow, 1))
    (hj : xExc j = cls) (hcls : Bundle.fit cls = true) (hw1 : Cond.classLink own ik cls ∈ wsAll) (hw2 : Cond.initialized cls ∈ wsAll) (hstr : (own, is, text) ∈ xStrs)
    (hat : ∀ w ∈ vx_atS own ic cls ["java/lang/RuntimeException", "java/lang/Exception"], (w ∈ wsAll ∨ w ∈ xNest) ∧ vx_ot w = true)
    (hR : 5 < R.frames ∧ 90 ≤ R.locals ∧ 1 ≤ R.cells ∧ 6 ≤ R.slots) (hmc : 1 ≤ mc) (hms : 6 ≤ ms) : xSim (xV p l e R s m args below meth c (vx_MQ below (xQc g r0) (xXC g r0) args s mc ms (xA g)) g nL) r0 pc (oThrow j) := by
  refine ⟨fun L st I pc' L' st' I' h kk => ?_, fun L st I h => ?_⟩
  · unfold oThrow at h
    cases hb : Nat.ble ((st.map fun v => v.category).sum) 8 <;> rw [hb] at h <;> cases h
  · unfold oThrow at h
    cases hb : Nat.ble ((st.map fun v => v.category).sum) 8 with
    | false => rw [hb] at h; cases h
    | true =>
      rw [hb] at h
      cases h
      intro ls H locs hl hr
      have h8 := Nat.le_of_ble_eq_true hb
      rw [← xc_cats g] at h8
      obtain ⟨hx, hcb, hml, hown, hts, hW, hrt, hlk, hz, hex⟩ := C
      obtain ⟨sa, hsa⟩ := hW.2.2.2.2 _ hstr
      refine vx_throwS (names := ["java/lang/RuntimeException", "java/lang/Exception"]) (A := xA g) (sa := sa) hx hcb hfl hown hcls (by decide +kernel) (hts _ hw1) (hts _ hw2) hsa (fun w hw => ?_) (fun w hw => ?_) hW.2.2.1 hW.2.2.2.1 hr.2.2 (hl.1.trans hml.symm) d0 d3 d4 d6 d9 (fun x hx9 => (hex x hx9).elim) (by simpa using hR.1) (by simp only [List.length_cons, List.length_nil]; omega) (by omega) (by omega) hlk (fun t hvm hsz hk9 => ⟨hj.symm, ?_, ?_⟩) hr.2.2.2.2 (by omega) (by omega)
      · rcases (hat w hw).1 with q | q
        · exact hts _ q
        · exact va_Nw.use (xNw_on (xNest_ok w q)) (hW.2.1 _ q)
      · rcases List.mem_cons.mp hw with rfl | hw
        · rfl
        · rcases List.mem_cons.mp hw with rfl | hw
          · rfl
          · exact (hat w hw).2
      · exact hr.1.kept (fun k q hq => hk9 q.1 (hr.1 k q hq).lt)
      · exact ⟨Nat.le_trans hr.2.2.1 hsz, fun q h1 h2 => (hk9 q (Nat.lt_of_lt_of_le h1 hr.2.2.1)).trans (hr.2.2.2.1 q h1 h2)⟩
/-- 'throw new E(text)', the same with a wide constant -/
theorem xs_throwW {mc ms j ik is ic : Nat} {cls text : String} (C : xCtx g cc nL own ret p s m args meth c) (hfl : l.stackTraces = false)
    (d0 : decode cc pc = .ok (.new ik, 3)) (d3 : decode cc (pc + 3) = .ok (.dup, 1)) (d4 : decode cc (pc + 4) = .ok (.ldc_w is, 3)) (d6 : decode cc (pc + 7) = .ok (.invokespecial ic, 3)) (d9 : decode cc (pc + 10) = .ok (.athrow, 1))
    (hj : xExc j = cls) (hcls : Bundle.fit cls = true) (hw1 : Cond.classLink own ik cls ∈ wsAll) (hw2 : Cond.initialized cls ∈ wsAll) (hstr : (own, is, text) ∈ xStrs)
    (hat : ∀ w ∈ vx_atS own ic cls ["java/lang/RuntimeException", "java/lang/Exception"], (w ∈ wsAll ∨ w ∈ xNest) ∧ vx_ot w = true)
    (hR : 5 < R.frames ∧ 90 ≤ R.locals ∧ 1 ≤ R.cells ∧ 6 ≤ R.slots) (hmc : 1 ≤ mc) (hms : 6 ≤ ms) : xSim (xV p l e R s m args below meth c (vx_MQ below (xQc g r0) (xXC g r0) args s mc ms (xA g)) g nL) r0 pc (oThrow j) := by
  refine ⟨fun L st I pc' L' st' I' h kk => ?_, fun L st I h => ?_⟩
  · unfold oThrow at h
    cases hb : Nat.ble ((st.map fun v => v.category).sum) 8 <;> rw [hb] at h <;> cases h
  · unfold oThrow at h
    cases hb : Nat.ble ((st.map fun v => v.category).sum) 8 with
    | false => rw [hb] at h; cases h
    | true =>
      rw [hb] at h
      cases h
      intro ls H locs hl hr
      have h8 := Nat.le_of_ble_eq_true hb
      rw [← xc_cats g] at h8
      obtain ⟨hx, hcb, hml, hown, hts, hW, hrt, hlk, hz, hex⟩ := C
      obtain ⟨sa, hsa⟩ := hW.2.2.2.2 _ hstr
      refine vx_throwSW (names := ["java/lang/RuntimeException", "java/lang/Exception"]) (A := xA g) (sa := sa) hx hcb hfl hown hcls (by decide +kernel) (hts _ hw1) (hts _ hw2) hsa (fun w hw => ?_) (fun w hw => ?_) hW.2.2.1 hW.2.2.2.1 hr.2.2 (hl.1.trans hml.symm) d0 d3 d4 d6 d9 (fun x hx9 => (hex x hx9).elim) (by simpa using hR.1) (by simp only [List.length_cons, List.length_nil]; omega) (by omega) (by omega) hlk (fun t hvm hsz hk9 => ⟨hj.symm, ?_, ?_⟩) hr.2.2.2.2 (by omega) (by omega)
      · rcases (hat w hw).1 with q | q
        · exact hts _ q
        · exact va_Nw.use (xNw_on (xNest_ok w q)) (hW.2.1 _ q)
      · rcases List.mem_cons.mp hw with rfl | hw
        · rfl
        · rcases List.mem_cons.mp hw with rfl | hw
          · rfl
          · exact (hat w hw).2
      · exact hr.1.kept (fun k q hq => hk9 q.1 (hr.1 k q hq).lt)
      · exact ⟨Nat.le_trans hr.2.2.1 hsz, fun q h1 h2 => (hk9 q (Nat.lt_of_lt_of_le h1 hr.2.2.1)).trans (hr.2.2.2.1 q h1 h2)⟩
end XM5V
theorem W.mono {p : Program} {l : Launch} {e : Env} {R : Room} {s : State} {m : MethodId} {args : Array Value} {below : List Frame} {meth : Method} {c : Code} {H : Heap} {locs : List Loc} {cells slots : Nat} {Q Q' : State → Prop} {f : JFrame} (h : W p l e R s m args below meth c H locs cells slots Q f) (hQ : ∀ t, Q t → Q' t) : W p l e R s m args below meth c H locs cells slots Q' f := by
  intro T hT X
  obtain ⟨t, a, b⟩ := h T hT X
  exact ⟨t, a, hQ t b⟩
/-- a method whose steps are all understood: its contract -/
theorem xmetX_of {l : Launch} {g : xG} {y : MethodName} {cc : ByteArray} {nL fr lo mc ms : Nat} {ret : Option FieldType} {own : String} {k : xCode} (hfl : l.stackTraces = false) (hy : plainName y.cls = true) (ho : y.cls = own)
    (hk : ∀ (p : Program) (e : Env) (s : State) (m : MethodId) (args : Array Value) (below : List Frame) (meth : Method) (c : Code) (r0 : xRes), xCtx g cc nL own ret p s m args meth c → xAll (xSim (xV p l e { frames := fr, cells := mc, slots := ms, locals := lo } s m args below meth c (vx_MQ below (xQc g r0) (xXC g r0) args s mc ms (xA g)) g nL) r0) k) : xMetX l g y cc nL ret fr lo mc ms (xrun k nL) := by
  intro vs I r hrun
  unfold xrun at hrun
  cases hb : Nat.ble (xSl vs) nL with
  | false => rw [hb] at hrun; cases hrun
  | true =>
    rw [hb] at hrun
    have hrun : xgo k 0 (xin nL vs) [] I = some r := hrun
    obtain ⟨n, hn⟩ := xgo_iff.mp hrun
    refine vx_ofW (cc := cc) (maxL := nL) (ret := ret) hy rfl ?_
    intro p e s m args below meth c s₁ B hml hex hv
    obtain ⟨rfl, hW, hP, hD, hz⟩ := hv
    have hts := atoms_spec (ws := Cond.code y cc nL ret :: wsAll) B.pre
    have hown : s.vm.findClass own = some m.cls := by rw [← ho]; exact findClass_of_methodNamed B.named
    have C : xCtx g cc nL own ret p s m ((vs.map (xc g)).toArray) meth c := ⟨B.exec, B.bytes, hml, hown, fun w hw => hts w (List.mem_cons_of_mem _ hw), hW, B.returns, B.notSynchronized, hz, hex⟩
    have K := xit_sim (hk p e s m _ below meth c r C) hn
    rw [lg_entry_eq]
    exact K _ s.heap [] (xLoc_in vs (by rw [xSl_eq]; exact Nat.le_of_ble_eq_true hb)) ⟨hP, hD, va_S.rf⟩
theorem xmet_of {l : Launch} {g : xG} {y : MethodName} {cc : ByteArray} {nL fr lo : Nat} {ret : Option FieldType} {own : String} {k : xCode} (hy : plainName y.cls = true) (ho : y.cls = own)
    (hk : ∀ (p : Program) (e : Env) (s : State) (m : MethodId) (args : Array Value) (below : List Frame) (meth : Method) (c : Code) (r0 : xRes), xCtx g cc nL own ret p s m args meth c → xAll (xSim (xV p l e { frames := fr, cells := 0, slots := 0, locals := lo } s m args below meth c (vx_MQ below (xQc g r0) (xXC g r0) args s 0 0 (xA g)) g nL) r0) k) : xMet l g y cc nL ret fr lo (xrun k nL) := by
  intro vs I v I' hrun
  unfold xrun at hrun
  cases hb : Nat.ble (xSl vs) nL with
  | false => rw [hb] at hrun; cases hrun
  | true =>
    rw [hb] at hrun
    have hrun : xgo k 0 (xin nL vs) [] I = some (.inl v, I') := hrun
    obtain ⟨n, hn⟩ := xgo_iff.mp hrun
    refine Met.ofW (cc := cc) (maxL := nL) (ret := ret) hy rfl ?_
    intro p e s m args below meth c s₁ B hml hv
    obtain ⟨rfl, hW, hP, hD, hz⟩ := hv
    have hts := atoms_spec (ws := Cond.code y cc nL ret :: wsAll) B.pre
    have hown : s.vm.findClass own = some m.cls := by rw [← ho]; exact findClass_of_methodNamed B.named
    have hex : ∀ x ∈ c.exceptionTable.toList, False := by
      obtain ⟨meth9, c9, h1, h2, -, -, -, -, h7, -⟩ := Cond.code_spec B.named (hts _ List.mem_cons_self)
      cases Option.some.inj (h1.symm.trans B.method)
      cases Option.some.inj (h2.symm.trans (Stand.of_body B).code)
      intro x hx
      rw [Array.isEmpty_iff.mp h7] at hx
      cases hx
    have C : xCtx g cc nL own ret p s m ((vs.map (xc g)).toArray) meth c := ⟨B.exec, B.bytes, hml, hown, fun w hw => hts w (List.mem_cons_of_mem _ hw), hW, B.returns, B.notSynchronized, hz, hex⟩
    have K := xit_sim (hk p e s m _ below meth c (.inl v, I') C) hn
    rw [lg_entry_eq]
    refine W.mono (K _ s.heap [] (xLoc_in vs (by rw [xSl_eq]; exact Nat.le_of_ble_eq_true hb)) ⟨hP, hD, va_S.rf⟩) ?_
    rintro t ⟨o, b1, b2, h | ⟨q, -, E, ce, L, hx, -⟩⟩
    · exact ⟨o, b1, b2, h⟩
    · exact hx.elim
end XM5
