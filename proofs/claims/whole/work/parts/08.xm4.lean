/-! ===== fields, arrays, calls, ends ===== -/
section XM4
def xInB (i : Int32) (n : Nat) : Bool := !(decide (i < 0)) && Nat.blt i.toNatClampNeg n
theorem xInB_in {i : Int32} {n : Nat} (h : xInB i n = true) : vp_in i n := by
  unfold xInB at h
  simp only [Bool.and_eq_true, Bool.not_eq_true', decide_eq_false_iff_not] at h
  rintro (q | q)
  · exact h.1 q
  · have := Nat.le_of_ble_eq_true h.2
    omega
theorem xInB_nI {j n : Nat} (h : j < n) (hn : n < 2 ^ 31) : xInB (nI j) n = true := by
  unfold xInB
  rw [nI_clamp (by omega)]
  simp only [Bool.and_eq_true, Bool.not_eq_true', decide_eq_false_iff_not]
  exact ⟨nI_pos (by omega), Nat.ble_eq_true_of_le h⟩
def oGetI (c j nx : Nat) : xOp := fun L st I => match st with
  | .ref a :: r => cond (Nat.beq (xK a) c) (some (.inl (nx, L, .int (I a j) :: r, I))) none
  | _ => none
def oGetR (c j nx : Nat) : xOp := fun L st I => match st with
  | .ref a :: r => cond (Nat.beq (xK a) c) (some (.inl (nx, L, .ref (xR a j) :: r, I))) none
  | _ => none
def oPutI (c j nx : Nat) : xOp := fun L st I => match st with
  | .int x :: .ref a :: r => cond (Nat.beq (xK a) c) (some (.inl (nx, L, r, xup I a j x))) none
  | _ => none
def oIald (nx : Nat) : xOp := fun L st I => match st with
  | .int i :: .ref a :: r => cond (Nat.beq (xK a) 10 && xInB i (xL a)) (some (.inl (nx, L, .int (I a i.toNatClampNeg) :: r, I))) none
  | _ => none
def oZald (nx : Nat) : xOp := fun L st I => match st with
  | .int i :: .ref a :: r => cond (Nat.beq (xK a) 11 && xInB i (xL a)) (some (.inl (nx, L, .int (I a i.toNatClampNeg) :: r, I))) none
  | _ => none
def oQald (nx : Nat) : xOp := fun L st I => match st with
  | .int i :: .ref a :: r => cond (Nat.beq (xK a) 13 && xInB i (xL a)) (some (.inl (nx, L, .ref (xR a i.toNatClampNeg) :: r, I))) none
  | _ => none
def oIast (nx : Nat) : xOp := fun L st I => match st with
  | .int x :: .int i :: .ref a :: r => cond (Nat.beq (xK a) 10 && xInB i (xL a)) (some (.inl (nx, L, r, xup I a i.toNatClampNeg x))) none
  | _ => none
def oZast (nx : Nat) : xOp := fun L st I => match st with
  | .int x :: .int i :: .ref a :: r => cond (Nat.beq (xK a) 11 && xInB i (xL a)) (some (.inl (nx, L, r, xup I a i.toNatClampNeg (vp_nar .boolean x)))) none
  | _ => none
/-- an array's length: of numbers, or of columns -/
def oAlen (k nx : Nat) : xOp := fun L st I => match st with
  | .ref a :: r => cond (Nat.beq (xK a) k) (some (.inl (nx, L, .int (nI (xL a)) :: r, I))) none
  | _ => none
def xrV (r : Option xRes) (nx : Nat) (L : List (Option Value)) (rest : List Value) : Option xNx := match r with
  | some (.inl (some v), I') => some (.inl (nx, L, v :: rest, I'))
  | _ => none
def xrU (r : Option xRes) (nx : Nat) (L : List (Option Value)) (rest : List Value) : Option xNx := match r with
  | some (.inl none, I') => some (.inl (nx, L, rest, I'))
  | _ => none
theorem xgo_rV {k : xCode} {pc nx : Nat} {L : List (Option Value)} {st rest : List Value} {I : xMem} {r : Option xRes} (h : xstep k pc L st I = xrV r nx L rest) : xgo k pc L st I = xbV r (fun v I' => xgo k nx L (v :: rest) I') := by
  rcases r with _ | ⟨(_ | v) | j, I'⟩
  · exact xgo_no h
  · exact xgo_no h
  · exact xgo_nx h
  · exact xgo_no h
theorem xgo_rU {k : xCode} {pc nx : Nat} {L : List (Option Value)} {st rest : List Value} {I : xMem} {r : Option xRes} (h : xstep k pc L st I = xrU r nx L rest) : xgo k pc L st I = xbU r (fun I' => xgo k nx L rest I') := by
  rcases r with _ | ⟨(_ | v) | j, I'⟩
  · exact xgo_no h
  · exact xgo_nx h
  · exact xgo_no h
  · exact xgo_no h
abbrev xRun : Type := List Value → xMem → Option xRes
def oCallV (c n : Nat) (run : xRun) (nx : Nat) : xOp := fun L st I => match st.drop n with
  | .ref b :: rest => cond (Nat.beq (xK b) c && Nat.ble ((rest.map fun v => v.category).sum) 8) (xrV (run (.ref b :: (st.take n).reverse) I) nx L rest) none
  | _ => none
def oCallU (c n : Nat) (run : xRun) (nx : Nat) : xOp := fun L st I => match st.drop n with
  | .ref b :: rest => cond (Nat.beq (xK b) c && Nat.ble ((rest.map fun v => v.category).sum) 8) (xrU (run (.ref b :: (st.take n).reverse) I) nx L rest) none
  | _ => none
def oCallSV (n : Nat) (run : xRun) (nx : Nat) : xOp := fun L st I => cond (Nat.ble n st.length && Nat.ble (((st.drop n).map fun v => v.category).sum) 8) (xrV (run (st.take n).reverse I) nx L (st.drop n)) none
def oCallSU (n : Nat) (run : xRun) (nx : Nat) : xOp := fun L st I => cond (Nat.ble n st.length && Nat.ble (((st.drop n).map fun v => v.category).sum) 8) (xrU (run (st.take n).reverse I) nx L (st.drop n)) none
theorem oGetI_ok {c j nx a : Nat} {L : List (Option Value)} {r : List Value} {I : xMem} (h : xK a = c) : oGetI c j nx L (.ref a :: r) I = some (.inl (nx, L, .int (I a j) :: r, I)) := by
  subst h
  show cond (Nat.beq (xK a) (xK a)) _ _ = _
  rw [Nat.beq_refl]
  rfl
theorem oGetR_ok {c j nx a : Nat} {L : List (Option Value)} {r : List Value} {I : xMem} (h : xK a = c) : oGetR c j nx L (.ref a :: r) I = some (.inl (nx, L, .ref (xR a j) :: r, I)) := by
  subst h
  show cond (Nat.beq (xK a) (xK a)) _ _ = _
  rw [Nat.beq_refl]
  rfl
theorem oPutI_ok {c j nx a : Nat} {x : Int32} {L : List (Option Value)} {r : List Value} {I : xMem} (h : xK a = c) : oPutI c j nx L (.int x :: .ref a :: r) I = some (.inl (nx, L, r, xup I a j x)) := by
  subst h
  show cond (Nat.beq (xK a) (xK a)) _ _ = _
  rw [Nat.beq_refl]
  rfl
theorem oIald_ok {nx a : Nat} {i : Int32} {L : List (Option Value)} {r : List Value} {I : xMem} (h : xK a = 10) (hi : xInB i (xL a) = true) : oIald nx L (.int i :: .ref a :: r) I = some (.inl (nx, L, .int (I a i.toNatClampNeg) :: r, I)) := by
  show cond (Nat.beq (xK a) 10 && xInB i (xL a)) _ _ = _
  rw [h, hi]
  rfl
theorem oZald_ok {nx a : Nat} {i : Int32} {L : List (Option Value)} {r : List Value} {I : xMem} (h : xK a = 11) (hi : xInB i (xL a) = true) : oZald nx L (.int i :: .ref a :: r) I = some (.inl (nx, L, .int (I a i.toNatClampNeg) :: r, I)) := by
  show cond (Nat.beq (xK a) 11 && xInB i (xL a)) _ _ = _
  rw [h, hi]
  rfl
theorem oQald_ok {nx a : Nat} {i : Int32} {L : List (Option Value)} {r : List Value} {I : xMem} (h : xK a = 13) (hi : xInB i (xL a) = true) : oQald nx L (.int i :: .ref a :: r) I = some (.inl (nx, L, .ref (xR a i.toNatClampNeg) :: r, I)) := by
  show cond (Nat.beq (xK a) 13 && xInB i (xL a)) _ _ = _
  rw [h, hi]
  rfl
theorem oIast_ok {nx a : Nat} {x i : Int32} {L : List (Option Value)} {r : List Value} {I : xMem} (h : xK a = 10) (hi : xInB i (xL a) = true) : oIast nx L (.int x :: .int i :: .ref a :: r) I = some (.inl (nx, L, r, xup I a i.toNatClampNeg x)) := by
  show cond (Nat.beq (xK a) 10 && xInB i (xL a)) _ _ = _
  rw [h, hi]
  rfl
theorem oZast_ok {nx a : Nat} {x i : Int32} {L : List (Option Value)} {r : List Value} {I : xMem} (h : xK a = 11) (hi : xInB i (xL a) = true) : oZast nx L (.int x :: .int i :: .ref a :: r) I = some (.inl (nx, L, r, xup I a i.toNatClampNeg (vp_nar .boolean x))) := by
  show cond (Nat.beq (xK a) 11 && xInB i (xL a)) _ _ = _
  rw [h, hi]
  rfl
theorem oAlen_ok {k nx a : Nat} {L : List (Option Value)} {r : List Value} {I : xMem} (h : xK a = k) : oAlen k nx L (.ref a :: r) I = some (.inl (nx, L, .int (nI (xL a)) :: r, I)) := by
  subst h
  show cond (Nat.beq (xK a) (xK a)) _ _ = _
  rw [Nat.beq_refl]
  rfl
theorem oCallV_ok {c n nx b : Nat} {run : xRun} {L : List (Option Value)} {st rest : List Value} {I : xMem} (h1 : st.drop n = .ref b :: rest) (h2 : xK b = c) (h3 : Nat.ble ((rest.map fun v => v.category).sum) 8 = true) : oCallV c n run nx L st I = xrV (run (.ref b :: (st.take n).reverse) I) nx L rest := by
  subst h2
  unfold oCallV
  rw [h1]
  show cond (Nat.beq (xK b) (xK b) && Nat.ble ((rest.map fun v => v.category).sum) 8) _ _ = _
  rw [Nat.beq_refl, h3]
  rfl
theorem oCallU_ok {c n nx b : Nat} {run : xRun} {L : List (Option Value)} {st rest : List Value} {I : xMem} (h1 : st.drop n = .ref b :: rest) (h2 : xK b = c) (h3 : Nat.ble ((rest.map fun v => v.category).sum) 8 = true) : oCallU c n run nx L st I = xrU (run (.ref b :: (st.take n).reverse) I) nx L rest := by
  subst h2
  unfold oCallU
  rw [h1]
  show cond (Nat.beq (xK b) (xK b) && Nat.ble ((rest.map fun v => v.category).sum) 8) _ _ = _
  rw [Nat.beq_refl, h3]
  rfl
-- contracts
def xPc (g : xG) (vs : List Value) (I : xMem) : Array Value → State → Prop := va_Pc (vs.map (xc g)) (fun U => xWorld g U ∧ va_P g.1 vwCl (xWl g I) U.heap ∧ va_D (xA g) (xWl g I) ∧ g.2.2.2 ≤ U.heap.size)
def xQc (g : xG) (r : xRes) : Array Value → State → Outcome → State → Prop := fun _ st oc t => match r.1 with
  | .inl v => oc = .returned (v.map (xc g)) ∧ va_P g.1 vwCl (xWl g r.2) t.heap ∧ va_F (xA g) st t
  | .inr _ => False
def xExc : Nat → String
  | 1 => "java/lang/IllegalArgumentException"
  | 2 => "java/lang/IllegalStateException"
  | _ => "java/lang/IndexOutOfBoundsException"
def xXC (g : xG) (r : xRes) : String → State → State → Prop := fun E st t => match r.1 with
  | .inl _ => False
  | .inr k => E = xExc k ∧ va_P g.1 vwCl (xWl g r.2) t.heap ∧ va_F (xA g) st t
/-- a method that returns whatever its code computes -/
def xMet (l : Launch) (g : xG) (y : MethodName) (cc : ByteArray) (nL : Nat) (ret : Option FieldType) (fr lo : Nat) (run : xRun) : Prop :=
  ∀ (vs : List Value) (I : xMem) (v : Option Value) (I' : xMem), run vs I = some (.inl v, I') → Met l y (Cond.code y cc nL ret :: wsAll) { frames := fr, cells := 0, slots := 0, locals := lo } (xPc g vs I) (xQc g (.inl v, I')) 0 0 (xA g)
/-- and one that may throw -/
def xMetX (l : Launch) (g : xG) (y : MethodName) (cc : ByteArray) (nL : Nat) (ret : Option FieldType) (fr lo mc ms : Nat) (run : xRun) : Prop :=
  ∀ (vs : List Value) (I : xMem) (r : xRes), run vs I = some r → vx_Met l y (Cond.code y cc nL ret :: wsAll) { frames := fr, cells := mc, slots := ms, locals := lo } (xPc g vs I) (xQc g r) (xXC g r) mc ms (xA g)
theorem xPc_blind {g : xG} {vs : List Value} {I : xMem} : FrameBlind (xPc g vs I) := fun a U f mk q => ⟨q.1, xWorld_blind f mk a q.2.1, q.2.2⟩
theorem xgoodV {own C : String} {idx : Nat} {y : MethodName} {cw : Cond} (h1 : Cond.methodLink own idx y ∈ wsAll) (h2 : Cond.instanceMethod y ∈ wsAll) (h3 : Cond.selects C y y ∈ wsAll) (h4 : Cond.initialized C ∈ wsAll) (h5 : cw ∈ wsAll) : GoodIn wsAll (wsV own idx C y (cw :: wsAll)) := by
  intro w hw
  have hm : w ∈ wsAll := by
    rcases List.mem_append.mp hw with h | h
    · simp only [List.mem_cons, List.not_mem_nil, or_false] at h
      rcases h with rfl | rfl | rfl | rfl <;> assumption
    · rcases List.mem_cons.mp h with rfl | h
      · exact h5
      · exact h
  exact ⟨hm, wsAll_good w hm⟩
theorem xgoodC {cw : Cond} (h5 : cw ∈ wsAll) : GoodIn wsAll (cw :: wsAll) := by
  intro w hw
  have hm : w ∈ wsAll := by
    rcases List.mem_cons.mp hw with rfl | h
    · exact h5
    · exact h
  exact ⟨hm, wsAll_good w hm⟩
theorem xgoodS {own : String} {idx : Nat} {y : MethodName} {cw : Cond} (h1 : Cond.methodLink own idx y ∈ wsAll) (h2 : Cond.static y ∈ wsAll) (h4 : Cond.initialized own ∈ wsAll) (h5 : cw ∈ wsAll) : GoodIn wsAll (wsS own idx y (cw :: wsAll)) := by
  intro w hw
  have hm : w ∈ wsAll := by
    rcases List.mem_append.mp hw with h | h
    · simp only [List.mem_cons, List.not_mem_nil, or_false] at h
      rcases h with rfl | rfl | rfl <;> assumption
    · rcases List.mem_cons.mp h with rfl | h
      · exact h5
      · exact h
  exact ⟨hm, wsAll_good w hm⟩
theorem xst_split (g : xG) {st rest : List Value} {n b : Nat} (h : st.drop n = .ref b :: rest) : st.map (xc g) = (((st.take n).reverse).map (xc g)).reverse ++ .ref (g.2.1 b) :: rest.map (xc g) ∧ (((st.take n).reverse).map (xc g)).length = n := by
  have hl : n < st.length := by
    rcases Nat.lt_or_ge n st.length with q | q
    · exact q
    · rw [List.drop_eq_nil_of_le q] at h; cases h
  refine ⟨?_, by simp; omega⟩
  have e : st.map (xc g) = (st.take n ++ st.drop n).map (xc g) := by rw [List.take_append_drop]
  rw [e, h, List.map_append, List.map_reverse, List.reverse_reverse]
  rfl
theorem xst_split2 (g : xG) {st : List Value} {n : Nat} (h : n ≤ st.length) : st.map (xc g) = (((st.take n).reverse).map (xc g)).reverse ++ (st.drop n).map (xc g) ∧ (((st.take n).reverse).map (xc g)).length = n := by
  refine ⟨?_, by simp; omega⟩
  have e : st.map (xc g) = (st.take n ++ st.drop n).map (xc g) := by rw [List.take_append_drop]
  rw [e, List.map_append, List.map_reverse, List.reverse_reverse]
section XM4V
variable {p : Program} {l : Launch} {e : Env} {R : Room} {s : State} {m : MethodId} {args : Array Value} {below : List Frame} {meth : Method} {c : Code} {Q : State → Prop} {g : xG} {cc : ByteArray} {nL : Nat} {own : String} {ret : Option FieldType} {pc : Nat} {r0 : xRes}
theorem xW_getI {C : String} {T : u_T} {N ci j idx a : Nat} {rest : List Value} {ls : Array Slot} {H : Heap} {locs : List Loc} {I : xMem} (hx : p.tables.exec = Jvm.exec) (hb : c.code = cc) (hd : decode cc pc = .ok (.getfield idx, 3)) (hts : ∀ w ∈ wsAll, w.before args s = true) (hin : ∀ w ∈ u_ws C T N, w ∈ wsAll) (hown : s.vm.findClass own = some m.cls) (hK : va_K g.1 vwCl (xTys g) s) (hr : xRep g s I H locs) (hc : vwCl[ci]? = some (C, T, N)) (hN : N = xNf ci) (h10 : ci < 10) (hj : j < N) (hk : xK a = ci) (hw : (Cond.fieldLink own idx (T j).1 (T j).2.1 (T j).2.2.1).before args s = true)
    (kk : W p l e R s m args below meth c H locs 0 0 Q (F0 m (pc + 3) ls (xFv g I a j :: rest))) : W p l e R s m args below meth c H locs 0 0 Q (F0 m pc ls (.ref (g.2.1 a) :: rest)) := by
  subst hN
  have hlt : a < 211 := xK_lt (by omega)
  exact va_get (D := g.1) (cl := vwCl) (ws := xWl g I) (tys := xTys g) hx hb hts hin hown hK hr.1 a (fs := xFs g I a) (by rw [xWl_get g I hlt, xCell_o g I hk h10]) hc j hj hw (fun x q => q) (xFs_get g I hk hj) hd kk
theorem xW_getN {C host : String} {T : u_T} {N ci j idx a : Nat} {rest : List Value} {ls : Array Slot} {H : Heap} {locs : List Loc} {I : xMem} (hx : p.tables.exec = Jvm.exec) (hb : c.code = cc) (hd : decode cc pc = .ok (.getfield idx, 3)) (hts : ∀ w ∈ wsAll, w.before args s = true) (hin : ∀ w ∈ u_ws C T N, w ∈ wsAll) (hown : s.vm.findClass own = some m.cls) (hK : va_K g.1 vwCl (xTys g) s) (hr : xRep g s I H locs) (hc : vwCl[ci]? = some (C, T, N)) (hN : N = xNf ci) (h10 : ci < 10) (hj : j < N) (hk : xK a = ci) (hw : (Cond.fieldLinkNest own idx (T j).1 (T j).2.1 (T j).2.2.1 host).before args s = true)
    (kk : W p l e R s m args below meth c H locs 0 0 Q (F0 m (pc + 3) ls (xFv g I a j :: rest))) : W p l e R s m args below meth c H locs 0 0 Q (F0 m pc ls (.ref (g.2.1 a) :: rest)) := by
  subst hN
  have hlt : a < 211 := xK_lt (by omega)
  exact va_getN (D := g.1) (cl := vwCl) (ws := xWl g I) (tys := xTys g) hx hb hts hin hown hK hr.1 a (fs := xFs g I a) (by rw [xWl_get g I hlt, xCell_o g I hk h10]) hc j hj hw (fun x q => q) (xFs_get g I hk hj) hd kk
theorem xRep_put {H1 : Heap} {locs1 : List Loc} {I : xMem} {ci a j : Nat} {x : Int32} (hk : xK a = ci) (h10 : ci < 10) (hj : j < xNf ci) (hf : xFr ci j = false) (hP : va_P g.1 vwCl ((xWl g I).set a (g.2.1 a, .inr (ci, (xFs g I a).set j (.int x)))) H1) (hD : va_D (xA g) (xWl g I)) (hS : va_S (xA g) s.heap H1 locs1) : xRep g s (xup I a j x) H1 locs1 := by
  have hlt : a < 211 := xK_lt (by omega)
  refine ⟨?_, xWl_D hD, hS⟩
  rw [xFs_set g I x hk hj hf, ← xCell_o g _ hk h10, xWl_set g I _ hlt (fun b hb => xup_ne I j x hb)] at hP
  exact hP
theorem xs_getI (C : xCtx g cc nL own ret p s m args meth c) {D : String} {T : u_T} {N ci j idx : Nat} (hd : decode cc pc = .ok (.getfield idx, 3)) (hc : vwCl[ci]? = some (D, T, N)) (hin : ∀ w ∈ u_ws D T N, w ∈ wsAll) (hN : N = xNf ci) (h10 : ci < 10) (hj : j < N) (hf : xFr ci j = false) (hw : Cond.fieldLink own idx (T j).1 (T j).2.1 (T j).2.2.1 ∈ wsAll) : xSim (xV p l e R s m args below meth c Q g nL) r0 pc (oGetI ci j (pc + 3)) := by
  refine ⟨fun L st I pc' L' st' I' h kk => ?_, fun L st I h => ?_⟩
  · unfold oGetI at h
    split at h
    · rename_i a r
      cases hb : Nat.beq (xK a) ci with
      | false => rw [hb] at h; cases h
      | true =>
        rw [hb] at h
        cases h
        have hk := Nat.eq_of_beq_eq_true hb
        intro ls H locs hl hr
        refine xW_getI C.1 C.2.1 hd C.2.2.2.2.1 hin C.2.2.2.1 C.2.2.2.2.2.1.1 hr hc hN h10 hj hk (C.2.2.2.2.1 _ hw) ?_
        have e9 : xFv g I a j = .int (I a j) := by unfold xFv; rw [hk, hf]; rfl
        rw [e9]
        exact kk ls H locs hl hr
    · cases h
  · unfold oGetI at h
    split at h
    · rename_i a r
      cases hb : Nat.beq (xK a) ci <;> rw [hb] at h <;> cases h
    · cases h
theorem xs_getR (C : xCtx g cc nL own ret p s m args meth c) {D : String} {T : u_T} {N ci j idx : Nat} (hd : decode cc pc = .ok (.getfield idx, 3)) (hc : vwCl[ci]? = some (D, T, N)) (hin : ∀ w ∈ u_ws D T N, w ∈ wsAll) (hN : N = xNf ci) (h10 : ci < 10) (hj : j < N) (hf : xFr ci j = true) (hw : Cond.fieldLink own idx (T j).1 (T j).2.1 (T j).2.2.1 ∈ wsAll) : xSim (xV p l e R s m args below meth c Q g nL) r0 pc (oGetR ci j (pc + 3)) := by
  refine ⟨fun L st I pc' L' st' I' h kk => ?_, fun L st I h => ?_⟩
  · unfold oGetR at h
    split at h
    · rename_i a r
      cases hb : Nat.beq (xK a) ci with
      | false => rw [hb] at h; cases h
      | true =>
        rw [hb] at h
        cases h
        have hk := Nat.eq_of_beq_eq_true hb
        intro ls H locs hl hr
        refine xW_getI C.1 C.2.1 hd C.2.2.2.2.1 hin C.2.2.2.1 C.2.2.2.2.2.1.1 hr hc hN h10 hj hk (C.2.2.2.2.1 _ hw) ?_
        have e9 : xFv g I a j = .ref (g.2.1 (xR a j)) := by unfold xFv; rw [hk, hf]; rfl
        rw [e9]
        exact kk ls H locs hl hr
    · cases h
  · unfold oGetR at h
    split at h
    · rename_i a r
      cases hb : Nat.beq (xK a) ci <;> rw [hb] at h <;> cases h
    · cases h
theorem xs_getIN (C : xCtx g cc nL own ret p s m args meth c) {D host : String} {T : u_T} {N ci j idx : Nat} (hd : decode cc pc = .ok (.getfield idx, 3)) (hc : vwCl[ci]? = some (D, T, N)) (hin : ∀ w ∈ u_ws D T N, w ∈ wsAll) (hN : N = xNf ci) (h10 : ci < 10) (hj : j < N) (hf : xFr ci j = false) (hw : Cond.fieldLinkNest own idx (T j).1 (T j).2.1 (T j).2.2.1 host ∈ xNest) : xSim (xV p l e R s m args below meth c Q g nL) r0 pc (oGetI ci j (pc + 3)) := by
  refine ⟨fun L st I pc' L' st' I' h kk => ?_, fun L st I h => ?_⟩
  · unfold oGetI at h
    split at h
    · rename_i a r
      cases hb : Nat.beq (xK a) ci with
      | false => rw [hb] at h; cases h
      | true =>
        rw [hb] at h
        cases h
        have hk := Nat.eq_of_beq_eq_true hb
        intro ls H locs hl hr
        refine xW_getN C.1 C.2.1 hd C.2.2.2.2.1 hin C.2.2.2.1 C.2.2.2.2.2.1.1 hr hc hN h10 hj hk (va_Nw.use rfl (C.2.2.2.2.2.1.2.1 _ hw)) ?_
        have e9 : xFv g I a j = .int (I a j) := by unfold xFv; rw [hk, hf]; rfl
        rw [e9]
        exact kk ls H locs hl hr
    · cases h
  · unfold oGetI at h
    split at h
    · rename_i a r
      cases hb : Nat.beq (xK a) ci <;> rw [hb] at h <;> cases h
    · cases h
theorem xs_getRN (C : xCtx g cc nL own ret p s m args meth c) {D host : String} {T : u_T} {N ci j idx : Nat} (hd : decode cc pc = .ok (.getfield idx, 3)) (hc : vwCl[ci]? = some (D, T, N)) (hin : ∀ w ∈ u_ws D T N, w ∈ wsAll) (hN : N = xNf ci) (h10 : ci < 10) (hj : j < N) (hf : xFr ci j = true) (hw : Cond.fieldLinkNest own idx (T j).1 (T j).2.1 (T j).2.2.1 host ∈ xNest) : xSim (xV p l e R s m args below meth c Q g nL) r0 pc (oGetR ci j (pc + 3)) := by
  refine ⟨fun L st I pc' L' st' I' h kk => ?_, fun L st I h => ?_⟩
  · unfold oGetR at h
    split at h
    · rename_i a r
      cases hb : Nat.beq (xK a) ci with
      | false => rw [hb] at h; cases h
      | true =>
        rw [hb] at h
        cases h
        have hk := Nat.eq_of_beq_eq_true hb
        intro ls H locs hl hr
        refine xW_getN C.1 C.2.1 hd C.2.2.2.2.1 hin C.2.2.2.1 C.2.2.2.2.2.1.1 hr hc hN h10 hj hk (va_Nw.use rfl (C.2.2.2.2.2.1.2.1 _ hw)) ?_
        have e9 : xFv g I a j = .ref (g.2.1 (xR a j)) := by unfold xFv; rw [hk, hf]; rfl
        rw [e9]
        exact kk ls H locs hl hr
    · cases h
  · unfold oGetR at h
    split at h
    · rename_i a r
      cases hb : Nat.beq (xK a) ci <;> rw [hb] at h <;> cases h
    · cases h
theorem xs_putI (C : xCtx g cc nL own ret p s m args meth c) {D : String} {T : u_T} {ty : Nat → FieldType} {N ci j idx : Nat} (hd : decode cc pc = .ok (.putfield idx, 3)) (hc : vwCl[ci]? = some (D, T, N)) (hin : ∀ w ∈ u_ws D T N, w ∈ wsAll) (hty : ∀ k, k < N → parseFieldDescriptor (T k).2.2.1 = some (ty k)) (hnm : ∀ a, a < N → ∀ b, b < N → a ≠ b → (T a).2.1 ≠ (T b).2.1) (hN : N = xNf ci) (h10 : ci < 10) (hj : j < N) (hf : xFr ci j = false) (hfin : (T j).2.2.2 = false) (hpd : parseFieldDescriptor (T j).2.2.1 = some .int) (hw : Cond.fieldLink own idx (T j).1 (T j).2.1 (T j).2.2.1 ∈ wsAll) : xSim (xV p l e R s m args below meth c Q g nL) r0 pc (oPutI ci j (pc + 3)) := by
  subst hN
  refine ⟨fun L st I pc' L' st' I' h kk => ?_, fun L st I h => ?_⟩
  · unfold oPutI at h
    split at h
    · rename_i x a r
      cases hb : Nat.beq (xK a) ci with
      | false => rw [hb] at h; cases h
      | true =>
        rw [hb] at h
        cases h
        have hk := Nat.eq_of_beq_eq_true hb
        intro ls H locs hl hr
        have hlt : a < 211 := xK_lt (by omega)
        exact va_put (D := g.1) (cl := vwCl) (ws := xWl g I) (tys := xTys g) C.1 C.2.1 C.2.2.2.2.1 hin ty hty hnm C.2.2.2.1 C.2.2.2.2.2.1.1 hr.1 hr.2.1 hr.2.2 a (fs := xFs g I a) (by rw [xWl_get g I hlt, xCell_o g I hk h10]) hc j hj (C.2.2.2.2.1 _ hw) (fun x q => q) hfin hpd rfl rfl (by unfold xFs; simpa [hk] using hj) hd
          (fun H1 locs1 hP _ hS => kk ls H1 locs1 hl (xRep_put hk h10 hj hf hP hr.2.1 hS))
    · cases h
  · unfold oPutI at h
    split at h
    · rename_i x a r
      cases hb : Nat.beq (xK a) ci <;> rw [hb] at h <;> cases h
    · cases h
theorem xs_putIN (C : xCtx g cc nL own ret p s m args meth c) {D host : String} {T : u_T} {ty : Nat → FieldType} {N ci j idx : Nat} (hd : decode cc pc = .ok (.putfield idx, 3)) (hc : vwCl[ci]? = some (D, T, N)) (hin : ∀ w ∈ u_ws D T N, w ∈ wsAll) (hty : ∀ k, k < N → parseFieldDescriptor (T k).2.2.1 = some (ty k)) (hnm : ∀ a, a < N → ∀ b, b < N → a ≠ b → (T a).2.1 ≠ (T b).2.1) (hN : N = xNf ci) (h10 : ci < 10) (hj : j < N) (hf : xFr ci j = false) (hfin : (T j).2.2.2 = false) (hpd : parseFieldDescriptor (T j).2.2.1 = some .int) (hw : Cond.fieldLinkNest own idx (T j).1 (T j).2.1 (T j).2.2.1 host ∈ xNest) : xSim (xV p l e R s m args below meth c Q g nL) r0 pc (oPutI ci j (pc + 3)) := by
  subst hN
  refine ⟨fun L st I pc' L' st' I' h kk => ?_, fun L st I h => ?_⟩
  · unfold oPutI at h
    split at h
    · rename_i x a r
      cases hb : Nat.beq (xK a) ci with
      | false => rw [hb] at h; cases h
      | true =>
        rw [hb] at h
        cases h
        have hk := Nat.eq_of_beq_eq_true hb
        intro ls H locs hl hr
        have hlt : a < 211 := xK_lt (by omega)
        exact va_putN (D := g.1) (cl := vwCl) (ws := xWl g I) (tys := xTys g) C.1 C.2.1 C.2.2.2.2.1 hin ty hty hnm C.2.2.2.1 C.2.2.2.2.2.1.1 hr.1 hr.2.1 hr.2.2 a (fs := xFs g I a) (by rw [xWl_get g I hlt, xCell_o g I hk h10]) hc j hj (va_Nw.use rfl (C.2.2.2.2.2.1.2.1 _ hw)) (fun x q => q) hfin hpd rfl rfl (by unfold xFs; simpa [hk] using hj) hd
          (fun H1 locs1 hP _ hS => kk ls H1 locs1 hl (xRep_put hk h10 hj hf hP hr.2.1 hS))
    · cases h
  · unfold oPutI at h
    split at h
    · rename_i x a r
      cases hb : Nat.beq (xK a) ci <;> rw [hb] at h <;> cases h
    · cases h
theorem xs_iald (C : xCtx g cc nL own ret p s m args meth c) (hd : decode cc pc = .ok (.iaload, 1)) : xSim (xV p l e R s m args below meth c Q g nL) r0 pc (oIald (pc + 1)) := by
  refine ⟨fun L st I pc' L' st' I' h kk => ?_, fun L st I h => ?_⟩
  · unfold oIald at h
    split at h
    · rename_i i a r
      cases hb : (Nat.beq (xK a) 10 && xInB i (xL a)) with
      | false => rw [hb] at h; cases h
      | true =>
        rw [hb] at h
        cases h
        simp only [Bool.and_eq_true] at hb
        have hk := Nat.eq_of_beq_eq_true hb.1
        have hlt : a < 211 := xK_lt (by omega)
        intro ls H locs hl hr
        exact va_iald C.1 C.2.1 C.2.2.2.2.2.1.1 hr.1 a 0 (by rw [xWl_get g I hlt, xCell_i g I hk]) rfl (xInB_in hb.2) hd (kk ls H locs hl hr)
    · cases h
  · unfold oIald at h
    split at h
    · rename_i i a r
      cases hb : (Nat.beq (xK a) 10 && xInB i (xL a)) <;> rw [hb] at h <;> cases h
    · cases h
theorem xs_zald (C : xCtx g cc nL own ret p s m args meth c) (hd : decode cc pc = .ok (.baload, 1)) : xSim (xV p l e R s m args below meth c Q g nL) r0 pc (oZald (pc + 1)) := by
  refine ⟨fun L st I pc' L' st' I' h kk => ?_, fun L st I h => ?_⟩
  · unfold oZald at h
    split at h
    · rename_i i a r
      cases hb : (Nat.beq (xK a) 11 && xInB i (xL a)) with
      | false => rw [hb] at h; cases h
      | true =>
        rw [hb] at h
        cases h
        simp only [Bool.and_eq_true] at hb
        have hk := Nat.eq_of_beq_eq_true hb.1
        have hlt : a < 211 := xK_lt (by omega)
        intro ls H locs hl hr
        exact va_zald C.1 C.2.1 C.2.2.2.2.2.1.1 hr.1 a 1 (by rw [xWl_get g I hlt, xCell_z g I hk]) rfl (xInB_in hb.2) hd (kk ls H locs hl hr)
    · cases h
  · unfold oZald at h
    split at h
    · rename_i i a r
      cases hb : (Nat.beq (xK a) 11 && xInB i (xL a)) <;> rw [hb] at h <;> cases h
    · cases h
theorem xs_qald (C : xCtx g cc nL own ret p s m args meth c) (hd : decode cc pc = .ok (.aaload, 1)) : xSim (xV p l e R s m args below meth c Q g nL) r0 pc (oQald (pc + 1)) := by
  refine ⟨fun L st I pc' L' st' I' h kk => ?_, fun L st I h => ?_⟩
  · unfold oQald at h
    split at h
    · rename_i i a r
      cases hb : (Nat.beq (xK a) 13 && xInB i (xL a)) with
      | false => rw [hb] at h; cases h
      | true =>
        rw [hb] at h
        cases h
        simp only [Bool.and_eq_true] at hb
        have hk := Nat.eq_of_beq_eq_true hb.1
        have hlt : a < 211 := xK_lt (by omega)
        intro ls H locs hl hr
        exact va_aldq (n := xL a) (f := fun j => some (g.2.1 (xR a j))) C.1 C.2.1 C.2.2.2.2.2.1.1 hr.1 a 3 (by rw [xWl_get g I hlt, xCell_q g I hk]) rfl (xInB_in hb.2) hd (kk ls H locs hl hr)
    · cases h
  · unfold oQald at h
    split at h
    · rename_i i a r
      cases hb : (Nat.beq (xK a) 13 && xInB i (xL a)) <;> rw [hb] at h <;> cases h
    · cases h
theorem xs_iast (C : xCtx g cc nL own ret p s m args meth c) (hd : decode cc pc = .ok (.iastore, 1)) : xSim (xV p l e R s m args below meth c Q g nL) r0 pc (oIast (pc + 1)) := by
  refine ⟨fun L st I pc' L' st' I' h kk => ?_, fun L st I h => ?_⟩
  · unfold oIast at h
    split at h
    · rename_i x i a r
      cases hb : (Nat.beq (xK a) 10 && xInB i (xL a)) with
      | false => rw [hb] at h; cases h
      | true =>
        rw [hb] at h
        cases h
        simp only [Bool.and_eq_true] at hb
        have hk := Nat.eq_of_beq_eq_true hb.1
        have hlt : a < 211 := xK_lt (by omega)
        intro ls H locs hl hr
        refine va_iast C.1 C.2.1 C.2.2.2.2.2.1.1 hr.1 hr.2.1 hr.2.2 a 0 (by rw [xWl_get g I hlt, xCell_i g I hk]) rfl (xInB_in hb.2) hd (fun H1 locs1 hP _ hS => kk ls H1 locs1 hl ⟨?_, xWl_D hr.2.1, hS⟩)
        rw [← xup_self I a, ← xCell_i g (xup I a i.toNatClampNeg x) hk, xWl_set g I _ hlt (fun b hb => xup_ne I _ x hb)] at hP
        exact hP
    · cases h
  · unfold oIast at h
    split at h
    · rename_i x i a r
      cases hb : (Nat.beq (xK a) 10 && xInB i (xL a)) <;> rw [hb] at h <;> cases h
    · cases h
theorem xs_zast (C : xCtx g cc nL own ret p s m args meth c) (hd : decode cc pc = .ok (.bastore, 1)) : xSim (xV p l e R s m args below meth c Q g nL) r0 pc (oZast (pc + 1)) := by
  refine ⟨fun L st I pc' L' st' I' h kk => ?_, fun L st I h => ?_⟩
  · unfold oZast at h
    split at h
    · rename_i x i a r
      cases hb : (Nat.beq (xK a) 11 && xInB i (xL a)) with
      | false => rw [hb] at h; cases h
      | true =>
        rw [hb] at h
        cases h
        simp only [Bool.and_eq_true] at hb
        have hk := Nat.eq_of_beq_eq_true hb.1
        have hlt : a < 211 := xK_lt (by omega)
        intro ls H locs hl hr
        refine va_zast C.1 C.2.1 C.2.2.2.2.2.1.1 hr.1 hr.2.1 hr.2.2 a 1 (by rw [xWl_get g I hlt, xCell_z g I hk]) rfl (xInB_in hb.2) hd (fun H1 locs1 hP _ hS => kk ls H1 locs1 hl ⟨?_, xWl_D hr.2.1, hS⟩)
        rw [← xup_self I a, ← xCell_z g (xup I a i.toNatClampNeg _) hk, xWl_set g I _ hlt (fun b hb => xup_ne I _ _ hb)] at hP
        exact hP
    · cases h
  · unfold oZast at h
    split at h
    · rename_i x i a r
      cases hb : (Nat.beq (xK a) 11 && xInB i (xL a)) <;> rw [hb] at h <;> cases h
    · cases h
theorem xs_alen (C : xCtx g cc nL own ret p s m args meth c) {k : Nat} (hd : decode cc pc = .ok (.arraylength, 1)) (hk9 : k = 10 ∨ k = 13) : xSim (xV p l e R s m args below meth c Q g nL) r0 pc (oAlen k (pc + 1)) := by
  refine ⟨fun L st I pc' L' st' I' h kk => ?_, fun L st I h => ?_⟩
  · unfold oAlen at h
    split at h
    · rename_i a r
      cases hb : Nat.beq (xK a) k with
      | false => rw [hb] at h; cases h
      | true =>
        rw [hb] at h
        cases h
        have hk := Nat.eq_of_beq_eq_true hb
        have hlt : a < 211 := xK_lt (by omega)
        intro ls H locs hl hr
        rcases hk9 with rfl | rfl
        · exact va_alen (x := (xL a, .inl (I a))) C.1 C.2.1 C.2.2.2.2.2.1.1 hr.1 a 0 (by rw [xWl_get g I hlt, xCell_i g I hk]) rfl rfl hd (kk ls H locs hl hr)
        · exact va_alen (x := (xL a, .inr (.inr (.inr (.inr (fun j => some (g.2.1 (xR a j)))))))) C.1 C.2.1 C.2.2.2.2.2.1.1 hr.1 a 3 (by rw [xWl_get g I hlt, xCell_q g I hk]) rfl rfl hd (kk ls H locs hl hr)
    · cases h
  · unfold oAlen at h
    split at h
    · rename_i a r
      cases hb : Nat.beq (xK a) k <;> rw [hb] at h <;> cases h
    · cases h
end XM4V
end XM4
