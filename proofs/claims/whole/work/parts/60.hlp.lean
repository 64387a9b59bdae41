/-! ===== the law's helpers: what is the same in all of them ===== -/
section P60
/-- which exception isn't which -/
def xNcs : List (String × String) := [("java/lang/IllegalArgumentException", "java/lang/IllegalStateException"), ("java/lang/IllegalArgumentException", "java/lang/IndexOutOfBoundsException"), ("java/lang/IllegalStateException", "java/lang/IllegalArgumentException"), ("java/lang/IllegalStateException", "java/lang/IndexOutOfBoundsException"), ("java/lang/IndexOutOfBoundsException", "java/lang/IllegalArgumentException"), ("java/lang/IndexOutOfBoundsException", "java/lang/IllegalStateException")]
def xWx (g : xG) (U : State) : Prop := xWorld g U ∧ ∀ q ∈ xNcs, va_Nc q.1 q.2 U
theorem xWx_go {g : xG} {s U : State} {H : Heap} {locs : List Loc} (h : xWx g s) (hS : va_S (xA g) s.heap H locs) (hH : U.heap = H) (hW : s.WarmedH U.vm) : xWx g U := ⟨xWorld_go h.1 hS hH hW, fun q hq => va_Nc.moved hW.alike (h.2 q hq)⟩
theorem xWx_blind {g : xG} {U : State} (f : JFrame) (mk : MethodId) (a : Array Value) (h : xWx g U) : xWx g (U.calling f mk a) := ⟨xWorld_blind f mk a h.1, fun q hq => va_Nc.moved (State.WarmedH.refl U : U.WarmedH (U.calling f mk a).vm).alike (h.2 q hq)⟩
def xPcH (g : xG) (vs : List Value) (I : xMem) : Array Value → State → Prop := va_Pc (vs.map (xc g)) (fun U => xWx g U ∧ va_P g.1 vwCl (xWl g I) U.heap ∧ va_D (xA g) (xWl g I) ∧ g.2.2.2 ≤ U.heap.size)
theorem xPcH_blind {g : xG} {vs : List Value} {I : xMem} : FrameBlind (xPcH g vs I) := fun a U f mk q => ⟨q.1, xWx_blind f mk a q.2.1, q.2.2⟩
theorem xpreH {g : xG} {s : State} {As : List Value} {H : Heap} {locs : List Loc} {I : xMem} (hW : xWx g s) (hr : xRep g s I H locs) (hz : g.2.2.2 ≤ s.heap.size) : ∀ U : State, U.heap = H → s.WarmedH U.vm → xPcH g As I ((As.map (xc g)).toArray) U := fun U hU hv => ⟨rfl, xWx_go hW hr.2.2 hU hv, by rw [hU]; exact hr.1, hr.2.1, by rw [hU]; exact Nat.le_trans hz hr.2.2.1⟩
def hQc (g : xG) (x : Int32) (I' : xMem) : Array Value → State → Outcome → State → Prop := fun _ st oc t => oc = .returned (some (.int x)) ∧ va_P g.1 vwCl (xWl g I') t.heap ∧ va_F (xA g) st t
def hNo : String → State → State → Prop := fun _ _ _ => False
theorem xgoodSW {own : String} {idx : Nat} {y : MethodName} {cw : Cond} (h1 : Cond.methodLink own idx y ∈ wsAll) (h2 : Cond.static y ∈ wsAll) (h4 : Cond.initialized y.cls ∈ wsAll) (h5 : cw ∈ wsAll) : GoodIn wsAll (va_wsS own idx y (cw :: wsAll)) := by
  intro w hw
  have hm : w ∈ wsAll := by
    rcases List.mem_append.mp hw with h | h
    · simp only [List.mem_cons, List.not_mem_nil, or_false] at h
      rcases h with rfl | rfl | rfl <;> assumption
    · rcases List.mem_cons.mp h with rfl | h
      · exact h5
      · exact h
  exact ⟨hm, wsAll_good w hm⟩
theorem xCell_l (g : xG) (I : xMem) {a : Nat} (h : xK a = 12) : xCell g I a = .inl (g.2.2.1 2, xL a, .inr (.inl (fun j => (I a j).toInt64))) := by
  unfold xCell
  rw [if_neg (by omega), if_neg (by omega), if_pos h]
section P60V
variable {p : Program} {l : Launch} {e : Env} {R : Room} {s : State} {m : MethodId} {args : Array Value} {below : List Frame} {meth : Method} {c : Code} {Q : State → Prop} {g : xG} {cc : ByteArray} {pc : Nat}
/-- a call that returns or throws -/
theorem xcallX {r : xRes} {H : Heap} {locs : List Loc} {cells slots mc ms : Nat} {ls : Array Slot} {st0 rest : List Value} {a : Array Value} (hr : vx_Run p l e R s m args below meth c H locs cells slots mc ms (F0 m pc ls st0) rest (xQc g r a) (xXC g r) (xA g)) (hS : va_S (xA g) s.heap H locs) (hD : va_D (xA g) (xWl g r.2))
    (kv : ∀ v0, r.1 = .inl v0 → ∀ (H1 : Heap) (locs1 : List Loc), xRep g s r.2 H1 locs1 → W p l e R s m args below meth c H1 locs1 (cells + mc) (slots + ms) Q (F0 m (pc + 3) ls ((v0.map (xc g)).toList ++ rest)))
    (kx : ∀ k, r.1 = .inr k → ∀ (H1 : Heap) (locs1 : List Loc) (q : Nat) (ce : Cell), xRep g s r.2 H1 locs1 → H1[q]? = some ce → ce.vm = .none → s.vm.findClass (xExc k) = some ce.cls → vx_W p l e R s m args below meth c H1 locs1 (cells + mc) (slots + ms) Q (F0 m pc ls rest) q) : W p l e R s m args below meth c H locs cells slots Q (F0 m pc ls st0) := by
  obtain ⟨r1, I'⟩ := r
  intro T hT X
  rcases hr T hT X with ⟨v, st₀, t, T', L, h0, X', hL, e1, e2, hQ, st⟩ | ⟨q, st₀, t, T', L, E, ce, h0, X', hL, e1, e2, hX, hce, hcv, hcl, st⟩
  · cases r1 with
    | inl v0 =>
      obtain ⟨hv, hP, hz, hk⟩ := hQ
      cases hv
      rw [h0] at hz hk
      obtain ⟨t2, a1, b1⟩ := kv v0 rfl T'.heap (locs ++ L) ⟨by rw [e1]; exact hP, hD, Nat.le_trans hS.1 (by rw [e1]; exact hz), fun q h1 h2 => by rw [e1, hk q (Nat.lt_of_lt_of_le h1 hS.1) h2]; exact hS.2.1 q h1 h2, fun q hq => by
          rcases List.mem_append.mp hq with h | h
          · exact hS.2.2 q h
          · exact hL q h⟩ T' rfl X'
      exact ⟨t2, st t2 a1, b1⟩
    | inr k => exact hQ.elim
  · cases r1 with
    | inl v0 => exact hX.elim
    | inr k =>
      obtain ⟨hE, hP, hz, hk⟩ := hX
      rw [h0] at hz hk
      rw [hE] at hcl
      obtain ⟨t2, a1, b1⟩ := kx k rfl T'.heap (locs ++ L) q ce ⟨by rw [e1]; exact hP, hD, Nat.le_trans hS.1 (by rw [e1]; exact hz), fun q h1 h2 => by rw [e1, hk q (Nat.lt_of_lt_of_le h1 hS.1) h2]; exact hS.2.1 q h1 h2, fun q hq => by
          rcases List.mem_append.mp hq with h | h
          · exact hS.2.2 q h
          · exact hL q h⟩ (by rw [e1]; exact hce) hcv hcl T' rfl X'
      exact ⟨t2, st.trans a1, b1⟩
/-- the answer is stored, 0 is returned -/
theorem hp_ok {v : Int32} {tgt : Nat} {off : Int} {ls : Array Slot} {H : Heap} {locs : List Loc} {I : xMem} (hx : p.tables.exec = Jvm.exec) (hb : c.code = cc) (hrt : meth.sig.returnType = some .int) (hlk : meth.locks = false) (hK : va_K g.1 vwCl (xTys g) s) (hr : xRep g s I H locs)
    (d3 : decode cc pc = .ok (.i2l, 1)) (d4 : decode cc (pc + 1) = .ok (.lastore, 1)) (d5 : decode cc (pc + 2) = .ok (.goto off, 3)) (ht : ((pc + 2 : Nat) : Int) + off = (tgt : Int)) (e0 : decode cc tgt = .ok (.iconst 0, 1)) (e1 : decode cc (tgt + 1) = .ok (.ireturn, 1)) : W p l e R s m args below meth c H locs 1 6 (vx_MQ below (hQc g (nI 0) (xup I 201 0 v)) hNo args s 1 6 (xA g)) (F0 m pc ls [.int v, .int (nI 0), .ref (g.2.1 201)]) := by
  have k12 : xK 201 = 12 := by decide
  have l12 : xL 201 = 1 := by decide
  refine lv_i2l hx hb d3 rfl ?_
  refine va_last hx hb hK hr.1 hr.2.1 hr.2.2 201 2 (f := fun j => (I 201 j).toInt64) (by rw [xWl_get g I (by omega), xCell_l g I k12]) rfl (by rw [l12]; exact vp_in_nI (n := 0) (by omega) (by omega)) d4 (fun H1 locs1 hP hD hS => ?_)
  have e9 : (.inl (g.2.2.1 2, xL 201, .inr (.inl (vp_updL (fun j => (I 201 j).toInt64) (nI 0).toNatClampNeg v.toInt64))) : va_E) = xCell g (xup I 201 0 v) 201 := by
    rw [xCell_l g _ k12]
    congr 5
    funext j
    rw [nI_clamp (by omega)]
    unfold vp_updL
    by_cases q : j = 0
    · rw [if_pos q, q, xup_s]
    · rw [if_neg q, xup_d q]
  rw [e9, xWl_set g I _ (by omega) (fun b hb => xup_ne I 0 v hb)] at hP
  refine lv_goto hx hb d5 ht ?_
  refine lv_iconst (v := nI 0) hx hb e0 (by decide) ?_
  exact vx_ret (W.iret hx hb hrt (fun t ht hW => ⟨rfl, by rw [ht]; exact hP, hS.F ht⟩) hS.2.2 e1 hlk)
/-- caught: its number is returned -/
theorem hp_catch {j k : Nat} {ls : Array Slot} {rest : List Value} {H : Heap} {locs : List Loc} {I : xMem} {q : Nat} {ce : Cell} {hp2 : Nat} (hx : p.tables.exec = Jvm.exec) (hb : c.code = cc) (hrt : meth.sig.returnType = some .int) (hlk : meth.locks = false) (hown : s.vm.findClass RL = some m.cls) (hts : ∀ w ∈ wsAll, w.before args s = true) (hW : xWx g s) (hr : xRep g s I H locs) (hce : H[q]? = some ce) (hcv : ce.vm = .none) (hcl : s.vm.findClass (xExc j) = some ce.cls)
    (pre : List ExceptionTableEntry) (x : ExceptionTableEntry) (suf : List ExceptionTableEntry) (hsplit : c.exceptionTable.toList = pre ++ x :: suf) (hpass : ∀ z ∈ pre, z.catchType ≠ 0 ∧ ∃ nm : String, Cond.classLink RL z.catchType nm ∈ wsAll ∧ (xExc j, nm) ∈ xNcs) (hcov : covers x pc = true) (h0 : x.catchType ≠ 0) (hlink : Cond.classLink RL x.catchType (xExc j) ∈ wsAll) (hcast : Cond.castable (xExc j) (xExc j) ∈ xNest)
    (hst : (∀ ls' : Array Slot, W p l e R s m args below meth c H locs 1 6 (vx_MQ below (hQc g (nI k) I) hNo args s 1 6 (xA g)) (F0 m hp2 ls' [])) → W p l e R s m args below meth c H locs 1 6 (vx_MQ below (hQc g (nI k) I) hNo args s 1 6 (xA g)) (F0 m x.handlerPc ls [.ref q]))
    {n : Int} (hn : Int32.ofInt n = nI k) (e0 : decode cc hp2 = .ok (.iconst n, 1)) (e1 : decode cc (hp2 + 1) = .ok (.ireturn, 1)) : vx_W p l e R s m args below meth c H locs 1 6 (vx_MQ below (hQc g (nI k) I) hNo args s 1 6 (xA g)) (F0 m pc ls rest) q := by
  refine vx_catch hown pre x suf hsplit (fun z hz => ?_) hcov h0 (hts _ hlink) (va_Nw.use (xNw_on (xNest_ok _ hcast)) (hW.1.2.1 _ hcast)) hce hcv hcl ?_
  · obtain ⟨a1, nm, a2, a3⟩ := hpass z hz
    exact Or.inr ⟨a1, nm, hts _ a2, hW.2 _ a3⟩
  · refine hst (fun ls' => ?_)
    refine lv_iconst (v := nI k) hx hb e0 hn ?_
    exact vx_ret (W.iret hx hb hrt (fun t ht hW => ⟨rfl, by rw [ht]; exact hr.1, hr.2.2.F ht⟩) hr.2.2.2.2 e1 hlk)
end P60V
end P60
