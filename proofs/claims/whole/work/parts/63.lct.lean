/-! ===== the law: its calls, its tail ===== -/
section P63
def lCtx (g : xG) (p : Program) (s : State) (m : MethodId) (meth : Method) (c : Code) (b : Nat) : Prop := p.tables.exec = Jvm.exec ∧ c.code = code ∧ c.maxLocals = 7 ∧ s.vm.findClass RL = some m.cls ∧ (∀ w ∈ wsAll, w.before #[Value.ref b] s = true) ∧ xWx g s ∧ g.2.2.2 ≤ s.heap.size
abbrev lvC (g : xG) (b i : Nat) : List (Nat × Value) := [(0, .ref b), (1, .ref (g.2.1 0)), (2, .ref (g.2.1 189)), (3, .ref (g.2.1 201)), (4, .int (nI i))]
abbrev lvK (g : xG) (b i k : Nat) : List (Nat × Value) := [(5, .int (nI k)), (0, .ref b), (1, .ref (g.2.1 0)), (2, .ref (g.2.1 189)), (3, .ref (g.2.1 201)), (4, .int (nI i))]
section P63V
variable {p : Program} {l : Launch} {e : Env} {s : State} {m : MethodId} {below : List Frame} {meth : Method} {c : Code} {Q : State → Prop} {g : xG} {pc b : Nat} {cells slots : Nat}
theorem xcallG {R : Room} {args : Array Value} {v0 : Option Value} {I' : xMem} {H : Heap} {locs : List Loc} {mc ms : Nat} {ls : Array Slot} {st0 rest : List Value} {a : Array Value} (hr : va_Run p l e R s m args below meth c H locs cells slots mc ms (F0 m pc ls st0) rest (xQc g (.inl v0, I') a) (xA g)) (hS : va_S (xA g) s.heap H locs) (hD : va_D (xA g) (xWl g I'))
    (kk : ∀ (H1 : Heap) (locs1 : List Loc), xRep g s I' H1 locs1 → W p l e R s m args below meth c H1 locs1 (cells + mc) (slots + ms) Q (F0 m (pc + 3) ls ((v0.map (xc g)).toList ++ rest))) : W p l e R s m args below meth c H locs cells slots Q (F0 m pc ls st0) := by
  intro T hT X
  obtain ⟨v, st₀, t, T', L, h0, X', hL, e1, e2, ⟨hv, hP, hz, hk⟩, st⟩ := hr T hT X
  cases hv
  rw [h0] at hz hk
  obtain ⟨t2, a1, b1⟩ := kk T'.heap (locs ++ L) ⟨by rw [e1]; exact hP, hD, Nat.le_trans hS.1 (by rw [e1]; exact hz), fun q h1 h2 => by rw [e1, hk q (Nat.lt_of_lt_of_le h1 hS.1) h2]; exact hS.2.1 q h1 h2, fun q hq => by
      rcases List.mem_append.mp hq with h | h
      · exact hS.2.2 q h
      · exact hL q h⟩ T' rfl X'
  exact ⟨t2, st t2 a1, b1⟩
/-- the law calls a method of an object -/
theorem lc_V (C : lCtx g p s m meth c b) {y : MethodName} {cy : ByteArray} {nY idx ci n fr lo N b' : Nat} {ry : Option FieldType} {run : xRun} {D : String} {T : u_T} {st rest : List Value} {ls : Array Slot} {H : Heap} {locs : List Loc} {I I' : xMem} {v0 : Option Value} (hM : xMet l g y cy nY ry fr lo run) (hd : decode code pc = .ok (.invokevirtual idx, 3)) (hc : vwCl[ci]? = some (D, T, N)) (h10 : ci < 10) (hyc : y.cls = D) (hy : xDesc y n)
    (hw1 : Cond.methodLink RL idx y ∈ wsAll) (hw2 : Cond.instanceMethod y ∈ wsAll) (hw3 : Cond.selects D y y ∈ wsAll) (hw4 : Cond.initialized D ∈ wsAll) (hw5 : Cond.code y cy nY ry ∈ wsAll) (hR : fr + 1 ≤ 12 ∧ 8 + (nY + 11) + lo ≤ 474)
    (hst : st.drop n = .ref b' :: rest) (hk : xK b' = ci) (hcat : (rest.map fun v => v.category).sum ≤ 8) (hrun : run (.ref b' :: (st.take n).reverse) I = some (.inl v0, I')) (hsz : ls.size = 7) (hr : xRep g s I H locs) (hcs : cells ≤ 601024 ∧ slots ≤ 7293034)
    (kk : ∀ (H1 : Heap) (locs1 : List Loc), xRep g s I' H1 locs1 → W p l e room_1 s m #[Value.ref b] below meth c H1 locs1 cells slots Q (F0 m (pc + 3) ls ((v0.map (xc g)).toList ++ rest.map (xc g)))) : W p l e room_1 s m #[Value.ref b] below meth c H locs cells slots Q (F0 m pc ls (st.map (xc g))) := by
  obtain ⟨hs1, hs2⟩ := xst_split g hst
  have hM1 := hM (.ref b' :: (st.take n).reverse) I v0 I' hrun
  exact xcallG (va_runV (As := (st.take n).reverse.map (xc g)) (rest := rest.map (xc g)) (nL := 7) (n := n) ⟨C.1, C.2.1, C.2.2.1, C.2.2.2.1, C.2.2.2.2.1⟩ hM1 (cwV n C.2.2.2.2.1 (xgoodV hw1 hw2 hw3 hw4 hw5) rfl rfl rfl ⟨hyc, hy⟩ hR) ⟨xPc_blind, xrecv C.2.2.2.2.2.1.1.1 hr hk h10 hc, xpre C.2.2.2.2.2.1.1 hr C.2.2.2.2.2.2⟩ rfl hs2 hsz hs1 (lv_room (by rw [xc_cats]; exact hcat)) hd hcs) hr.2.2 (xWl_D hr.2.1) kk
/-- the law calls a helper -/
theorem lc_H (C : lCtx g p s m meth c b) {y : MethodName} {cy : ByteArray} {nY idx n fr lo : Nat} {hh : List (Nat × Nat × Nat × Nat)} {st As : List Value} {ls : Array Slot} {H : Heap} {locs : List Loc} {I I' : xMem} {x : Int32} (hM : vx_Met l y (Cond.codeWith y cy nY (some .int) hh :: wsAll) { frames := fr, cells := 1, slots := 6, locals := lo } (xPcH g As I) (hQc g x I') hNo 1 6 (xA g)) (hd : decode code pc = .ok (.invokestatic idx, 3)) (hy : xDesc y n)
    (hw1 : Cond.methodLink RL idx y ∈ wsAll) (hw2 : Cond.static y ∈ wsAll) (hw4 : Cond.initialized y.cls ∈ wsAll) (hw5 : Cond.codeWith y cy nY (some .int) hh ∈ wsAll) (hR : fr + 1 ≤ 12 ∧ 8 + (nY + 11) + lo ≤ 474)
    (hn : As.length = n) (hst : st = (As.map (xc g)).reverse) (hsz : ls.size = 7) (hr : xRep g s I H locs) (hcs : cells + 1 ≤ 601024 ∧ slots + 6 ≤ 7293034)
    (kk : ∀ (H1 : Heap) (locs1 : List Loc), xRep g s I' H1 locs1 → W p l e room_1 s m #[Value.ref b] below meth c H1 locs1 (cells + 1) (slots + 6) Q (F0 m (pc + 3) ls [.int x])) : W p l e room_1 s m #[Value.ref b] below meth c H locs cells slots Q (F0 m pc ls st) := by
  have hrr := vx_runSX (H := H) (locs := locs) (cells := cells) (slots := slots) (below := below) (e := e) (R := room_1) (As := As.map (xc g)) (rest := []) (nL := 7) (n := n) (g := F0 m pc ls st) (meth := meth) ⟨C.1, C.2.1, C.2.2.1, C.2.2.2.1, C.2.2.2.2.1⟩ hM (vx_cwSW n C.2.2.2.2.1 (xgoodSW hw1 hw2 hw4 hw5) rfl rfl rfl hy hR) ⟨xPcH_blind, xpreH C.2.2.2.2.2.1 hr C.2.2.2.2.2.2⟩ rfl (by rw [List.length_map]; exact hn) hsz (by rw [List.append_nil]; exact hst) (lv_room (Nat.zero_le _)) hd hcs
  have hS := hr.2.2
  intro T hT X
  rcases hrr T hT X with ⟨v, st₀, t, T', L, h0, X', hL, e1, e2, hQ, st⟩ | ⟨q, st₀, t, T', L, E, ce, h0, X', hL, e1, e2, hX, hce, hcv, hcl, st⟩
  · obtain ⟨hv, hP, hz, hk⟩ := hQ
    cases hv
    rw [h0] at hz hk
    obtain ⟨t2, a1, b1⟩ := kk T'.heap (locs ++ L) ⟨by rw [e1]; exact hP, xWl_D hr.2.1, Nat.le_trans hS.1 (by rw [e1]; exact hz), fun q h1 h2 => by rw [e1, hk q (Nat.lt_of_lt_of_le h1 hS.1) h2]; exact hS.2.1 q h1 h2, fun q hq => by
        rcases List.mem_append.mp hq with h | h
        · exact hS.2.2 q h
        · exact hL q h⟩ T' rfl X'
    exact ⟨t2, st t2 a1, b1⟩
  · exact hX.elim
/-- script[i + j] is pushed -/
theorem l_arg {L i j : Nat} {xs : Nat → Int32} {n : Int} {ls : Array Slot} {lv : List (Nat × Value)} {H : Heap} {locs : List Loc} {st : List Value} {a0 a4 : Nat} (C : lCtx g p s m meth c b) (hX : va_X b L xs s s.heap) (hbl : b < s.heap.size) (hbA : ¬ xA g b) (hS : va_S (xA g) s.heap H locs) (hl : lv_has ls 7 lv) (h0 : lv[a0]? = some (0, .ref b)) (h4 : lv[a4]? = some (4, .int (nI i))) (hij : i + j < L) (hL : L ≤ 2048) (hn : Int32.ofInt n = nI j)
    (d0 : decode code pc = .ok (.aload_n 0, 1)) (d1 : decode code (pc + 1) = .ok (.iload 4, 2)) (d3 : decode code (pc + 3) = .ok (.iconst n, 1)) (d4 : decode code (pc + 4) = .ok (.iadd, 1)) (d5 : decode code (pc + 5) = .ok (.iaload, 1))
    (kk : W p l e room_1 s m #[Value.ref b] below meth c H locs cells slots Q (F0 m (pc + 6) ls (.int (xs (i + j)) :: st))) : W p l e room_1 s m #[Value.ref b] below meth c H locs cells slots Q (F0 m pc ls st) := by
  have hx := C.1
  have hb := C.2.1
  refine lv_aload_n hx hb d0 rfl (lv_at hl a0 h0) ?_
  refine lv_iload hx hb d1 (lv_at hl a4 h4) ?_
  refine lv_iconst (v := nI j) hx hb d3 hn ?_
  refine lv_iadd hx hb d4 ?_
  rw [nI_add]
  refine va_sld hx hb hX hbl hbA hS (vp_in_nI hij (by omega)) d5 ?_
  rw [nI_clamp (by omega)]
  exact kk
/-- x != 0 -/
theorem l_bool {x : Int32} {ls : Array Slot} {H : Heap} {locs : List Loc} {st : List Value} (C : lCtx g p s m meth c b) (d0 : decode code pc = .ok (.ifCond .eq 7, 3)) (d3 : decode code (pc + 3) = .ok (.iconst 1, 1)) (d4 : decode code (pc + 4) = .ok (.goto 4, 3)) (d7 : decode code (pc + 7) = .ok (.iconst 0, 1))
    (kk : W p l e room_1 s m #[Value.ref b] below meth c H locs cells slots Q (F0 m (pc + 8) ls (.int (bI (!decide (x = 0))) :: st))) : W p l e room_1 s m #[Value.ref b] below meth c H locs cells slots Q (F0 m pc ls (.int x :: st)) := by
  have hx := C.1
  have hb := C.2.1
  refine lv_if_eq (tgt := pc + 7) hx hb d0 (by omega) (fun q => ?_) (fun q => ?_)
  · refine lv_iconst (v := nI 0) hx hb d7 (by decide) ?_
    have e9 : bI (!decide (x = 0)) = nI 0 := by rw [decide_eq_true q]; rfl
    rw [e9] at kk
    exact kk
  · refine lv_iconst (v := nI 1) hx hb d3 (by decide) ?_
    refine lv_goto (tgt := pc + 8) hx hb d4 (by omega) ?_
    have e9 : bI (!decide (x = 0)) = nI 1 := by rw [decide_eq_false q]; rfl
    rw [e9] at kk
    exact kk
/-- behind both calls: they agree -/
theorem l_tail {i k : Nat} {bv : Int32} {off : Int} {ls : Array Slot} {H : Heap} {locs : List Loc} {I : xMem} (C : lCtx g p s m meth c b) (hl : lv_has ls 7 (lvK g b i k)) (hr : xRep g s I H locs) (hcs : cells ≤ 601024 ∧ slots ≤ 7293034) (hk : k ≤ 3) (h0 : I 189 0 = nI k) (hv : k = 0 → I 201 0 = bv) (hw1 : Cond.methodLink RL 103 yX9_thrown ∈ wsAll) (hw2 : Cond.instanceMethod yX9_thrown ∈ wsAll) (hw3 : Cond.selects RX9 yX9_thrown yX9_thrown ∈ wsAll) (hw4 : Cond.initialized RX9 ∈ wsAll) (hw5 : Cond.code yX9_thrown cX9_thrown 1 (some .int) ∈ wsAll)
    (d0 : decode code pc = .ok (.istore 6, 2)) (d2 : decode code (pc + 2) = .ok (.aload_n 2, 1)) (d3 : decode code (pc + 3) = .ok (.invokevirtual 103, 3)) (d6 : decode code (pc + 6) = .ok (.iload 5, 2)) (d8 : decode code (pc + 8) = .ok (.if_icmp .eq 5, 3)) (d13 : decode code (pc + 13) = .ok (.iload 5, 2)) (d15 : decode code (pc + 15) = .ok (.ifCond .ne 15, 3)) (d18 : decode code (pc + 18) = .ok (.aload_n 3, 1)) (d19 : decode code (pc + 19) = .ok (.iconst 0, 1)) (d20 : decode code (pc + 20) = .ok (.laload, 1)) (d21 : decode code (pc + 21) = .ok (.iload 6, 2)) (d23 : decode code (pc + 23) = .ok (.i2l, 1)) (d24 : decode code (pc + 24) = .ok (.lcmp, 1)) (d25 : decode code (pc + 25) = .ok (.ifCond .eq 5, 3)) (d30 : decode code (pc + 30) = .ok (.goto off, 3)) (ht : ((pc + 30 : Nat) : Int) + off = ((1736 : Nat) : Int))
    (kk : ∀ (H1 : Heap) (locs1 : List Loc) (ls' : Array Slot), xRep g s I H1 locs1 → lv_has ls' 7 (lvC g b i) → W p l e room_1 s m #[Value.ref b] below meth c H1 locs1 cells slots Q (F0 m 1736 ls' [])) : W p l e room_1 s m #[Value.ref b] below meth c H locs cells slots Q (F0 m pc ls [.int bv]) := by
  have hx := C.1
  have hb := C.2.1
  refine lv_istore (lv' := (6, .int bv) :: lvK g b i k) hx hb d0 hl (by decide) rfl (fun ls hl => ?_)
  refine lv_aload_n hx hb d2 rfl (lv_at hl 4 rfl) ?_
  refine lc_V C (m_X9_thrown l g) (st := [.ref 189]) (rest := []) (n := 0) (b' := 189) (I := I) (I' := I) (v0 := some (.int (nI k))) d3 (rfl : vwCl[9]? = some (RX9, TX9, 17)) (by omega) rfl ⟨by decide, by decide, by decide +kernel⟩ hw1 hw2 hw3 hw4 hw5 ⟨Nat.le_of_ble_eq_true rfl, Nat.le_of_ble_eq_true rfl⟩ rfl (by decide) (Nat.le_of_ble_eq_true rfl) ?_ hl.1 hr hcs (fun H1 locs1 hr1 => ?_)
  · have k9 := x189
    show f_X9_thrown [.ref 189] I = some (.inl (some (.int (nI k))), I)
    rw [e_X9_thrown]
    simp (disch := omega) only [q_X9_thrown_0, q_X9_thrown_1, q_X9_thrown_4, k9, h0]
  refine lv_iload hx hb d6 (lv_at hl 1 rfl) ?_
  refine lv_icmp_eq (tgt := pc + 13) hx hb d8 (by omega) (fun _ => ?_) (fun q => absurd rfl q)
  refine lv_iload hx hb d13 (lv_at hl 1 rfl) ?_
  have last : ∀ (ls : Array Slot), lv_has ls 7 ((6, .int bv) :: lvK g b i k) → W p l e room_1 s m #[Value.ref b] below meth c H1 locs1 cells slots Q (F0 m (pc + 30) ls []) := fun ls hl => by
    refine lv_goto (tgt := 1736) hx hb d30 ht ?_
    exact kk H1 locs1 ls hr1 (lv_sub hl [2, 3, 4, 5, 6] rfl)
  refine lv_if_ne (tgt := pc + 30) hx hb d15 (by omega) (fun _ => last ls hl) (fun q => ?_)
  rw [pI_eq0 (by omega)] at q
  have k12 : xK 201 = 12 := by decide
  have l12 : xL 201 = 1 := by decide
  refine lv_aload_n hx hb d18 rfl (lv_at hl 5 rfl) ?_
  refine lv_iconst (v := nI 0) hx hb d19 (by decide) ?_
  refine va_lald hx hb C.2.2.2.2.2.1.1.1 hr1.1 201 2 (f := fun j => (I 201 j).toInt64) (by rw [xWl_get g I (by omega), xCell_l g I k12]) rfl (by rw [l12]; exact vp_in_nI (n := 0) (by omega) (by omega)) d20 ?_
  refine lv_iload hx hb d21 (lv_at hl 0 rfl) ?_
  refine lv_i2l hx hb d23 rfl ?_
  refine W.lcmp hx hb d24 ?_
  have e9 : lg_cmp (I 201 (nI 0).toNatClampNeg).toInt64 bv.toInt64 = 0 := by
    rw [nI_clamp (by omega), hv q, lgc_eq]
  rw [e9]
  exact lv_if_eq (tgt := pc + 30) hx hb d25 (by omega) (fun _ => last ls hl) (fun q => absurd rfl q)
end P63V
/-- what both calls come to -/
theorem l_packW {f h : List Value → xMem → Option ((Option Value ⊕ Nat) × xMem)} {as : List Value} {ex : List Nat} {α : aS} {I : xMem} (hA : AgreeW f h as ex α) (hc : cInv I α) (hm : mInv I α) : ∃ k v β I1 I3, k ≤ ex.length ∧ f (.ref 0 :: as) I = some ((if k = 0 then .inl (some (.int v)) else .inr (xEx ex k)), I1) ∧ h (.ref 189 :: as) (if k = 0 then xup I1 201 0 v else I1) = some (.inl (some (.int (if k = 0 then v else nI 0))), I3) ∧ cInv I3 β ∧ mInv I3 β ∧ I3 189 0 = nI k ∧ (k = 0 → I3 201 0 = (if k = 0 then v else nI 0)) := by
  obtain ⟨k, v, β, hk, hC, hM⟩ := hA
  obtain ⟨I1, r1, c1, z1⟩ := hC I hc
  have m1 : mInv I1 α := hm.cg (fun c hc => z1 c (by omega) (by omega)) (by rw [z1 189 (by omega) (by omega)]) (by rw [z1 189 (by omega) (by omega)])
  obtain ⟨I2, e2⟩ : ∃ I2, I2 = (if k = 0 then xup I1 201 0 v else I1) := ⟨_, rfl⟩
  have h2 : ∀ c, c ≠ 201 → I2 c = I1 c := fun c hc => by
    rw [e2]
    split
    · rw [xup_o hc]
    · rfl
  have m2 : mInv I2 α := m1.cg (fun c hc => h2 c (by omega)) (by rw [h2 189 (by omega)]) (by rw [h2 189 (by omega)])
  obtain ⟨I3, r3, m3, z3, h0⟩ := hM I2 m2
  refine ⟨k, v, β, I1, I3, hk, r1, by rw [← e2]; exact r3, ?_, m3, h0, fun q => ?_⟩
  · exact c1.cg (fun c hc => by rw [z3 c (by omega), h2 c (by omega)]) (by rw [z3 163 (by omega), h2 163 (by omega)])
  · rw [if_pos q, z3 201 (by omega), e2, if_pos q, xup_s]
theorem l_pack {f h : List Value → xMem → Option ((Option Value ⊕ Nat) × xMem)} {as : List Value} {ex : List Nat} {α : aS} {I : xMem} (hA : Agree f h as ex α) (hc : cInv I α) (hm : mInv I α) : ∃ k v β I1 I3, k ≤ ex.length ∧ f (.ref 0 :: as) I = some ((if k = 0 then .inl (some (.int v)) else .inr (xEx ex k)), I1) ∧ h (.ref 189 :: as) (if k = 0 then xup I1 201 0 v else I1) = some (.inl (some (.int (if k = 0 then v else nI 0))), I3) ∧ cInv I3 β ∧ mInv I3 β ∧ I3 189 0 = nI k ∧ (k = 0 → I3 201 0 = (if k = 0 then v else nI 0)) := l_packW hA.w hc hm
theorem l_pack0 {f h : List Value → xMem → Option ((Option Value ⊕ Nat) × xMem)} {as : List Value} {α : aS} {I : xMem} (hA : Agree0 f h as α) (hc : cInv I α) (hm : mInv I α) : ∃ v β I1 I3, f (.ref 0 :: as) I = some (.inl (some (.int v)), I1) ∧ h (.ref 189 :: as) I1 = some (.inl (some (.int v)), I3) ∧ cInv I3 β ∧ mInv I3 β := by
  obtain ⟨v, β, hC, hM⟩ := hA
  obtain ⟨I1, r1, c1, z1⟩ := hC I hc
  have m1 : mInv I1 α := hm.cg (fun c hc => z1 c (by omega)) (by rw [z1 189 (by omega)]) (by rw [z1 189 (by omega)])
  obtain ⟨I3, r3, m3, z3⟩ := hM I1 m1
  rw [if_pos rfl] at r1
  exact ⟨v, β, I1, I3, r1, r3, c1.cg (fun c hc => z3 c (by omega)) (by rw [z3 163 (by omega)]), m3⟩
end P63
