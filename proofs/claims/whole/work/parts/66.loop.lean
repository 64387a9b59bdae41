/-! THE CLAIM OUT OF ONE WALK OF THE LAW'S BODY. Your part is whole_start (and what it stands on); all else here is the same for every law, but numbers. -/
def R_law : String := "CodedColumnLaw"
def lw_P (b : Addr) (xs : List Int32) (args : Array Value) (s : State) : Prop := args = #[.ref b] ∧ s.IntsAt b xs ∧ xs.length ≤ 2048 ∧ (Jvm.Cond.and given_1 narrow_1).before args s = true
def lw_Q (_ : Array Value) (s : State) (o : Outcome) (t : State) : Prop := o = .returned (some (.int 1)) ∧ Framed s o t [] 601024 7293034
def lw_Z (below : List Frame) (a : Array Value) (s : State) : State → Prop := fun t => ∃ o, t.status = .running ∧ Ended t below o ∧ lw_Q a s o t
/-- the law's own end, with 1 on the stack, nothing written that was there before, its room as the claim has it -/
theorem lw_ret {p : Program} {l : Launch} {e : Env} {s : State} {m : MethodId} {below : List Frame} {meth : Method} {c : Code} {b : Nat} (hx : p.tables.exec = Jvm.exec) (hb : c.code = code) (hr : meth.sig.returnType = ret) (hlocks : meth.locks = false) {pc : Nat} {H : Heap} {ls : Array Slot} (hdg : decode code pc = .ok (.ireturn, 1)) : W p l e room_1 s m #[Value.ref b] below meth c H [] 601024 7293034 (lw_Z below #[Value.ref b] s) (F0 m pc ls [.int 1]) := by
  intro T hT X
  obtain ⟨fs, hret, hrun, hended, hW, hframe⟩ := X.leave (v := some (.int 1)) (hlocks := hlocks) (fun h => by rw [hr] at h; cases h)
  have hmeth' : T.vm.method? m = some meth := X.method'
  refine ⟨T.setFrames fs, ?_, .returned (some (.int 1)), hrun, hended, rfl, ⟨_, rfl⟩, hW, hframe⟩
  jvm_step X.here [X.here.top, hx, hb, hdg, hmeth', hr, ret, narrow_b1]
  (try refine ⟨rfl, ?_⟩); (try refine ⟨rfl, ?_⟩)
  first | (intro acts; rw [hret _ acts rfl rfl rfl]) | rw [hret _ _ rfl rfl rfl]
  exact Steps.refl _
/-- what holds at the law's entry: the machine, the code, the tables' words (any of lw_tbl by 'hts w (by decide +kernel)'), the script of L ints xs at the cell b, what the Statement gives of the start (any of its parts by flat_of_before) -/
def lw_At (p : Program) (s : State) (m : MethodId) (meth : Method) (c : Code) (b L : Nat) (xs : Nat → Int32) : Prop :=
  p.tables.exec = Jvm.exec ∧ c.code = code ∧ meth.sig.returnType = ret ∧ c.maxLocals = 7 ∧ s.vm.findClass R_law = some m.cls ∧ (∀ w ∈ lw_tbl, w.before #[Value.ref b] s = true) ∧ va_X b L xs s s.heap ∧ b < s.heap.size ∧ meth.locks = false ∧ (Jvm.Cond.and given_1 narrow_1).before #[Value.ref b] s = true
/-! ===== the law's loop ===== -/
section P66
variable {p : Program} {l : Launch} {e : Env} {s : State} {m : MethodId} {below : List Frame} {meth : Method} {c : Code} {g : xG} {b L : Nat} {xs : Nat → Int32}
set_option maxHeartbeats 4000000 in
set_option maxRecDepth 100000 in
theorem law_one {Q : State → Prop} {i : Nat} (hfl : l.stackTraces = false) (C : lCtx g p s m meth c b) (hX : va_X b L xs s s.heap) (hbl : b < s.heap.size) (hbA : ¬ xA g b) (hL : L ≤ 2048) (hi : i + 4 ≤ L) {I : xMem} {α : aS} (hc : cInv I α) (hm : mInv I α) {H : Heap} {locs : List Loc} (hr : xRep g s I H locs) {ls : Array Slot} (hl : lv_has ls 7 (lvC g b i)) {cells slots : Nat} (hcs : cells + 1 ≤ 601024 ∧ slots + 6 ≤ 7293034) (kk : lNext p l e s m b below meth c g i (cells + 1) (slots + 6) Q) : W p l e room_1 s m #[Value.ref b] below meth c H locs cells slots Q (F0 m 32 ls []) := by
  have hx := C.1
  have hb := C.2.1
  refine lv_aload_n hx hb dL_law_32 rfl (lv_at hl 0 rfl) ?_
  refine lv_iload hx hb dL_law_33 (lv_at hl 4 rfl) ?_
  refine va_sld hx hb hX hbl hbA hr.2.2 (vp_in_nI (by omega) (by omega)) dL_law_35 ?_
  refine lv_bipush (v := 31) hx hb dL_law_36 (by decide) ?_
  refine lv_iand hx hb dL_law_38 ?_
  obtain ⟨j, hj, ej⟩ := pk_andE (xs (nI i).toNatClampNeg) (m := 31) 5 (by decide)
  rw [ej]
  clear ej
  have hj : j < 32 := hj
  by_cases h28 : j < 28
  · rcases (show j = 0 ∨ j = 1 ∨ j = 2 ∨ j = 3 ∨ j = 4 ∨ j = 5 ∨ j = 6 ∨ j = 7 ∨ j = 8 ∨ j = 9 ∨ j = 10 ∨ j = 11 ∨ j = 12 ∨ j = 13 ∨ j = 14 ∨ j = 15 ∨ j = 16 ∨ j = 17 ∨ j = 18 ∨ j = 19 ∨ j = 20 ∨ j = 21 ∨ j = 22 ∨ j = 23 ∨ j = 24 ∨ j = 25 ∨ j = 26 ∨ j = 27 by omega) with rfl | rfl | rfl | rfl | rfl | rfl | rfl | rfl | rfl | rfl | rfl | rfl | rfl | rfl | rfl | rfl | rfl | rfl | rfl | rfl | rfl | rfl | rfl | rfl | rfl | rfl | rfl | rfl
    · refine lv_tableIn (off := 125) (tgt := 164) hx hb dL_law_39 (by decide) (by decide) (by decide) (by decide) ?_
      exact lw_c0 hfl  C hX hbl hbA hL hi hc hm hr hl hcs kk
    · refine lv_tableIn (off := 181) (tgt := 220) hx hb dL_law_39 (by decide) (by decide) (by decide) (by decide) ?_
      exact lw_c1 hfl  C hX hbl hbA hL hi hc hm hr hl hcs kk
    · refine lv_tableIn (off := 194) (tgt := 233) hx hb dL_law_39 (by decide) (by decide) (by decide) (by decide) ?_
      exact lw_c2 hfl  C hX hbl hbA hL hi hc hm hr hl hcs kk
    · refine lv_tableIn (off := 207) (tgt := 246) hx hb dL_law_39 (by decide) (by decide) (by decide) (by decide) ?_
      exact lw_c3 hfl  C hX hbl hbA hL hi hc hm hr hl hcs kk
    · refine lv_tableIn (off := 263) (tgt := 302) hx hb dL_law_39 (by decide) (by decide) (by decide) (by decide) ?_
      exact lw_c4 hfl  C hX hbl hbA hL hi hc hm hr hl hcs kk
    · refine lv_tableIn (off := 319) (tgt := 358) hx hb dL_law_39 (by decide) (by decide) (by decide) (by decide) ?_
      exact lw_c5 hfl  C hX hbl hbA hL hi hc hm hr hl hcs kk
    · refine lv_tableIn (off := 387) (tgt := 426) hx hb dL_law_39 (by decide) (by decide) (by decide) (by decide) ?_
      exact lw_c6 hfl  C hX hbl hbA hL hi hc hm hr hl hcs kk
    · refine lv_tableIn (off := 455) (tgt := 494) hx hb dL_law_39 (by decide) (by decide) (by decide) (by decide) ?_
      exact lw_c7 hfl  C hX hbl hbA hL hi hc hm hr hl hcs kk
    · refine lv_tableIn (off := 523) (tgt := 562) hx hb dL_law_39 (by decide) (by decide) (by decide) (by decide) ?_
      exact lw_c8 hfl  C hX hbl hbA hL hi hc hm hr hl hcs kk
    · refine lv_tableIn (off := 607) (tgt := 646) hx hb dL_law_39 (by decide) (by decide) (by decide) (by decide) ?_
      exact lw_c9 hfl  C hX hbl hbA hL hi hc hm hr hl hcs kk
    · refine lv_tableIn (off := 675) (tgt := 714) hx hb dL_law_39 (by decide) (by decide) (by decide) (by decide) ?_
      exact lw_c10 hfl  C hX hbl hbA hL hi hc hm hr hl hcs kk
    · refine lv_tableIn (off := 731) (tgt := 770) hx hb dL_law_39 (by decide) (by decide) (by decide) (by decide) ?_
      exact lw_c11 hfl  C hX hbl hbA hL hi hc hm hr hl hcs kk
    · refine lv_tableIn (off := 799) (tgt := 838) hx hb dL_law_39 (by decide) (by decide) (by decide) (by decide) ?_
      exact lw_c12 hfl  C hX hbl hbA hL hi hc hm hr hl hcs kk
    · refine lv_tableIn (off := 855) (tgt := 894) hx hb dL_law_39 (by decide) (by decide) (by decide) (by decide) ?_
      exact lw_c13 hfl  C hX hbl hbA hL hi hc hm hr hl hcs kk
    · refine lv_tableIn (off := 923) (tgt := 962) hx hb dL_law_39 (by decide) (by decide) (by decide) (by decide) ?_
      exact lw_c14 hfl  C hX hbl hbA hL hi hc hm hr hl hcs kk
    · refine lv_tableIn (off := 979) (tgt := 1018) hx hb dL_law_39 (by decide) (by decide) (by decide) (by decide) ?_
      exact lw_c15 hfl  C hX hbl hbA hL hi hc hm hr hl hcs kk
    · refine lv_tableIn (off := 992) (tgt := 1031) hx hb dL_law_39 (by decide) (by decide) (by decide) (by decide) ?_
      exact lw_c16 hfl  C hX hbl hbA hL hi hc hm hr hl hcs kk
    · refine lv_tableIn (off := 1060) (tgt := 1099) hx hb dL_law_39 (by decide) (by decide) (by decide) (by decide) ?_
      exact lw_c17 hfl  C hX hbl hbA hL hi hc hm hr hl hcs kk
    · refine lv_tableIn (off := 1116) (tgt := 1155) hx hb dL_law_39 (by decide) (by decide) (by decide) (by decide) ?_
      exact lw_c18 hfl  C hX hbl hbA hL hi hc hm hr hl hcs kk
    · refine lv_tableIn (off := 1160) (tgt := 1199) hx hb dL_law_39 (by decide) (by decide) (by decide) (by decide) ?_
      exact lw_c19 hfl  C hX hbl hbA hL hi hc hm hr hl hcs kk
    · refine lv_tableIn (off := 1204) (tgt := 1243) hx hb dL_law_39 (by decide) (by decide) (by decide) (by decide) ?_
      exact lw_c20 hfl  C hX hbl hbA hL hi hc hm hr hl hcs kk
    · refine lv_tableIn (off := 1260) (tgt := 1299) hx hb dL_law_39 (by decide) (by decide) (by decide) (by decide) ?_
      exact lw_c21 hfl  C hX hbl hbA hL hi hc hm hr hl hcs kk
    · refine lv_tableIn (off := 1316) (tgt := 1355) hx hb dL_law_39 (by decide) (by decide) (by decide) (by decide) ?_
      exact lw_c22 hfl  C hX hbl hbA hL hi hc hm hr hl hcs kk
    · refine lv_tableIn (off := 1329) (tgt := 1368) hx hb dL_law_39 (by decide) (by decide) (by decide) (by decide) ?_
      exact lw_c23 hfl  C hX hbl hbA hL hi hc hm hr hl hcs kk
    · refine lv_tableIn (off := 1385) (tgt := 1424) hx hb dL_law_39 (by decide) (by decide) (by decide) (by decide) ?_
      exact lw_c24 hfl  C hX hbl hbA hL hi hc hm hr hl hcs kk
    · refine lv_tableIn (off := 1485) (tgt := 1524) hx hb dL_law_39 (by decide) (by decide) (by decide) (by decide) ?_
      exact lw_c25 hfl  C hX hbl hbA hL hi hc hm hr hl hcs kk
    · refine lv_tableIn (off := 1585) (tgt := 1624) hx hb dL_law_39 (by decide) (by decide) (by decide) (by decide) ?_
      exact lw_c26 hfl  C hX hbl hbA hL hi hc hm hr hl hcs kk
    · refine lv_tableIn (off := 1641) (tgt := 1680) hx hb dL_law_39 (by decide) (by decide) (by decide) (by decide) ?_
      exact lw_c27 hfl  C hX hbl hbA hL hi hc hm hr hl hcs kk
  · have e9 : (nI j).toInt = (j : Int) := nI_toInt (by omega)
    refine lv_tableOut (tgt := 1736) hx hb dL_law_39 (Or.inr (by rw [e9]; omega)) (by decide) ?_
    exact W.widen (k := cells + 1) (n := slots + 6) (by omega) (by omega) (kk I α H locs ls hc hm hr hl)
set_option maxHeartbeats 4000000 in
set_option maxRecDepth 100000 in
theorem law_loop (hfl : l.stackTraces = false) (C : lCtx g p s m meth c b) (hX : va_X b L xs s s.heap) (hbl : b < s.heap.size) (hbA : ¬ xA g b) (hL : L ≤ 2048) (hrt : meth.sig.returnType = ret) (hlk : meth.locks = false) (hz : g.2.2.2 = s.heap.size) : ∀ (n i : Nat) (I : xMem) (α : aS) (H : Heap) (locs : List Loc) (ls : Array Slot), i ≤ 2048 → L < i + 4 * n + 4 → cInv I α → mInv I α → xRep g s I H locs → lv_has ls 7 (lvC g b i) → W p l e room_1 s m #[Value.ref b] below meth c H locs (1000 + i) (100000 + 6 * i) (lw_Z below #[Value.ref b] s) (F0 m 23 ls []) := by
  have hx := C.1
  have hb := C.2.1
  intro n
  induction n with
  | zero =>
    intro i I α H locs ls hi2 hn hc hm hr hl
    refine lv_iload hx hb dL_law_23 (lv_at hl 4 rfl) ?_
    refine lv_aload_n hx hb dL_law_25 rfl (lv_at hl 0 rfl) ?_
    refine va_slen hx hb hX hbl hbA hr.2.2 dL_law_26 ?_
    refine lv_iconst (v := nI 4) hx hb dL_law_27 (by decide) ?_
    refine lv_isub hx hb dL_law_28 ?_
    refine lv_icmp_gt (tgt := 1742) hx hb dL_law_29 (by decide) (fun _ => ?_) (fun q => ?_)
    · refine lv_iconst (v := 1) hx hb dL_law_1742 (by decide) ?_
      refine va_forget (fun q hq => by have := hr.2.2.2.2 q hq; rw [← hz]; exact this) ?_
      refine W.widen (k := 601024) (n := 7293034) (by omega) (by omega) ?_
      exact lw_ret hx hb hrt hlk dL_law_1743
    · exfalso
      have e1 := pk_sub_toInt (a := L) (b := 4) (by omega) (by omega)
      have e2 := nI_toInt (n := i) (by omega)
      apply q
      show nI L - nI 4 < nI i
      rw [Int32.lt_iff_toInt_lt, e1, e2]
      omega
  | succ n ih =>
    intro i I α H locs ls hi2 hn hc hm hr hl
    refine lv_iload hx hb dL_law_23 (lv_at hl 4 rfl) ?_
    refine lv_aload_n hx hb dL_law_25 rfl (lv_at hl 0 rfl) ?_
    refine va_slen hx hb hX hbl hbA hr.2.2 dL_law_26 ?_
    refine lv_iconst (v := nI 4) hx hb dL_law_27 (by decide) ?_
    refine lv_isub hx hb dL_law_28 ?_
    refine lv_icmp_gt (tgt := 1742) hx hb dL_law_29 (by decide) (fun _ => ?_) (fun q => ?_)
    · refine lv_iconst (v := 1) hx hb dL_law_1742 (by decide) ?_
      refine va_forget (fun q hq => by have := hr.2.2.2.2 q hq; rw [← hz]; exact this) ?_
      refine W.widen (k := 601024) (n := 7293034) (by omega) (by omega) ?_
      exact lw_ret hx hb hrt hlk dL_law_1743
    · have hi : i + 4 ≤ L := by
        have e1 := pk_sub_toInt (a := L) (b := 4) (by omega) (by omega)
        have e2 := nI_toInt (n := i) (by omega)
        have q : ¬ nI L - nI 4 < nI i := q
        rw [Int32.lt_iff_toInt_lt, e1, e2] at q
        omega
      refine law_one hfl C hX hbl hbA hL hi hc hm hr hl (by omega) (fun I' β H1 locs1 ls' hc' hm' hr' hl' => ?_)
      refine lv_iinc (v := nI (i + 4)) (lv' := [(4, .int (nI (i + 4))), (0, .ref b), (1, .ref (g.2.1 0)), (2, .ref (g.2.1 189)), (3, .ref (g.2.1 201))]) hx hb dL_law_1736 hl' (k := 4) rfl (nI_add i 4) (by decide) rfl (fun ls hl => ?_)
      refine lv_goto (tgt := 23) hx hb dL_law_1739 (by decide) ?_
      refine W.widen (k := 1000 + (i + 4)) (n := 100000 + 6 * (i + 4)) (by omega) (by omega) ?_
      exact ih (i + 4) I' β H1 locs1 ls (by omega) (by omega) hc' hm' hr' (lv_sub hl [1, 2, 3, 4, 0] rfl)
end P66
