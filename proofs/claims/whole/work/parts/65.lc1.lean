section P65b
variable {p : Program} {l : Launch} {e : Env} {s : State} {m : MethodId} {below : List Frame} {meth : Method} {c : Code} {Q : State → Prop} {g : xG} {b L i : Nat} {xs : Nat → Int32}
set_option maxHeartbeats 4000000 in
set_option maxRecDepth 100000 in
theorem lw_c10 (hfl : l.stackTraces = false) (C : lCtx g p s m meth c b) (hX : va_X b L xs s s.heap) (hbl : b < s.heap.size) (hbA : ¬ xA g b) (hL : L ≤ 2048) (hi : i + 4 ≤ L) {I : xMem} {α : aS} (hc : cInv I α) (hm : mInv I α) {H : Heap} {locs : List Loc} (hr : xRep g s I H locs) {ls : Array Slot} (hl : lv_has ls 7 (lvC g b i)) {cells slots : Nat} (hcs : cells + 1 ≤ 601024 ∧ slots + 6 ≤ 7293034) (kk : lNext p l e s m b below meth c g i (cells + 1) (slots + 6) Q) : W p l e room_1 s m #[Value.ref b] below meth c H locs cells slots Q (F0 m 714 ls []) := by
  obtain ⟨k, v, β, I1, I3, hk, r1, r3, c3, m3, h0, hv⟩ := l_pack (op_add (α := α) (xs (i + 1))) hc hm
  have hk3 : k ≤ 3 := Nat.le_trans hk (by decide)
  have hx := C.1
  have hb := C.2.1
  refine lv_aload_n hx hb dL_law_714 rfl (lv_at hl 1 rfl) ?_
  refine l_arg (j := 1) (a0 := 0) (a4 := 4) C hX hbl hbA hr.2.2 hl rfl rfl (by omega) hL (by decide) dL_law_715 dL_law_716 dL_law_718 dL_law_719 dL_law_720 ?_
  refine lv_aload_n hx hb dL_law_721 rfl (lv_at hl 3 rfl) ?_
  refine lc_H C (h_add l hfl g (xs (i + 1)) I hk r1) dL_law_722 (n := 3) ⟨by decide, by decide, by decide +kernel⟩ wh720 wh721 wh0 wh722 ⟨Nat.le_of_ble_eq_true rfl, Nat.le_of_ble_eq_true rfl⟩ rfl rfl hl.1 hr hcs (fun H1 locs1 hr1 => ?_)
  refine lv_istore (lv' := lvK g b i k) hx hb dL_law_725 hl (by decide) rfl (fun ls hl => ?_)
  refine lv_aload_n hx hb dL_law_727 rfl (lv_at hl 3 rfl) ?_
  refine l_arg (j := 1) (a0 := 1) (a4 := 5) C hX hbl hbA hr1.2.2 hl rfl rfl (by omega) hL (by decide) dL_law_728 dL_law_729 dL_law_731 dL_law_732 dL_law_733 ?_
  refine lc_V C (m_X9_add l g) (st := [.int (xs (i + 1)), .ref 189]) (rest := []) (n := 1) (b' := 189) dL_law_734 (rfl : vwCl[9]? = some (RX9, TX9, 17)) (by omega) rfl ⟨by decide, by decide, by decide +kernel⟩ wh1236 wh1237 wh1238 wh10 wh1239 ⟨Nat.le_of_ble_eq_true rfl, Nat.le_of_ble_eq_true rfl⟩ rfl (by decide) (Nat.le_of_ble_eq_true rfl) r3 hl.1 hr1 hcs (fun H3 locs3 hr3 => ?_)
  exact l_tail C hl hr3 hcs hk3 h0 hv wh1070 wh1071 wh1072 wh10 wh1073 dL_law_737 dL_law_739 dL_law_740 dL_law_743 dL_law_745 dL_law_750 dL_law_752 dL_law_755 dL_law_756 dL_law_757 dL_law_758 dL_law_760 dL_law_761 dL_law_762 dL_law_767 (by decide) (fun H4 locs4 ls' hr4 hl4 => kk I3 β H4 locs4 ls' c3 m3 hr4 hl4)
set_option maxHeartbeats 4000000 in
set_option maxRecDepth 100000 in
theorem lw_c11 (hfl : l.stackTraces = false) (C : lCtx g p s m meth c b) (hX : va_X b L xs s s.heap) (hbl : b < s.heap.size) (hbA : ¬ xA g b) (hL : L ≤ 2048) (hi : i + 4 ≤ L) {I : xMem} {α : aS} (hc : cInv I α) (hm : mInv I α) {H : Heap} {locs : List Loc} (hr : xRep g s I H locs) {ls : Array Slot} (hl : lv_has ls 7 (lvC g b i)) {cells slots : Nat} (hcs : cells + 1 ≤ 601024 ∧ slots + 6 ≤ 7293034) (kk : lNext p l e s m b below meth c g i (cells + 1) (slots + 6) Q) : W p l e room_1 s m #[Value.ref b] below meth c H locs cells slots Q (F0 m 770 ls []) := by
  obtain ⟨k, v, β, I1, I3, hk, r1, r3, c3, m3, h0, hv⟩ := l_pack (op_put (α := α) (xs (i + 1)) (xs (i + 2))) hc hm
  have hk3 : k ≤ 3 := Nat.le_trans hk (by decide)
  have hx := C.1
  have hb := C.2.1
  refine lv_aload_n hx hb dL_law_770 rfl (lv_at hl 1 rfl) ?_
  refine l_arg (j := 1) (a0 := 0) (a4 := 4) C hX hbl hbA hr.2.2 hl rfl rfl (by omega) hL (by decide) dL_law_771 dL_law_772 dL_law_774 dL_law_775 dL_law_776 ?_
  refine l_arg (j := 2) (a0 := 0) (a4 := 4) C hX hbl hbA hr.2.2 hl rfl rfl (by omega) hL (by decide) dL_law_777 dL_law_778 dL_law_780 dL_law_781 dL_law_782 ?_
  refine lv_aload_n hx hb dL_law_783 rfl (lv_at hl 3 rfl) ?_
  refine lc_H C (h_put l hfl g (xs (i + 1)) (xs (i + 2)) I hk r1) dL_law_784 (n := 4) ⟨by decide, by decide, by decide +kernel⟩ wh752 wh753 wh0 wh754 ⟨Nat.le_of_ble_eq_true rfl, Nat.le_of_ble_eq_true rfl⟩ rfl rfl hl.1 hr hcs (fun H1 locs1 hr1 => ?_)
  refine lv_istore (lv' := lvK g b i k) hx hb dL_law_787 hl (by decide) rfl (fun ls hl => ?_)
  refine lv_aload_n hx hb dL_law_789 rfl (lv_at hl 3 rfl) ?_
  refine l_arg (j := 1) (a0 := 1) (a4 := 5) C hX hbl hbA hr1.2.2 hl rfl rfl (by omega) hL (by decide) dL_law_790 dL_law_791 dL_law_793 dL_law_794 dL_law_795 ?_
  refine l_arg (j := 2) (a0 := 1) (a4 := 5) C hX hbl hbA hr1.2.2 hl rfl rfl (by omega) hL (by decide) dL_law_796 dL_law_797 dL_law_799 dL_law_800 dL_law_801 ?_
  refine lc_V C (m_X9_put l g) (st := [.int (xs (i + 2)), .int (xs (i + 1)), .ref 189]) (rest := []) (n := 2) (b' := 189) dL_law_802 (rfl : vwCl[9]? = some (RX9, TX9, 17)) (by omega) rfl ⟨by decide, by decide, by decide +kernel⟩ wh1256 wh1257 wh1258 wh10 wh1259 ⟨Nat.le_of_ble_eq_true rfl, Nat.le_of_ble_eq_true rfl⟩ rfl (by decide) (Nat.le_of_ble_eq_true rfl) r3 hl.1 hr1 hcs (fun H3 locs3 hr3 => ?_)
  exact l_tail C hl hr3 hcs hk3 h0 hv wh1070 wh1071 wh1072 wh10 wh1073 dL_law_805 dL_law_807 dL_law_808 dL_law_811 dL_law_813 dL_law_818 dL_law_820 dL_law_823 dL_law_824 dL_law_825 dL_law_826 dL_law_828 dL_law_829 dL_law_830 dL_law_835 (by decide) (fun H4 locs4 ls' hr4 hl4 => kk I3 β H4 locs4 ls' c3 m3 hr4 hl4)
set_option maxHeartbeats 4000000 in
set_option maxRecDepth 100000 in
theorem lw_c12 (hfl : l.stackTraces = false) (C : lCtx g p s m meth c b) (hX : va_X b L xs s s.heap) (hbl : b < s.heap.size) (hbA : ¬ xA g b) (hL : L ≤ 2048) (hi : i + 4 ≤ L) {I : xMem} {α : aS} (hc : cInv I α) (hm : mInv I α) {H : Heap} {locs : List Loc} (hr : xRep g s I H locs) {ls : Array Slot} (hl : lv_has ls 7 (lvC g b i)) {cells slots : Nat} (hcs : cells + 1 ≤ 601024 ∧ slots + 6 ≤ 7293034) (kk : lNext p l e s m b below meth c g i (cells + 1) (slots + 6) Q) : W p l e room_1 s m #[Value.ref b] below meth c H locs cells slots Q (F0 m 838 ls []) := by
  obtain ⟨k, v, β, I1, I3, hk, r1, r3, c3, m3, h0, hv⟩ := l_pack (op_remove (α := α) (xs (i + 1))) hc hm
  have hk3 : k ≤ 3 := Nat.le_trans hk (by decide)
  have hx := C.1
  have hb := C.2.1
  refine lv_aload_n hx hb dL_law_838 rfl (lv_at hl 1 rfl) ?_
  refine l_arg (j := 1) (a0 := 0) (a4 := 4) C hX hbl hbA hr.2.2 hl rfl rfl (by omega) hL (by decide) dL_law_839 dL_law_840 dL_law_842 dL_law_843 dL_law_844 ?_
  refine lv_aload_n hx hb dL_law_845 rfl (lv_at hl 3 rfl) ?_
  refine lc_H C (h_remove l hfl g (xs (i + 1)) I hk r1) dL_law_846 (n := 3) ⟨by decide, by decide, by decide +kernel⟩ wh763 wh764 wh0 wh765 ⟨Nat.le_of_ble_eq_true rfl, Nat.le_of_ble_eq_true rfl⟩ rfl rfl hl.1 hr hcs (fun H1 locs1 hr1 => ?_)
  refine lv_istore (lv' := lvK g b i k) hx hb dL_law_849 hl (by decide) rfl (fun ls hl => ?_)
  refine lv_aload_n hx hb dL_law_851 rfl (lv_at hl 3 rfl) ?_
  refine l_arg (j := 1) (a0 := 1) (a4 := 5) C hX hbl hbA hr1.2.2 hl rfl rfl (by omega) hL (by decide) dL_law_852 dL_law_853 dL_law_855 dL_law_856 dL_law_857 ?_
  refine lc_V C (m_X9_remove l g) (st := [.int (xs (i + 1)), .ref 189]) (rest := []) (n := 1) (b' := 189) dL_law_858 (rfl : vwCl[9]? = some (RX9, TX9, 17)) (by omega) rfl ⟨by decide, by decide, by decide +kernel⟩ wh1260 wh1261 wh1262 wh10 wh1263 ⟨Nat.le_of_ble_eq_true rfl, Nat.le_of_ble_eq_true rfl⟩ rfl (by decide) (Nat.le_of_ble_eq_true rfl) r3 hl.1 hr1 hcs (fun H3 locs3 hr3 => ?_)
  exact l_tail C hl hr3 hcs hk3 h0 hv wh1070 wh1071 wh1072 wh10 wh1073 dL_law_861 dL_law_863 dL_law_864 dL_law_867 dL_law_869 dL_law_874 dL_law_876 dL_law_879 dL_law_880 dL_law_881 dL_law_882 dL_law_884 dL_law_885 dL_law_886 dL_law_891 (by decide) (fun H4 locs4 ls' hr4 hl4 => kk I3 β H4 locs4 ls' c3 m3 hr4 hl4)
set_option maxHeartbeats 4000000 in
set_option maxRecDepth 100000 in
theorem lw_c13 (hfl : l.stackTraces = false) (C : lCtx g p s m meth c b) (hX : va_X b L xs s s.heap) (hbl : b < s.heap.size) (hbA : ¬ xA g b) (hL : L ≤ 2048) (hi : i + 4 ≤ L) {I : xMem} {α : aS} (hc : cInv I α) (hm : mInv I α) {H : Heap} {locs : List Loc} (hr : xRep g s I H locs) {ls : Array Slot} (hl : lv_has ls 7 (lvC g b i)) {cells slots : Nat} (hcs : cells + 1 ≤ 601024 ∧ slots + 6 ≤ 7293034) (kk : lNext p l e s m b below meth c g i (cells + 1) (slots + 6) Q) : W p l e room_1 s m #[Value.ref b] below meth c H locs cells slots Q (F0 m 894 ls []) := by
  obtain ⟨k, v, β, I1, I3, hk, r1, r3, c3, m3, h0, hv⟩ := l_pack (op_cut (α := α) (xs (i + 1)) (xs (i + 2))) hc hm
  have hk3 : k ≤ 3 := Nat.le_trans hk (by decide)
  have hx := C.1
  have hb := C.2.1
  refine lv_aload_n hx hb dL_law_894 rfl (lv_at hl 1 rfl) ?_
  refine l_arg (j := 1) (a0 := 0) (a4 := 4) C hX hbl hbA hr.2.2 hl rfl rfl (by omega) hL (by decide) dL_law_895 dL_law_896 dL_law_898 dL_law_899 dL_law_900 ?_
  refine l_arg (j := 2) (a0 := 0) (a4 := 4) C hX hbl hbA hr.2.2 hl rfl rfl (by omega) hL (by decide) dL_law_901 dL_law_902 dL_law_904 dL_law_905 dL_law_906 ?_
  refine lv_aload_n hx hb dL_law_907 rfl (lv_at hl 3 rfl) ?_
  refine lc_H C (h_cut l hfl g (xs (i + 1)) (xs (i + 2)) I hk r1) dL_law_908 (n := 4) ⟨by decide, by decide, by decide +kernel⟩ wh778 wh779 wh0 wh780 ⟨Nat.le_of_ble_eq_true rfl, Nat.le_of_ble_eq_true rfl⟩ rfl rfl hl.1 hr hcs (fun H1 locs1 hr1 => ?_)
  refine lv_istore (lv' := lvK g b i k) hx hb dL_law_911 hl (by decide) rfl (fun ls hl => ?_)
  refine lv_aload_n hx hb dL_law_913 rfl (lv_at hl 3 rfl) ?_
  refine l_arg (j := 1) (a0 := 1) (a4 := 5) C hX hbl hbA hr1.2.2 hl rfl rfl (by omega) hL (by decide) dL_law_914 dL_law_915 dL_law_917 dL_law_918 dL_law_919 ?_
  refine l_arg (j := 2) (a0 := 1) (a4 := 5) C hX hbl hbA hr1.2.2 hl rfl rfl (by omega) hL (by decide) dL_law_920 dL_law_921 dL_law_923 dL_law_924 dL_law_925 ?_
  refine lc_V C (m_X9_cut l g) (st := [.int (xs (i + 2)), .int (xs (i + 1)), .ref 189]) (rest := []) (n := 2) (b' := 189) dL_law_926 (rfl : vwCl[9]? = some (RX9, TX9, 17)) (by omega) rfl ⟨by decide, by decide, by decide +kernel⟩ wh1273 wh1274 wh1275 wh10 wh1276 ⟨Nat.le_of_ble_eq_true rfl, Nat.le_of_ble_eq_true rfl⟩ rfl (by decide) (Nat.le_of_ble_eq_true rfl) r3 hl.1 hr1 hcs (fun H3 locs3 hr3 => ?_)
  exact l_tail C hl hr3 hcs hk3 h0 hv wh1070 wh1071 wh1072 wh10 wh1073 dL_law_929 dL_law_931 dL_law_932 dL_law_935 dL_law_937 dL_law_942 dL_law_944 dL_law_947 dL_law_948 dL_law_949 dL_law_950 dL_law_952 dL_law_953 dL_law_954 dL_law_959 (by decide) (fun H4 locs4 ls' hr4 hl4 => kk I3 β H4 locs4 ls' c3 m3 hr4 hl4)
set_option maxHeartbeats 4000000 in
set_option maxRecDepth 100000 in
theorem lw_c14 (hfl : l.stackTraces = false) (C : lCtx g p s m meth c b) (hX : va_X b L xs s s.heap) (hbl : b < s.heap.size) (hbA : ¬ xA g b) (hL : L ≤ 2048) (hi : i + 4 ≤ L) {I : xMem} {α : aS} (hc : cInv I α) (hm : mInv I α) {H : Heap} {locs : List Loc} (hr : xRep g s I H locs) {ls : Array Slot} (hl : lv_has ls 7 (lvC g b i)) {cells slots : Nat} (hcs : cells + 1 ≤ 601024 ∧ slots + 6 ≤ 7293034) (kk : lNext p l e s m b below meth c g i (cells + 1) (slots + 6) Q) : W p l e room_1 s m #[Value.ref b] below meth c H locs cells slots Q (F0 m 962 ls []) := by
  obtain ⟨k, v, β, I1, I3, hk, r1, r3, c3, m3, h0, hv⟩ := l_pack (op_merge (α := α) (xs (i + 1))) hc hm
  have hk3 : k ≤ 3 := Nat.le_trans hk (by decide)
  have hx := C.1
  have hb := C.2.1
  refine lv_aload_n hx hb dL_law_962 rfl (lv_at hl 1 rfl) ?_
  refine l_arg (j := 1) (a0 := 0) (a4 := 4) C hX hbl hbA hr.2.2 hl rfl rfl (by omega) hL (by decide) dL_law_963 dL_law_964 dL_law_966 dL_law_967 dL_law_968 ?_
  refine lv_aload_n hx hb dL_law_969 rfl (lv_at hl 3 rfl) ?_
  refine lc_H C (h_merge l hfl g (xs (i + 1)) I hk r1) dL_law_970 (n := 3) ⟨by decide, by decide, by decide +kernel⟩ wh796 wh797 wh0 wh798 ⟨Nat.le_of_ble_eq_true rfl, Nat.le_of_ble_eq_true rfl⟩ rfl rfl hl.1 hr hcs (fun H1 locs1 hr1 => ?_)
  refine lv_istore (lv' := lvK g b i k) hx hb dL_law_973 hl (by decide) rfl (fun ls hl => ?_)
  refine lv_aload_n hx hb dL_law_975 rfl (lv_at hl 3 rfl) ?_
  refine l_arg (j := 1) (a0 := 1) (a4 := 5) C hX hbl hbA hr1.2.2 hl rfl rfl (by omega) hL (by decide) dL_law_976 dL_law_977 dL_law_979 dL_law_980 dL_law_981 ?_
  refine lc_V C (m_X9_merge l g) (st := [.int (xs (i + 1)), .ref 189]) (rest := []) (n := 1) (b' := 189) dL_law_982 (rfl : vwCl[9]? = some (RX9, TX9, 17)) (by omega) rfl ⟨by decide, by decide, by decide +kernel⟩ wh1283 wh1284 wh1285 wh10 wh1286 ⟨Nat.le_of_ble_eq_true rfl, Nat.le_of_ble_eq_true rfl⟩ rfl (by decide) (Nat.le_of_ble_eq_true rfl) r3 hl.1 hr1 hcs (fun H3 locs3 hr3 => ?_)
  exact l_tail C hl hr3 hcs hk3 h0 hv wh1070 wh1071 wh1072 wh10 wh1073 dL_law_985 dL_law_987 dL_law_988 dL_law_991 dL_law_993 dL_law_998 dL_law_1000 dL_law_1003 dL_law_1004 dL_law_1005 dL_law_1006 dL_law_1008 dL_law_1009 dL_law_1010 dL_law_1015 (by decide) (fun H4 locs4 ls' hr4 hl4 => kk I3 β H4 locs4 ls' c3 m3 hr4 hl4)
set_option maxHeartbeats 4000000 in
set_option maxRecDepth 100000 in
theorem lw_c15 (hfl : l.stackTraces = false) (C : lCtx g p s m meth c b) (hX : va_X b L xs s s.heap) (hbl : b < s.heap.size) (hbA : ¬ xA g b) (hL : L ≤ 2048) (hi : i + 4 ≤ L) {I : xMem} {α : aS} (hc : cInv I α) (hm : mInv I α) {H : Heap} {locs : List Loc} (hr : xRep g s I H locs) {ls : Array Slot} (hl : lv_has ls 7 (lvC g b i)) {cells slots : Nat} (hcs : cells + 1 ≤ 601024 ∧ slots + 6 ≤ 7293034) (kk : lNext p l e s m b below meth c g i (cells + 1) (slots + 6) Q) : W p l e room_1 s m #[Value.ref b] below meth c H locs cells slots Q (F0 m 1018 ls []) := by
  obtain ⟨v, β, I1, I3, r1, r3, c3, m3⟩ := l_pack0 (op_compact (α := α)) hc hm
  have hx := C.1
  have hb := C.2.1
  refine W.widen (k := cells + 1) (n := slots + 6) (by omega) (by omega) ?_
  refine lv_aload_n hx hb dL_law_1018 rfl (lv_at hl 1 rfl) ?_
  refine lc_V C (m_X8_compact l g) (st := [.ref 0]) (rest := []) (n := 0) (b' := 0) dL_law_1019 (rfl : vwCl[8]? = some (RX8, TX8, 10)) (by omega) rfl ⟨by decide, by decide, by decide +kernel⟩ wh321 wh322 wh323 wh1 wh324 ⟨Nat.le_of_ble_eq_true rfl, Nat.le_of_ble_eq_true rfl⟩ rfl (by decide) (Nat.le_of_ble_eq_true rfl) r1 hl.1 hr hcs (fun H1 locs1 hr1 => ?_)
  refine lv_aload_n hx hb dL_law_1022 rfl (lv_at hl 2 rfl) ?_
  refine lc_V C (m_X9_compact l g) (st := [.ref 189, .int v]) (rest := [.int v]) (n := 0) (b' := 189) dL_law_1023 (rfl : vwCl[9]? = some (RX9, TX9, 17)) (by omega) rfl ⟨by decide, by decide, by decide +kernel⟩ wh1296 wh1297 wh1298 wh10 wh1299 ⟨Nat.le_of_ble_eq_true rfl, Nat.le_of_ble_eq_true rfl⟩ rfl (by decide) (Nat.le_of_ble_eq_true rfl) r3 hl.1 hr1 hcs (fun H3 locs3 hr3 => ?_)
  exact lv_icmp_eq (tgt := 1736) hx hb dL_law_1026 (by decide) (fun _ => kk I3 β H3 locs3 ls c3 m3 hr3 hl) (fun q => absurd rfl q)
set_option maxHeartbeats 4000000 in
set_option maxRecDepth 100000 in
theorem lw_c16 (hfl : l.stackTraces = false) (C : lCtx g p s m meth c b) (hX : va_X b L xs s s.heap) (hbl : b < s.heap.size) (hbA : ¬ xA g b) (hL : L ≤ 2048) (hi : i + 4 ≤ L) {I : xMem} {α : aS} (hc : cInv I α) (hm : mInv I α) {H : Heap} {locs : List Loc} (hr : xRep g s I H locs) {ls : Array Slot} (hl : lv_has ls 7 (lvC g b i)) {cells slots : Nat} (hcs : cells + 1 ≤ 601024 ∧ slots + 6 ≤ 7293034) (kk : lNext p l e s m b below meth c g i (cells + 1) (slots + 6) Q) : W p l e room_1 s m #[Value.ref b] below meth c H locs cells slots Q (F0 m 1031 ls []) := by
  obtain ⟨k, v, β, I1, I3, hk, r1, r3, c3, m3, h0, hv⟩ := l_pack (op_pin (α := α) (xs (i + 1)) (xs (i + 2))) hc hm
  have hk3 : k ≤ 3 := Nat.le_trans hk (by decide)
  have hx := C.1
  have hb := C.2.1
  refine lv_aload_n hx hb dL_law_1031 rfl (lv_at hl 1 rfl) ?_
  refine l_arg (j := 1) (a0 := 0) (a4 := 4) C hX hbl hbA hr.2.2 hl rfl rfl (by omega) hL (by decide) dL_law_1032 dL_law_1033 dL_law_1035 dL_law_1036 dL_law_1037 ?_
  refine l_arg (j := 2) (a0 := 0) (a4 := 4) C hX hbl hbA hr.2.2 hl rfl rfl (by omega) hL (by decide) dL_law_1038 dL_law_1039 dL_law_1041 dL_law_1042 dL_law_1043 ?_
  refine lv_aload_n hx hb dL_law_1044 rfl (lv_at hl 3 rfl) ?_
  refine lc_H C (h_pin l hfl g (xs (i + 1)) (xs (i + 2)) I hk r1) dL_law_1045 (n := 4) ⟨by decide, by decide, by decide +kernel⟩ wh808 wh809 wh0 wh810 ⟨Nat.le_of_ble_eq_true rfl, Nat.le_of_ble_eq_true rfl⟩ rfl rfl hl.1 hr hcs (fun H1 locs1 hr1 => ?_)
  refine lv_istore (lv' := lvK g b i k) hx hb dL_law_1048 hl (by decide) rfl (fun ls hl => ?_)
  refine lv_aload_n hx hb dL_law_1050 rfl (lv_at hl 3 rfl) ?_
  refine l_arg (j := 1) (a0 := 1) (a4 := 5) C hX hbl hbA hr1.2.2 hl rfl rfl (by omega) hL (by decide) dL_law_1051 dL_law_1052 dL_law_1054 dL_law_1055 dL_law_1056 ?_
  refine l_arg (j := 2) (a0 := 1) (a4 := 5) C hX hbl hbA hr1.2.2 hl rfl rfl (by omega) hL (by decide) dL_law_1057 dL_law_1058 dL_law_1060 dL_law_1061 dL_law_1062 ?_
  refine lc_V C (m_X9_pin l g) (st := [.int (xs (i + 2)), .int (xs (i + 1)), .ref 189]) (rest := []) (n := 2) (b' := 189) dL_law_1063 (rfl : vwCl[9]? = some (RX9, TX9, 17)) (by omega) rfl ⟨by decide, by decide, by decide +kernel⟩ wh1306 wh1307 wh1308 wh10 wh1309 ⟨Nat.le_of_ble_eq_true rfl, Nat.le_of_ble_eq_true rfl⟩ rfl (by decide) (Nat.le_of_ble_eq_true rfl) r3 hl.1 hr1 hcs (fun H3 locs3 hr3 => ?_)
  exact l_tail C hl hr3 hcs hk3 h0 hv wh1070 wh1071 wh1072 wh10 wh1073 dL_law_1066 dL_law_1068 dL_law_1069 dL_law_1072 dL_law_1074 dL_law_1079 dL_law_1081 dL_law_1084 dL_law_1085 dL_law_1086 dL_law_1087 dL_law_1089 dL_law_1090 dL_law_1091 dL_law_1096 (by decide) (fun H4 locs4 ls' hr4 hl4 => kk I3 β H4 locs4 ls' c3 m3 hr4 hl4)
set_option maxHeartbeats 4000000 in
set_option maxRecDepth 100000 in
theorem lw_c17 (hfl : l.stackTraces = false) (C : lCtx g p s m meth c b) (hX : va_X b L xs s s.heap) (hbl : b < s.heap.size) (hbA : ¬ xA g b) (hL : L ≤ 2048) (hi : i + 4 ≤ L) {I : xMem} {α : aS} (hc : cInv I α) (hm : mInv I α) {H : Heap} {locs : List Loc} (hr : xRep g s I H locs) {ls : Array Slot} (hl : lv_has ls 7 (lvC g b i)) {cells slots : Nat} (hcs : cells + 1 ≤ 601024 ∧ slots + 6 ≤ 7293034) (kk : lNext p l e s m b below meth c g i (cells + 1) (slots + 6) Q) : W p l e room_1 s m #[Value.ref b] below meth c H locs cells slots Q (F0 m 1099 ls []) := by
  obtain ⟨k, v, β, I1, I3, hk, r1, r3, c3, m3, h0, hv⟩ := l_pack (op_limit (α := α) (xs (i + 1))) hc hm
  have hk3 : k ≤ 3 := Nat.le_trans hk (by decide)
  have hx := C.1
  have hb := C.2.1
  refine lv_aload_n hx hb dL_law_1099 rfl (lv_at hl 1 rfl) ?_
  refine l_arg (j := 1) (a0 := 0) (a4 := 4) C hX hbl hbA hr.2.2 hl rfl rfl (by omega) hL (by decide) dL_law_1100 dL_law_1101 dL_law_1103 dL_law_1104 dL_law_1105 ?_
  refine lv_aload_n hx hb dL_law_1106 rfl (lv_at hl 3 rfl) ?_
  refine lc_H C (h_setLimit l hfl g (xs (i + 1)) I hk r1) dL_law_1107 (n := 3) ⟨by decide, by decide, by decide +kernel⟩ wh824 wh825 wh0 wh826 ⟨Nat.le_of_ble_eq_true rfl, Nat.le_of_ble_eq_true rfl⟩ rfl rfl hl.1 hr hcs (fun H1 locs1 hr1 => ?_)
  refine lv_istore (lv' := lvK g b i k) hx hb dL_law_1110 hl (by decide) rfl (fun ls hl => ?_)
  refine lv_aload_n hx hb dL_law_1112 rfl (lv_at hl 3 rfl) ?_
  refine l_arg (j := 1) (a0 := 1) (a4 := 5) C hX hbl hbA hr1.2.2 hl rfl rfl (by omega) hL (by decide) dL_law_1113 dL_law_1114 dL_law_1116 dL_law_1117 dL_law_1118 ?_
  refine lc_V C (m_X9_setLimit l g) (st := [.int (xs (i + 1)), .ref 189]) (rest := []) (n := 1) (b' := 189) dL_law_1119 (rfl : vwCl[9]? = some (RX9, TX9, 17)) (by omega) rfl ⟨by decide, by decide, by decide +kernel⟩ wh1310 wh1311 wh1312 wh10 wh1313 ⟨Nat.le_of_ble_eq_true rfl, Nat.le_of_ble_eq_true rfl⟩ rfl (by decide) (Nat.le_of_ble_eq_true rfl) r3 hl.1 hr1 hcs (fun H3 locs3 hr3 => ?_)
  exact l_tail C hl hr3 hcs hk3 h0 hv wh1070 wh1071 wh1072 wh10 wh1073 dL_law_1122 dL_law_1124 dL_law_1125 dL_law_1128 dL_law_1130 dL_law_1135 dL_law_1137 dL_law_1140 dL_law_1141 dL_law_1142 dL_law_1143 dL_law_1145 dL_law_1146 dL_law_1147 dL_law_1152 (by decide) (fun H4 locs4 ls' hr4 hl4 => kk I3 β H4 locs4 ls' c3 m3 hr4 hl4)
set_option maxHeartbeats 4000000 in
set_option maxRecDepth 100000 in
theorem lw_c18 (hfl : l.stackTraces = false) (C : lCtx g p s m meth c b) (hX : va_X b L xs s s.heap) (hbl : b < s.heap.size) (hbA : ¬ xA g b) (hL : L ≤ 2048) (hi : i + 4 ≤ L) {I : xMem} {α : aS} (hc : cInv I α) (hm : mInv I α) {H : Heap} {locs : List Loc} (hr : xRep g s I H locs) {ls : Array Slot} (hl : lv_has ls 7 (lvC g b i)) {cells slots : Nat} (hcs : cells + 1 ≤ 601024 ∧ slots + 6 ≤ 7293034) (kk : lNext p l e s m b below meth c g i (cells + 1) (slots + 6) Q) : W p l e room_1 s m #[Value.ref b] below meth c H locs cells slots Q (F0 m 1155 ls []) := by
  obtain ⟨k, v, β, I1, I3, hk, r1, r3, c3, m3, h0, hv⟩ := l_pack (op_take (α := α) ) hc hm
  have hk3 : k ≤ 3 := Nat.le_trans hk (by decide)
  have hx := C.1
  have hb := C.2.1
  refine lv_aload_n hx hb dL_law_1155 rfl (lv_at hl 1 rfl) ?_
  refine lv_aload_n hx hb dL_law_1156 rfl (lv_at hl 3 rfl) ?_
  refine lc_H C (h_take l hfl g  I hk r1) dL_law_1157 (n := 2) ⟨by decide, by decide, by decide +kernel⟩ wh832 wh833 wh0 wh834 ⟨Nat.le_of_ble_eq_true rfl, Nat.le_of_ble_eq_true rfl⟩ rfl rfl hl.1 hr hcs (fun H1 locs1 hr1 => ?_)
  refine lv_istore (lv' := lvK g b i k) hx hb dL_law_1160 hl (by decide) rfl (fun ls hl => ?_)
  refine lv_aload_n hx hb dL_law_1162 rfl (lv_at hl 3 rfl) ?_
  refine lc_V C (m_X9_take l g) (st := [.ref 189]) (rest := []) (n := 0) (b' := 189) dL_law_1163 (rfl : vwCl[9]? = some (RX9, TX9, 17)) (by omega) rfl ⟨by decide, by decide, by decide +kernel⟩ wh1315 wh1316 wh1317 wh10 wh1318 ⟨Nat.le_of_ble_eq_true rfl, Nat.le_of_ble_eq_true rfl⟩ rfl (by decide) (Nat.le_of_ble_eq_true rfl) r3 hl.1 hr1 hcs (fun H3 locs3 hr3 => ?_)
  exact l_tail C hl hr3 hcs hk3 h0 hv wh1070 wh1071 wh1072 wh10 wh1073 dL_law_1166 dL_law_1168 dL_law_1169 dL_law_1172 dL_law_1174 dL_law_1179 dL_law_1181 dL_law_1184 dL_law_1185 dL_law_1186 dL_law_1187 dL_law_1189 dL_law_1190 dL_law_1191 dL_law_1196 (by decide) (fun H4 locs4 ls' hr4 hl4 => kk I3 β H4 locs4 ls' c3 m3 hr4 hl4)
set_option maxHeartbeats 4000000 in
set_option maxRecDepth 100000 in
theorem lw_c19 (hfl : l.stackTraces = false) (C : lCtx g p s m meth c b) (hX : va_X b L xs s s.heap) (hbl : b < s.heap.size) (hbA : ¬ xA g b) (hL : L ≤ 2048) (hi : i + 4 ≤ L) {I : xMem} {α : aS} (hc : cInv I α) (hm : mInv I α) {H : Heap} {locs : List Loc} (hr : xRep g s I H locs) {ls : Array Slot} (hl : lv_has ls 7 (lvC g b i)) {cells slots : Nat} (hcs : cells + 1 ≤ 601024 ∧ slots + 6 ≤ 7293034) (kk : lNext p l e s m b below meth c g i (cells + 1) (slots + 6) Q) : W p l e room_1 s m #[Value.ref b] below meth c H locs cells slots Q (F0 m 1199 ls []) := by
  obtain ⟨k, v, β, I1, I3, hk, r1, r3, c3, m3, h0, hv⟩ := l_pack (op_undo (α := α) ) hc hm
  have hk3 : k ≤ 3 := Nat.le_trans hk (by decide)
  have hx := C.1
  have hb := C.2.1
  refine lv_aload_n hx hb dL_law_1199 rfl (lv_at hl 1 rfl) ?_
  refine lv_aload_n hx hb dL_law_1200 rfl (lv_at hl 3 rfl) ?_
  refine lc_H C (h_undo l hfl g  I hk r1) dL_law_1201 (n := 2) ⟨by decide, by decide, by decide +kernel⟩ wh848 wh849 wh0 wh850 ⟨Nat.le_of_ble_eq_true rfl, Nat.le_of_ble_eq_true rfl⟩ rfl rfl hl.1 hr hcs (fun H1 locs1 hr1 => ?_)
  refine lv_istore (lv' := lvK g b i k) hx hb dL_law_1204 hl (by decide) rfl (fun ls hl => ?_)
  refine lv_aload_n hx hb dL_law_1206 rfl (lv_at hl 3 rfl) ?_
  refine lc_V C (m_X9_undo l g) (st := [.ref 189]) (rest := []) (n := 0) (b' := 189) dL_law_1207 (rfl : vwCl[9]? = some (RX9, TX9, 17)) (by omega) rfl ⟨by decide, by decide, by decide +kernel⟩ wh1319 wh1320 wh1321 wh10 wh1322 ⟨Nat.le_of_ble_eq_true rfl, Nat.le_of_ble_eq_true rfl⟩ rfl (by decide) (Nat.le_of_ble_eq_true rfl) r3 hl.1 hr1 hcs (fun H3 locs3 hr3 => ?_)
  exact l_tail C hl hr3 hcs hk3 h0 hv wh1070 wh1071 wh1072 wh10 wh1073 dL_law_1210 dL_law_1212 dL_law_1213 dL_law_1216 dL_law_1218 dL_law_1223 dL_law_1225 dL_law_1228 dL_law_1229 dL_law_1230 dL_law_1231 dL_law_1233 dL_law_1234 dL_law_1235 dL_law_1240 (by decide) (fun H4 locs4 ls' hr4 hl4 => kk I3 β H4 locs4 ls' c3 m3 hr4 hl4)
end P65b
