section P65a
variable {p : Program} {l : Launch} {e : Env} {s : State} {m : MethodId} {below : List Frame} {meth : Method} {c : Code} {Q : State → Prop} {g : xG} {b L i : Nat} {xs : Nat → Int32}
set_option maxHeartbeats 4000000 in
set_option maxRecDepth 100000 in
theorem lw_c0 (hfl : l.stackTraces = false) (C : lCtx g p s m meth c b) (hX : va_X b L xs s s.heap) (hbl : b < s.heap.size) (hbA : ¬ xA g b) (hL : L ≤ 2048) (hi : i + 4 ≤ L) {I : xMem} {α : aS} (hc : cInv I α) (hm : mInv I α) {H : Heap} {locs : List Loc} (hr : xRep g s I H locs) {ls : Array Slot} (hl : lv_has ls 7 (lvC g b i)) {cells slots : Nat} (hcs : cells + 1 ≤ 601024 ∧ slots + 6 ≤ 7293034) (kk : lNext p l e s m b below meth c g i (cells + 1) (slots + 6) Q) : W p l e room_1 s m #[Value.ref b] below meth c H locs cells slots Q (F0 m 164 ls []) := by
  obtain ⟨k, v, β, I1, I3, hk, r1, r3, c3, m3, h0, hv⟩ := l_pack (op_append (α := α) (xs (i + 1))) hc hm
  have hk3 : k ≤ 3 := Nat.le_trans hk (by decide)
  have hx := C.1
  have hb := C.2.1
  refine lv_aload_n hx hb dL_law_164 rfl (lv_at hl 1 rfl) ?_
  refine l_arg (j := 1) (a0 := 0) (a4 := 4) C hX hbl hbA hr.2.2 hl rfl rfl (by omega) hL (by decide) dL_law_165 dL_law_166 dL_law_168 dL_law_169 dL_law_170 ?_
  refine lv_aload_n hx hb dL_law_171 rfl (lv_at hl 3 rfl) ?_
  refine lc_H C (h_append l hfl g (xs (i + 1)) I hk r1) dL_law_172 (n := 3) ⟨by decide, by decide, by decide +kernel⟩ wh446 wh447 wh0 wh448 ⟨Nat.le_of_ble_eq_true rfl, Nat.le_of_ble_eq_true rfl⟩ rfl rfl hl.1 hr hcs (fun H1 locs1 hr1 => ?_)
  refine lv_istore (lv' := lvK g b i k) hx hb dL_law_175 hl (by decide) rfl (fun ls hl => ?_)
  refine lv_aload_n hx hb dL_law_177 rfl (lv_at hl 3 rfl) ?_
  refine l_arg (j := 1) (a0 := 1) (a4 := 5) C hX hbl hbA hr1.2.2 hl rfl rfl (by omega) hL (by decide) dL_law_178 dL_law_179 dL_law_181 dL_law_182 dL_law_183 ?_
  refine lc_V C (m_X9_append l g) (st := [.int (xs (i + 1)), .ref 189]) (rest := []) (n := 1) (b' := 189) dL_law_184 (rfl : vwCl[9]? = some (RX9, TX9, 17)) (by omega) rfl ⟨by decide, by decide, by decide +kernel⟩ wh1074 wh1075 wh1076 wh10 wh1077 ⟨Nat.le_of_ble_eq_true rfl, Nat.le_of_ble_eq_true rfl⟩ rfl (by decide) (Nat.le_of_ble_eq_true rfl) r3 hl.1 hr1 hcs (fun H3 locs3 hr3 => ?_)
  exact l_tail C hl hr3 hcs hk3 h0 hv wh1070 wh1071 wh1072 wh10 wh1073 dL_law_187 dL_law_189 dL_law_190 dL_law_193 dL_law_195 dL_law_200 dL_law_202 dL_law_205 dL_law_206 dL_law_207 dL_law_208 dL_law_210 dL_law_211 dL_law_212 dL_law_217 (by decide) (fun H4 locs4 ls' hr4 hl4 => kk I3 β H4 locs4 ls' c3 m3 hr4 hl4)
set_option maxHeartbeats 4000000 in
set_option maxRecDepth 100000 in
theorem lw_c1 (hfl : l.stackTraces = false) (C : lCtx g p s m meth c b) (hX : va_X b L xs s s.heap) (hbl : b < s.heap.size) (hbA : ¬ xA g b) (hL : L ≤ 2048) (hi : i + 4 ≤ L) {I : xMem} {α : aS} (hc : cInv I α) (hm : mInv I α) {H : Heap} {locs : List Loc} (hr : xRep g s I H locs) {ls : Array Slot} (hl : lv_has ls 7 (lvC g b i)) {cells slots : Nat} (hcs : cells + 1 ≤ 601024 ∧ slots + 6 ≤ 7293034) (kk : lNext p l e s m b below meth c g i (cells + 1) (slots + 6) Q) : W p l e room_1 s m #[Value.ref b] below meth c H locs cells slots Q (F0 m 220 ls []) := by
  obtain ⟨v, β, I1, I3, r1, r3, c3, m3⟩ := l_pack0 (op_clear (α := α)) hc hm
  have hx := C.1
  have hb := C.2.1
  refine W.widen (k := cells + 1) (n := slots + 6) (by omega) (by omega) ?_
  refine lv_aload_n hx hb dL_law_220 rfl (lv_at hl 1 rfl) ?_
  refine lc_V C (m_X8_clearText l g) (st := [.ref 0]) (rest := []) (n := 0) (b' := 0) dL_law_221 (rfl : vwCl[8]? = some (RX8, TX8, 10)) (by omega) rfl ⟨by decide, by decide, by decide +kernel⟩ wh255 wh256 wh257 wh1 wh258 ⟨Nat.le_of_ble_eq_true rfl, Nat.le_of_ble_eq_true rfl⟩ rfl (by decide) (Nat.le_of_ble_eq_true rfl) r1 hl.1 hr hcs (fun H1 locs1 hr1 => ?_)
  refine lv_aload_n hx hb dL_law_224 rfl (lv_at hl 2 rfl) ?_
  refine lc_V C (m_X9_clearText l g) (st := [.ref 189, .int v]) (rest := [.int v]) (n := 0) (b' := 189) dL_law_225 (rfl : vwCl[9]? = some (RX9, TX9, 17)) (by omega) rfl ⟨by decide, by decide, by decide +kernel⟩ wh1086 wh1087 wh1088 wh10 wh1089 ⟨Nat.le_of_ble_eq_true rfl, Nat.le_of_ble_eq_true rfl⟩ rfl (by decide) (Nat.le_of_ble_eq_true rfl) r3 hl.1 hr1 hcs (fun H3 locs3 hr3 => ?_)
  exact lv_icmp_eq (tgt := 1736) hx hb dL_law_228 (by decide) (fun _ => kk I3 β H3 locs3 ls c3 m3 hr3 hl) (fun q => absurd rfl q)
set_option maxHeartbeats 4000000 in
set_option maxRecDepth 100000 in
theorem lw_c2 (hfl : l.stackTraces = false) (C : lCtx g p s m meth c b) (hX : va_X b L xs s s.heap) (hbl : b < s.heap.size) (hbA : ¬ xA g b) (hL : L ≤ 2048) (hi : i + 4 ≤ L) {I : xMem} {α : aS} (hc : cInv I α) (hm : mInv I α) {H : Heap} {locs : List Loc} (hr : xRep g s I H locs) {ls : Array Slot} (hl : lv_has ls 7 (lvC g b i)) {cells slots : Nat} (hcs : cells + 1 ≤ 601024 ∧ slots + 6 ≤ 7293034) (kk : lNext p l e s m b below meth c g i (cells + 1) (slots + 6) Q) : W p l e room_1 s m #[Value.ref b] below meth c H locs cells slots Q (F0 m 233 ls []) := by
  obtain ⟨v, β, I1, I3, r1, r3, c3, m3⟩ := l_pack0 (op_error (α := α)) hc hm
  have hx := C.1
  have hb := C.2.1
  refine W.widen (k := cells + 1) (n := slots + 6) (by omega) (by omega) ?_
  refine lv_aload_n hx hb dL_law_233 rfl (lv_at hl 1 rfl) ?_
  refine lc_V C (m_X8_errorPosition l g) (st := [.ref 0]) (rest := []) (n := 0) (b' := 0) dL_law_234 (rfl : vwCl[8]? = some (RX8, TX8, 10)) (by omega) rfl ⟨by decide, by decide, by decide +kernel⟩ wh263 wh264 wh265 wh1 wh266 ⟨Nat.le_of_ble_eq_true rfl, Nat.le_of_ble_eq_true rfl⟩ rfl (by decide) (Nat.le_of_ble_eq_true rfl) r1 hl.1 hr hcs (fun H1 locs1 hr1 => ?_)
  refine lv_aload_n hx hb dL_law_237 rfl (lv_at hl 2 rfl) ?_
  refine lc_V C (m_X9_errorPosition l g) (st := [.ref 189, .int v]) (rest := [.int v]) (n := 0) (b' := 189) dL_law_238 (rfl : vwCl[9]? = some (RX9, TX9, 17)) (by omega) rfl ⟨by decide, by decide, by decide +kernel⟩ wh1090 wh1091 wh1092 wh10 wh1093 ⟨Nat.le_of_ble_eq_true rfl, Nat.le_of_ble_eq_true rfl⟩ rfl (by decide) (Nat.le_of_ble_eq_true rfl) r3 hl.1 hr1 hcs (fun H3 locs3 hr3 => ?_)
  exact lv_icmp_eq (tgt := 1736) hx hb dL_law_241 (by decide) (fun _ => kk I3 β H3 locs3 ls c3 m3 hr3 hl) (fun q => absurd rfl q)
set_option maxHeartbeats 4000000 in
set_option maxRecDepth 100000 in
theorem lw_c3 (hfl : l.stackTraces = false) (C : lCtx g p s m meth c b) (hX : va_X b L xs s s.heap) (hbl : b < s.heap.size) (hbA : ¬ xA g b) (hL : L ≤ 2048) (hi : i + 4 ≤ L) {I : xMem} {α : aS} (hc : cInv I α) (hm : mInv I α) {H : Heap} {locs : List Loc} (hr : xRep g s I H locs) {ls : Array Slot} (hl : lv_has ls 7 (lvC g b i)) {cells slots : Nat} (hcs : cells + 1 ≤ 601024 ∧ slots + 6 ≤ 7293034) (kk : lNext p l e s m b below meth c g i (cells + 1) (slots + 6) Q) : W p l e room_1 s m #[Value.ref b] below meth c H locs cells slots Q (F0 m 246 ls []) := by
  obtain ⟨k, v, β, I1, I3, hk, r1, r3, c3, m3, h0, hv⟩ := l_pack (op_about (α := α) (xs (i + 1))) hc hm
  have hk3 : k ≤ 3 := Nat.le_trans hk (by decide)
  have hx := C.1
  have hb := C.2.1
  refine lv_aload_n hx hb dL_law_246 rfl (lv_at hl 1 rfl) ?_
  refine l_arg (j := 1) (a0 := 0) (a4 := 4) C hX hbl hbA hr.2.2 hl rfl rfl (by omega) hL (by decide) dL_law_247 dL_law_248 dL_law_250 dL_law_251 dL_law_252 ?_
  refine lv_aload_n hx hb dL_law_253 rfl (lv_at hl 3 rfl) ?_
  refine lc_H C (h_about l hfl g (xs (i + 1)) I hk r1) dL_law_254 (n := 3) ⟨by decide, by decide, by decide +kernel⟩ wh547 wh548 wh0 wh549 ⟨Nat.le_of_ble_eq_true rfl, Nat.le_of_ble_eq_true rfl⟩ rfl rfl hl.1 hr hcs (fun H1 locs1 hr1 => ?_)
  refine lv_istore (lv' := lvK g b i k) hx hb dL_law_257 hl (by decide) rfl (fun ls hl => ?_)
  refine lv_aload_n hx hb dL_law_259 rfl (lv_at hl 3 rfl) ?_
  refine l_arg (j := 1) (a0 := 1) (a4 := 5) C hX hbl hbA hr1.2.2 hl rfl rfl (by omega) hL (by decide) dL_law_260 dL_law_261 dL_law_263 dL_law_264 dL_law_265 ?_
  refine lc_V C (m_X9_about l g) (st := [.int (xs (i + 1)), .ref 189]) (rest := []) (n := 1) (b' := 189) dL_law_266 (rfl : vwCl[9]? = some (RX9, TX9, 17)) (by omega) rfl ⟨by decide, by decide, by decide +kernel⟩ wh1135 wh1136 wh1137 wh10 wh1138 ⟨Nat.le_of_ble_eq_true rfl, Nat.le_of_ble_eq_true rfl⟩ rfl (by decide) (Nat.le_of_ble_eq_true rfl) r3 hl.1 hr1 hcs (fun H3 locs3 hr3 => ?_)
  exact l_tail C hl hr3 hcs hk3 h0 hv wh1070 wh1071 wh1072 wh10 wh1073 dL_law_269 dL_law_271 dL_law_272 dL_law_275 dL_law_277 dL_law_282 dL_law_284 dL_law_287 dL_law_288 dL_law_289 dL_law_290 dL_law_292 dL_law_293 dL_law_294 dL_law_299 (by decide) (fun H4 locs4 ls' hr4 hl4 => kk I3 β H4 locs4 ls' c3 m3 hr4 hl4)
set_option maxHeartbeats 4000000 in
set_option maxRecDepth 100000 in
theorem lw_c4 (hfl : l.stackTraces = false) (C : lCtx g p s m meth c b) (hX : va_X b L xs s s.heap) (hbl : b < s.heap.size) (hbA : ¬ xA g b) (hL : L ≤ 2048) (hi : i + 4 ≤ L) {I : xMem} {α : aS} (hc : cInv I α) (hm : mInv I α) {H : Heap} {locs : List Loc} (hr : xRep g s I H locs) {ls : Array Slot} (hl : lv_has ls 7 (lvC g b i)) {cells slots : Nat} (hcs : cells + 1 ≤ 601024 ∧ slots + 6 ≤ 7293034) (kk : lNext p l e s m b below meth c g i (cells + 1) (slots + 6) Q) : W p l e room_1 s m #[Value.ref b] below meth c H locs cells slots Q (F0 m 302 ls []) := by
  obtain ⟨k, v, β, I1, I3, hk, r1, r3, c3, m3, h0, hv⟩ := l_pack (op_at (α := α) (xs (i + 1))) hc hm
  have hk3 : k ≤ 3 := Nat.le_trans hk (by decide)
  have hx := C.1
  have hb := C.2.1
  refine lv_aload_n hx hb dL_law_302 rfl (lv_at hl 1 rfl) ?_
  refine l_arg (j := 1) (a0 := 0) (a4 := 4) C hX hbl hbA hr.2.2 hl rfl rfl (by omega) hL (by decide) dL_law_303 dL_law_304 dL_law_306 dL_law_307 dL_law_308 ?_
  refine lv_aload_n hx hb dL_law_309 rfl (lv_at hl 3 rfl) ?_
  refine lc_H C (h_at l hfl g (xs (i + 1)) I hk r1) dL_law_310 (n := 3) ⟨by decide, by decide, by decide +kernel⟩ wh581 wh582 wh0 wh583 ⟨Nat.le_of_ble_eq_true rfl, Nat.le_of_ble_eq_true rfl⟩ rfl rfl hl.1 hr hcs (fun H1 locs1 hr1 => ?_)
  refine lv_istore (lv' := lvK g b i k) hx hb dL_law_313 hl (by decide) rfl (fun ls hl => ?_)
  refine lv_aload_n hx hb dL_law_315 rfl (lv_at hl 3 rfl) ?_
  refine l_arg (j := 1) (a0 := 1) (a4 := 5) C hX hbl hbA hr1.2.2 hl rfl rfl (by omega) hL (by decide) dL_law_316 dL_law_317 dL_law_319 dL_law_320 dL_law_321 ?_
  refine lc_V C (m_X9_at l g) (st := [.int (xs (i + 1)), .ref 189]) (rest := []) (n := 1) (b' := 189) dL_law_322 (rfl : vwCl[9]? = some (RX9, TX9, 17)) (by omega) rfl ⟨by decide, by decide, by decide +kernel⟩ wh1179 wh1180 wh1181 wh10 wh1182 ⟨Nat.le_of_ble_eq_true rfl, Nat.le_of_ble_eq_true rfl⟩ rfl (by decide) (Nat.le_of_ble_eq_true rfl) r3 hl.1 hr1 hcs (fun H3 locs3 hr3 => ?_)
  exact l_tail C hl hr3 hcs hk3 h0 hv wh1070 wh1071 wh1072 wh10 wh1073 dL_law_325 dL_law_327 dL_law_328 dL_law_331 dL_law_333 dL_law_338 dL_law_340 dL_law_343 dL_law_344 dL_law_345 dL_law_346 dL_law_348 dL_law_349 dL_law_350 dL_law_355 (by decide) (fun H4 locs4 ls' hr4 hl4 => kk I3 β H4 locs4 ls' c3 m3 hr4 hl4)
set_option maxHeartbeats 4000000 in
set_option maxRecDepth 100000 in
theorem lw_c5 (hfl : l.stackTraces = false) (C : lCtx g p s m meth c b) (hX : va_X b L xs s s.heap) (hbl : b < s.heap.size) (hbA : ¬ xA g b) (hL : L ≤ 2048) (hi : i + 4 ≤ L) {I : xMem} {α : aS} (hc : cInv I α) (hm : mInv I α) {H : Heap} {locs : List Loc} (hr : xRep g s I H locs) {ls : Array Slot} (hl : lv_has ls 7 (lvC g b i)) {cells slots : Nat} (hcs : cells + 1 ≤ 601024 ∧ slots + 6 ≤ 7293034) (kk : lNext p l e s m b below meth c g i (cells + 1) (slots + 6) Q) : W p l e room_1 s m #[Value.ref b] below meth c H locs cells slots Q (F0 m 358 ls []) := by
  obtain ⟨k, v, β, I1, I3, hk, r1, r3, c3, m3, h0, hv⟩ := l_pack (op_page (α := α) (xs (i + 1)) (xs (i + 2))) hc hm
  have hk3 : k ≤ 3 := Nat.le_trans hk (by decide)
  have hx := C.1
  have hb := C.2.1
  refine lv_aload_n hx hb dL_law_358 rfl (lv_at hl 1 rfl) ?_
  refine l_arg (j := 1) (a0 := 0) (a4 := 4) C hX hbl hbA hr.2.2 hl rfl rfl (by omega) hL (by decide) dL_law_359 dL_law_360 dL_law_362 dL_law_363 dL_law_364 ?_
  refine l_arg (j := 2) (a0 := 0) (a4 := 4) C hX hbl hbA hr.2.2 hl rfl rfl (by omega) hL (by decide) dL_law_365 dL_law_366 dL_law_368 dL_law_369 dL_law_370 ?_
  refine lv_aload_n hx hb dL_law_371 rfl (lv_at hl 3 rfl) ?_
  refine lc_H C (h_page l hfl g (xs (i + 1)) (xs (i + 2)) I hk r1) dL_law_372 (n := 4) ⟨by decide, by decide, by decide +kernel⟩ wh609 wh610 wh0 wh611 ⟨Nat.le_of_ble_eq_true rfl, Nat.le_of_ble_eq_true rfl⟩ rfl rfl hl.1 hr hcs (fun H1 locs1 hr1 => ?_)
  refine lv_istore (lv' := lvK g b i k) hx hb dL_law_375 hl (by decide) rfl (fun ls hl => ?_)
  refine lv_aload_n hx hb dL_law_377 rfl (lv_at hl 3 rfl) ?_
  refine l_arg (j := 1) (a0 := 1) (a4 := 5) C hX hbl hbA hr1.2.2 hl rfl rfl (by omega) hL (by decide) dL_law_378 dL_law_379 dL_law_381 dL_law_382 dL_law_383 ?_
  refine l_arg (j := 2) (a0 := 1) (a4 := 5) C hX hbl hbA hr1.2.2 hl rfl rfl (by omega) hL (by decide) dL_law_384 dL_law_385 dL_law_387 dL_law_388 dL_law_389 ?_
  refine lc_V C (m_X9_page l g) (st := [.int (xs (i + 2)), .int (xs (i + 1)), .ref 189]) (rest := []) (n := 2) (b' := 189) dL_law_390 (rfl : vwCl[9]? = some (RX9, TX9, 17)) (by omega) rfl ⟨by decide, by decide, by decide +kernel⟩ wh1186 wh1187 wh1188 wh10 wh1189 ⟨Nat.le_of_ble_eq_true rfl, Nat.le_of_ble_eq_true rfl⟩ rfl (by decide) (Nat.le_of_ble_eq_true rfl) r3 hl.1 hr1 hcs (fun H3 locs3 hr3 => ?_)
  exact l_tail C hl hr3 hcs hk3 h0 hv wh1070 wh1071 wh1072 wh10 wh1073 dL_law_393 dL_law_395 dL_law_396 dL_law_399 dL_law_401 dL_law_406 dL_law_408 dL_law_411 dL_law_412 dL_law_413 dL_law_414 dL_law_416 dL_law_417 dL_law_418 dL_law_423 (by decide) (fun H4 locs4 ls' hr4 hl4 => kk I3 β H4 locs4 ls' c3 m3 hr4 hl4)
set_option maxHeartbeats 4000000 in
set_option maxRecDepth 100000 in
theorem lw_c6 (hfl : l.stackTraces = false) (C : lCtx g p s m meth c b) (hX : va_X b L xs s s.heap) (hbl : b < s.heap.size) (hbA : ¬ xA g b) (hL : L ≤ 2048) (hi : i + 4 ≤ L) {I : xMem} {α : aS} (hc : cInv I α) (hm : mInv I α) {H : Heap} {locs : List Loc} (hr : xRep g s I H locs) {ls : Array Slot} (hl : lv_has ls 7 (lvC g b i)) {cells slots : Nat} (hcs : cells + 1 ≤ 601024 ∧ slots + 6 ≤ 7293034) (kk : lNext p l e s m b below meth c g i (cells + 1) (slots + 6) Q) : W p l e room_1 s m #[Value.ref b] below meth c H locs cells slots Q (F0 m 426 ls []) := by
  obtain ⟨k, v, β, I1, I3, hk, r1, r3, c3, m3, h0, hv⟩ := l_pack (op_bit (α := α) (xs (i + 1)) (xs (i + 2))) hc hm
  have hk3 : k ≤ 3 := Nat.le_trans hk (by decide)
  have hx := C.1
  have hb := C.2.1
  refine lv_aload_n hx hb dL_law_426 rfl (lv_at hl 1 rfl) ?_
  refine l_arg (j := 1) (a0 := 0) (a4 := 4) C hX hbl hbA hr.2.2 hl rfl rfl (by omega) hL (by decide) dL_law_427 dL_law_428 dL_law_430 dL_law_431 dL_law_432 ?_
  refine l_arg (j := 2) (a0 := 0) (a4 := 4) C hX hbl hbA hr.2.2 hl rfl rfl (by omega) hL (by decide) dL_law_433 dL_law_434 dL_law_436 dL_law_437 dL_law_438 ?_
  refine lv_aload_n hx hb dL_law_439 rfl (lv_at hl 3 rfl) ?_
  refine lc_H C (h_bit l hfl g (xs (i + 1)) (xs (i + 2)) I hk r1) dL_law_440 (n := 4) ⟨by decide, by decide, by decide +kernel⟩ wh628 wh629 wh0 wh630 ⟨Nat.le_of_ble_eq_true rfl, Nat.le_of_ble_eq_true rfl⟩ rfl rfl hl.1 hr hcs (fun H1 locs1 hr1 => ?_)
  refine lv_istore (lv' := lvK g b i k) hx hb dL_law_443 hl (by decide) rfl (fun ls hl => ?_)
  refine lv_aload_n hx hb dL_law_445 rfl (lv_at hl 3 rfl) ?_
  refine l_arg (j := 1) (a0 := 1) (a4 := 5) C hX hbl hbA hr1.2.2 hl rfl rfl (by omega) hL (by decide) dL_law_446 dL_law_447 dL_law_449 dL_law_450 dL_law_451 ?_
  refine l_arg (j := 2) (a0 := 1) (a4 := 5) C hX hbl hbA hr1.2.2 hl rfl rfl (by omega) hL (by decide) dL_law_452 dL_law_453 dL_law_455 dL_law_456 dL_law_457 ?_
  refine lc_V C (m_X9_bit l g) (st := [.int (xs (i + 2)), .int (xs (i + 1)), .ref 189]) (rest := []) (n := 2) (b' := 189) dL_law_458 (rfl : vwCl[9]? = some (RX9, TX9, 17)) (by omega) rfl ⟨by decide, by decide, by decide +kernel⟩ wh1196 wh1197 wh1198 wh10 wh1199 ⟨Nat.le_of_ble_eq_true rfl, Nat.le_of_ble_eq_true rfl⟩ rfl (by decide) (Nat.le_of_ble_eq_true rfl) r3 hl.1 hr1 hcs (fun H3 locs3 hr3 => ?_)
  exact l_tail C hl hr3 hcs hk3 h0 hv wh1070 wh1071 wh1072 wh10 wh1073 dL_law_461 dL_law_463 dL_law_464 dL_law_467 dL_law_469 dL_law_474 dL_law_476 dL_law_479 dL_law_480 dL_law_481 dL_law_482 dL_law_484 dL_law_485 dL_law_486 dL_law_491 (by decide) (fun H4 locs4 ls' hr4 hl4 => kk I3 β H4 locs4 ls' c3 m3 hr4 hl4)
set_option maxHeartbeats 4000000 in
set_option maxRecDepth 100000 in
theorem lw_c7 (hfl : l.stackTraces = false) (C : lCtx g p s m meth c b) (hX : va_X b L xs s s.heap) (hbl : b < s.heap.size) (hbA : ¬ xA g b) (hL : L ≤ 2048) (hi : i + 4 ≤ L) {I : xMem} {α : aS} (hc : cInv I α) (hm : mInv I α) {H : Heap} {locs : List Loc} (hr : xRep g s I H locs) {ls : Array Slot} (hl : lv_has ls 7 (lvC g b i)) {cells slots : Nat} (hcs : cells + 1 ≤ 601024 ∧ slots + 6 ≤ 7293034) (kk : lNext p l e s m b below meth c g i (cells + 1) (slots + 6) Q) : W p l e room_1 s m #[Value.ref b] below meth c H locs cells slots Q (F0 m 494 ls []) := by
  obtain ⟨k, v, β, I1, I3, hk, r1, r3, c3, m3, h0, hv⟩ := l_pack (op_size (α := α) (xs (i + 1)) (xs (i + 2))) hc hm
  have hk3 : k ≤ 3 := Nat.le_trans hk (by decide)
  have hx := C.1
  have hb := C.2.1
  refine lv_aload_n hx hb dL_law_494 rfl (lv_at hl 1 rfl) ?_
  refine l_arg (j := 1) (a0 := 0) (a4 := 4) C hX hbl hbA hr.2.2 hl rfl rfl (by omega) hL (by decide) dL_law_495 dL_law_496 dL_law_498 dL_law_499 dL_law_500 ?_
  refine l_arg (j := 2) (a0 := 0) (a4 := 4) C hX hbl hbA hr.2.2 hl rfl rfl (by omega) hL (by decide) dL_law_501 dL_law_502 dL_law_504 dL_law_505 dL_law_506 ?_
  refine lv_aload_n hx hb dL_law_507 rfl (lv_at hl 3 rfl) ?_
  refine lc_H C (h_size l hfl g (xs (i + 1)) (xs (i + 2)) I hk r1) dL_law_508 (n := 4) ⟨by decide, by decide, by decide +kernel⟩ wh675 wh676 wh0 wh677 ⟨Nat.le_of_ble_eq_true rfl, Nat.le_of_ble_eq_true rfl⟩ rfl rfl hl.1 hr hcs (fun H1 locs1 hr1 => ?_)
  refine lv_istore (lv' := lvK g b i k) hx hb dL_law_511 hl (by decide) rfl (fun ls hl => ?_)
  refine lv_aload_n hx hb dL_law_513 rfl (lv_at hl 3 rfl) ?_
  refine l_arg (j := 1) (a0 := 1) (a4 := 5) C hX hbl hbA hr1.2.2 hl rfl rfl (by omega) hL (by decide) dL_law_514 dL_law_515 dL_law_517 dL_law_518 dL_law_519 ?_
  refine l_arg (j := 2) (a0 := 1) (a4 := 5) C hX hbl hbA hr1.2.2 hl rfl rfl (by omega) hL (by decide) dL_law_520 dL_law_521 dL_law_523 dL_law_524 dL_law_525 ?_
  refine lc_V C (m_X9_size l g) (st := [.int (xs (i + 2)), .int (xs (i + 1)), .ref 189]) (rest := []) (n := 2) (b' := 189) dL_law_526 (rfl : vwCl[9]? = some (RX9, TX9, 17)) (by omega) rfl ⟨by decide, by decide, by decide +kernel⟩ wh1219 wh1220 wh1221 wh10 wh1222 ⟨Nat.le_of_ble_eq_true rfl, Nat.le_of_ble_eq_true rfl⟩ rfl (by decide) (Nat.le_of_ble_eq_true rfl) r3 hl.1 hr1 hcs (fun H3 locs3 hr3 => ?_)
  exact l_tail C hl hr3 hcs hk3 h0 hv wh1070 wh1071 wh1072 wh10 wh1073 dL_law_529 dL_law_531 dL_law_532 dL_law_535 dL_law_537 dL_law_542 dL_law_544 dL_law_547 dL_law_548 dL_law_549 dL_law_550 dL_law_552 dL_law_553 dL_law_554 dL_law_559 (by decide) (fun H4 locs4 ls' hr4 hl4 => kk I3 β H4 locs4 ls' c3 m3 hr4 hl4)
set_option maxHeartbeats 4000000 in
set_option maxRecDepth 100000 in
theorem lw_c8 (hfl : l.stackTraces = false) (C : lCtx g p s m meth c b) (hX : va_X b L xs s s.heap) (hbl : b < s.heap.size) (hbA : ¬ xA g b) (hL : L ≤ 2048) (hi : i + 4 ≤ L) {I : xMem} {α : aS} (hc : cInv I α) (hm : mInv I α) {H : Heap} {locs : List Loc} (hr : xRep g s I H locs) {ls : Array Slot} (hl : lv_has ls 7 (lvC g b i)) {cells slots : Nat} (hcs : cells + 1 ≤ 601024 ∧ slots + 6 ≤ 7293034) (kk : lNext p l e s m b below meth c g i (cells + 1) (slots + 6) Q) : W p l e room_1 s m #[Value.ref b] below meth c H locs cells slots Q (F0 m 562 ls []) := by
  obtain ⟨k, v, β, I1, I3, hk, r1, r3, c3, m3, h0, hv⟩ := l_pack (op_scan (α := α) (xs (i + 1)) (!decide (xs (i + 2) = 0))) hc hm
  have hk3 : k ≤ 3 := Nat.le_trans hk (by decide)
  have hx := C.1
  have hb := C.2.1
  refine lv_aload_n hx hb dL_law_562 rfl (lv_at hl 1 rfl) ?_
  refine l_arg (j := 1) (a0 := 0) (a4 := 4) C hX hbl hbA hr.2.2 hl rfl rfl (by omega) hL (by decide) dL_law_563 dL_law_564 dL_law_566 dL_law_567 dL_law_568 ?_
  refine l_arg (j := 2) (a0 := 0) (a4 := 4) C hX hbl hbA hr.2.2 hl rfl rfl (by omega) hL (by decide) dL_law_569 dL_law_570 dL_law_572 dL_law_573 dL_law_574 ?_
  refine l_bool C dL_law_575 dL_law_578 dL_law_579 dL_law_582 ?_
  refine lv_aload_n hx hb dL_law_583 rfl (lv_at hl 3 rfl) ?_
  refine lc_H C (h_scan l hfl g (xs (i + 1)) (bI (!decide (xs (i + 2) = 0))) I hk r1) dL_law_584 (n := 4) ⟨by decide, by decide, by decide +kernel⟩ wh687 wh688 wh0 wh689 ⟨Nat.le_of_ble_eq_true rfl, Nat.le_of_ble_eq_true rfl⟩ rfl rfl hl.1 hr hcs (fun H1 locs1 hr1 => ?_)
  refine lv_istore (lv' := lvK g b i k) hx hb dL_law_587 hl (by decide) rfl (fun ls hl => ?_)
  refine lv_aload_n hx hb dL_law_589 rfl (lv_at hl 3 rfl) ?_
  refine l_arg (j := 1) (a0 := 1) (a4 := 5) C hX hbl hbA hr1.2.2 hl rfl rfl (by omega) hL (by decide) dL_law_590 dL_law_591 dL_law_593 dL_law_594 dL_law_595 ?_
  refine l_arg (j := 2) (a0 := 1) (a4 := 5) C hX hbl hbA hr1.2.2 hl rfl rfl (by omega) hL (by decide) dL_law_596 dL_law_597 dL_law_599 dL_law_600 dL_law_601 ?_
  refine l_bool C dL_law_602 dL_law_605 dL_law_606 dL_law_609 ?_
  refine lc_V C (m_X9_scan l g) (st := [.int (bI (!decide (xs (i + 2) = 0))), .int (xs (i + 1)), .ref 189]) (rest := []) (n := 2) (b' := 189) dL_law_610 (rfl : vwCl[9]? = some (RX9, TX9, 17)) (by omega) rfl ⟨by decide, by decide, by decide +kernel⟩ wh1224 wh1225 wh1226 wh10 wh1227 ⟨Nat.le_of_ble_eq_true rfl, Nat.le_of_ble_eq_true rfl⟩ rfl (by decide) (Nat.le_of_ble_eq_true rfl) r3 hl.1 hr1 hcs (fun H3 locs3 hr3 => ?_)
  exact l_tail C hl hr3 hcs hk3 h0 hv wh1070 wh1071 wh1072 wh10 wh1073 dL_law_613 dL_law_615 dL_law_616 dL_law_619 dL_law_621 dL_law_626 dL_law_628 dL_law_631 dL_law_632 dL_law_633 dL_law_634 dL_law_636 dL_law_637 dL_law_638 dL_law_643 (by decide) (fun H4 locs4 ls' hr4 hl4 => kk I3 β H4 locs4 ls' c3 m3 hr4 hl4)
set_option maxHeartbeats 4000000 in
set_option maxRecDepth 100000 in
theorem lw_c9 (hfl : l.stackTraces = false) (C : lCtx g p s m meth c b) (hX : va_X b L xs s s.heap) (hbl : b < s.heap.size) (hbA : ¬ xA g b) (hL : L ≤ 2048) (hi : i + 4 ≤ L) {I : xMem} {α : aS} (hc : cInv I α) (hm : mInv I α) {H : Heap} {locs : List Loc} (hr : xRep g s I H locs) {ls : Array Slot} (hl : lv_has ls 7 (lvC g b i)) {cells slots : Nat} (hcs : cells + 1 ≤ 601024 ∧ slots + 6 ≤ 7293034) (kk : lNext p l e s m b below meth c g i (cells + 1) (slots + 6) Q) : W p l e room_1 s m #[Value.ref b] below meth c H locs cells slots Q (F0 m 646 ls []) := by
  obtain ⟨k, v, β, I1, I3, hk, r1, r3, c3, m3, h0, hv⟩ := l_pack (op_sum (α := α) (xs (i + 1)) (xs (i + 2))) hc hm
  have hk3 : k ≤ 3 := Nat.le_trans hk (by decide)
  have hx := C.1
  have hb := C.2.1
  refine lv_aload_n hx hb dL_law_646 rfl (lv_at hl 1 rfl) ?_
  refine l_arg (j := 1) (a0 := 0) (a4 := 4) C hX hbl hbA hr.2.2 hl rfl rfl (by omega) hL (by decide) dL_law_647 dL_law_648 dL_law_650 dL_law_651 dL_law_652 ?_
  refine l_arg (j := 2) (a0 := 0) (a4 := 4) C hX hbl hbA hr.2.2 hl rfl rfl (by omega) hL (by decide) dL_law_653 dL_law_654 dL_law_656 dL_law_657 dL_law_658 ?_
  refine lv_aload_n hx hb dL_law_659 rfl (lv_at hl 3 rfl) ?_
  refine lc_H C (h_sum l hfl g (xs (i + 1)) (xs (i + 2)) I hk r1) dL_law_660 (n := 4) ⟨by decide, by decide, by decide +kernel⟩ wh713 wh714 wh0 wh715 ⟨Nat.le_of_ble_eq_true rfl, Nat.le_of_ble_eq_true rfl⟩ rfl rfl hl.1 hr hcs (fun H1 locs1 hr1 => ?_)
  refine lv_istore (lv' := lvK g b i k) hx hb dL_law_663 hl (by decide) rfl (fun ls hl => ?_)
  refine lv_aload_n hx hb dL_law_665 rfl (lv_at hl 3 rfl) ?_
  refine l_arg (j := 1) (a0 := 1) (a4 := 5) C hX hbl hbA hr1.2.2 hl rfl rfl (by omega) hL (by decide) dL_law_666 dL_law_667 dL_law_669 dL_law_670 dL_law_671 ?_
  refine l_arg (j := 2) (a0 := 1) (a4 := 5) C hX hbl hbA hr1.2.2 hl rfl rfl (by omega) hL (by decide) dL_law_672 dL_law_673 dL_law_675 dL_law_676 dL_law_677 ?_
  refine lc_V C (m_X9_sum l g) (st := [.int (xs (i + 2)), .int (xs (i + 1)), .ref 189]) (rest := []) (n := 2) (b' := 189) dL_law_678 (rfl : vwCl[9]? = some (RX9, TX9, 17)) (by omega) rfl ⟨by decide, by decide, by decide +kernel⟩ wh1232 wh1233 wh1234 wh10 wh1235 ⟨Nat.le_of_ble_eq_true rfl, Nat.le_of_ble_eq_true rfl⟩ rfl (by decide) (Nat.le_of_ble_eq_true rfl) r3 hl.1 hr1 hcs (fun H3 locs3 hr3 => ?_)
  exact l_tail C hl hr3 hcs hk3 h0 hv wh1070 wh1071 wh1072 wh10 wh1073 dL_law_681 dL_law_683 dL_law_684 dL_law_687 dL_law_689 dL_law_694 dL_law_696 dL_law_699 dL_law_700 dL_law_701 dL_law_702 dL_law_704 dL_law_705 dL_law_706 dL_law_711 (by decide) (fun H4 locs4 ls' hr4 hl4 => kk I3 β H4 locs4 ls' c3 m3 hr4 hl4)
end P65a
