set_option maxHeartbeats 4000000 in
set_option maxRecDepth 100000 in
theorem law_c0 {p : Program} {e : Env} {s : State} {m : MethodId} {below : List Frame} {meth : Method} {c : Code} (l : Launch) {b L : Nat} {xs : Nat → Int32} (C0 : lw_At p s m meth c b L xs) {D : va_G} {cy : Nat → ClassId} {adC adR : Nat → Nat} (hK : va_K D vwCl (tysK cy) s) (hN : NW s) (hCA : CA2 s) {x3 : Int32} (hin : ∀ j : Nat, j < 6 → vp_in (x3 + nI j) L) {cells slots : Nat} (hcl : cells + 7 ≤ room_1.cells) (hsl : slots + 21 ≤ room_1.slots) {a : AS} {σC σR : S_} {H : Heap} {locs : List Loc} {ls : Array Slot} (hRC : RC a σC) (hRR : RR a σR) (hW : WI D cy adC adR s σC σR H) (hS : va_S (A0s s) s.heap H locs) (hl : lv_has ls 4 [(3, .int x3), (0, .ref b), (1, .ref (adC 0)), (2, .ref (adR 0))]) (kk : ∀ (a : AS) (σC σR : S_) (H : Heap) (locs : List Loc), RC a σC → RR a σR → WI D cy adC adR s σC σR H → va_S (A0s s) s.heap H locs → W p l e room_1 s m #[Value.ref b] below meth c H locs (cells + 7) (slots + 21) (lw_Z below #[Value.ref b] s) (F0 m 1427 ls [])) : W p l e room_1 s m #[Value.ref b] below meth c H locs cells slots (lw_Z below #[Value.ref b] s) (F0 m 196 ls []) := by
  obtain ⟨hx, hb, hr, hml, hown, hts, hX, hbl, hlocks, hgv⟩ := C0
  have htsL : ∀ w ∈ wsL_law, w.before #[Value.ref b] s = true := fun w h => hts w (wsL_law_in w h)
  have hbA : ¬ A0s s b := Nat.not_le.mpr hbl
  refine lv_aload_n hx hb dL_law_196 rfl (lv_at hl 2 rfl) ?_
  refine lv_aload_n hx hb dL_law_197 rfl (lv_at hl 1 rfl) ?_
  refine lv_iload_n hx hb dL_law_198 rfl (lv_at hl 0 rfl) ?_
  refine lv_iconst (v := 1) hx hb dL_law_199 (by decide) ?_
  refine lv_iadd hx hb dL_law_200 ?_
  refine va_sld hx hb hX hbl hbA hS (hin 1 (by decide)) dL_law_201 ?_
  refine lv_aload_n hx hb dL_law_202 rfl (lv_at hl 1 rfl) ?_
  refine lv_iload_n hx hb dL_law_203 rfl (lv_at hl 0 rfl) ?_
  refine lv_iconst (v := 2) hx hb dL_law_204 (by decide) ?_
  refine lv_iadd hx hb dL_law_205 ?_
  refine va_sld hx hb hX hbl hbA hS (hin 2 (by decide)) dL_law_206 ?_
  refine lv_aload_n hx hb dL_law_207 rfl (lv_at hl 1 rfl) ?_
  refine lv_iload_n hx hb dL_law_208 rfl (lv_at hl 0 rfl) ?_
  refine lv_iconst (v := 3) hx hb dL_law_209 (by decide) ?_
  refine lv_iadd hx hb dL_law_210 ?_
  refine va_sld hx hb hX hbl hbA hS (hin 3 (by decide)) dL_law_211 ?_
  refine lv_aload_n hx hb dL_law_212 rfl (lv_at hl 1 rfl) ?_
  refine lv_iload_n hx hb dL_law_213 rfl (lv_at hl 0 rfl) ?_
  refine lv_iconst (v := 4) hx hb dL_law_214 (by decide) ?_
  refine lv_iadd hx hb dL_law_215 ?_
  refine va_sld hx hb hX hbl hbA hS (hin 4 (by decide)) dL_law_216 ?_
  refine kC_i (va_runV (As := [.int (xs (Int32.toNatClampNeg (x3 + 1))), .int (xs (Int32.toNatClampNeg (x3 + 2))), .int (xs (Int32.toNatClampNeg (x3 + 3))), .int (xs (Int32.toNatClampNeg (x3 + 4)))]) (rest := []) ⟨hx, hb, hml, hown, htsL⟩ (ct_X8_steppe l D cy adC (va_A (wC cy adC σC) H.size) (xs (Int32.toNatClampNeg (x3 + 1))) (xs (Int32.toNatClampNeg (x3 + 2))) (xs (Int32.toNatClampNeg (x3 + 3))) (xs (Int32.toNatClampNeg (x3 + 4))) a σC hRC) (cwV 4 htsL gL_law_X8_steppe rfl rfl rfl (by decide +kernel) ⟨Nat.le_of_ble_eq_true rfl, Nat.le_of_ble_eq_true rfl⟩) ⟨(fun a U g mk q => ⟨q.1, WdS.blind q.2⟩), va_recv hK hW.1 (ci := 8) (q0 := 0) rfl (wC_0 cy adC σC), (fun U hU hWm => ⟨rfl, WdS.pre hW.1 hK hW.2.2.1.self hN hCA (fun q hq => Or.inr hq) hU hWm⟩)⟩ rfl rfl hl.1 rfl (lv_room (Nat.le_of_ble_eq_true rfl)) dL_law_217 ⟨by omega, by omega⟩) hS hW (fun r8 u8 H locs h8 hW hS => ?_)
  refine lv_aload_n hx hb dL_law_220 rfl (lv_at hl 3 rfl) ?_
  refine lv_aload_n hx hb dL_law_221 rfl (lv_at hl 1 rfl) ?_
  refine lv_iload_n hx hb dL_law_222 rfl (lv_at hl 0 rfl) ?_
  refine lv_iconst (v := 1) hx hb dL_law_223 (by decide) ?_
  refine lv_iadd hx hb dL_law_224 ?_
  refine va_sld hx hb hX hbl hbA hS (hin 1 (by decide)) dL_law_225 ?_
  refine lv_aload_n hx hb dL_law_226 rfl (lv_at hl 1 rfl) ?_
  refine lv_iload_n hx hb dL_law_227 rfl (lv_at hl 0 rfl) ?_
  refine lv_iconst (v := 2) hx hb dL_law_228 (by decide) ?_
  refine lv_iadd hx hb dL_law_229 ?_
  refine va_sld hx hb hX hbl hbA hS (hin 2 (by decide)) dL_law_230 ?_
  refine lv_aload_n hx hb dL_law_231 rfl (lv_at hl 1 rfl) ?_
  refine lv_iload_n hx hb dL_law_232 rfl (lv_at hl 0 rfl) ?_
  refine lv_iconst (v := 3) hx hb dL_law_233 (by decide) ?_
  refine lv_iadd hx hb dL_law_234 ?_
  refine va_sld hx hb hX hbl hbA hS (hin 3 (by decide)) dL_law_235 ?_
  refine lv_aload_n hx hb dL_law_236 rfl (lv_at hl 1 rfl) ?_
  refine lv_iload_n hx hb dL_law_237 rfl (lv_at hl 0 rfl) ?_
  refine lv_iconst (v := 4) hx hb dL_law_238 (by decide) ?_
  refine lv_iadd hx hb dL_law_239 ?_
  refine va_sld hx hb hX hbl hbA hS (hin 4 (by decide)) dL_law_240 ?_
  refine kR_i (va_runV (As := [.int (xs (Int32.toNatClampNeg (x3 + 1))), .int (xs (Int32.toNatClampNeg (x3 + 2))), .int (xs (Int32.toNatClampNeg (x3 + 3))), .int (xs (Int32.toNatClampNeg (x3 + 4)))]) (rest := [.int r8]) ⟨hx, hb, hml, hown, htsL⟩ (ct_X9_steppe l D cy adR (va_A (wR cy adR σR) H.size) (xs (Int32.toNatClampNeg (x3 + 1))) (xs (Int32.toNatClampNeg (x3 + 2))) (xs (Int32.toNatClampNeg (x3 + 3))) (xs (Int32.toNatClampNeg (x3 + 4))) a σR hRR) (cwV 4 htsL gL_law_X9_steppe rfl rfl rfl (by decide +kernel) ⟨Nat.le_of_ble_eq_true rfl, Nat.le_of_ble_eq_true rfl⟩) ⟨(fun a U g mk q => ⟨q.1, q.2.blind⟩), va_recv hK hW.2.1 (ci := 9) (q0 := 0) rfl (wR_0 cy adR σR), (fun U hU hWm => ⟨rfl, WdR.pre hW.2.1 hK hW.2.2.2.1.self hN hU hWm⟩)⟩ rfl rfl hl.1 rfl (lv_room (Nat.le_of_ble_eq_true rfl)) dL_law_241 ⟨by omega, by omega⟩) hS hW (fun r9 u9 H locs h9 hW hS => ?_)
  refine lv_icmp_eq (tgt := 1427) hx hb dL_law_244 (by decide) (fun _ => ?_) (fun z => absurd (h8.1.trans h9.1.symm) z)
  refine W.widen (k := cells + 7) (n := slots + 21) (by omega) (by omega) ?_
  exact kk _ _ _ _ _ h8.2 h9.2 hW hS
set_option maxHeartbeats 4000000 in
set_option maxRecDepth 100000 in
theorem law_c1 {p : Program} {e : Env} {s : State} {m : MethodId} {below : List Frame} {meth : Method} {c : Code} (l : Launch) {b L : Nat} {xs : Nat → Int32} (C0 : lw_At p s m meth c b L xs) {D : va_G} {cy : Nat → ClassId} {adC adR : Nat → Nat} (hK : va_K D vwCl (tysK cy) s) (hN : NW s) (hCA : CA2 s) {x3 : Int32} (hin : ∀ j : Nat, j < 6 → vp_in (x3 + nI j) L) {cells slots : Nat} (hcl : cells + 7 ≤ room_1.cells) (hsl : slots + 21 ≤ room_1.slots) {a : AS} {σC σR : S_} {H : Heap} {locs : List Loc} {ls : Array Slot} (hRC : RC a σC) (hRR : RR a σR) (hW : WI D cy adC adR s σC σR H) (hS : va_S (A0s s) s.heap H locs) (hl : lv_has ls 4 [(3, .int x3), (0, .ref b), (1, .ref (adC 0)), (2, .ref (adR 0))]) (kk : ∀ (a : AS) (σC σR : S_) (H : Heap) (locs : List Loc), RC a σC → RR a σR → WI D cy adC adR s σC σR H → va_S (A0s s) s.heap H locs → W p l e room_1 s m #[Value.ref b] below meth c H locs (cells + 7) (slots + 21) (lw_Z below #[Value.ref b] s) (F0 m 1427 ls [])) : W p l e room_1 s m #[Value.ref b] below meth c H locs cells slots (lw_Z below #[Value.ref b] s) (F0 m 249 ls []) := by
  obtain ⟨hx, hb, hr, hml, hown, hts, hX, hbl, hlocks, hgv⟩ := C0
  have htsL : ∀ w ∈ wsL_law, w.before #[Value.ref b] s = true := fun w h => hts w (wsL_law_in w h)
  have hbA : ¬ A0s s b := Nat.not_le.mpr hbl
  refine lv_aload_n hx hb dL_law_249 rfl (lv_at hl 2 rfl) ?_
  refine lv_aload_n hx hb dL_law_250 rfl (lv_at hl 1 rfl) ?_
  refine lv_iload_n hx hb dL_law_251 rfl (lv_at hl 0 rfl) ?_
  refine lv_iconst (v := 1) hx hb dL_law_252 (by decide) ?_
  refine lv_iadd hx hb dL_law_253 ?_
  refine va_sld hx hb hX hbl hbA hS (hin 1 (by decide)) dL_law_254 ?_
  refine lv_aload_n hx hb dL_law_255 rfl (lv_at hl 1 rfl) ?_
  refine lv_iload_n hx hb dL_law_256 rfl (lv_at hl 0 rfl) ?_
  refine lv_iconst (v := 2) hx hb dL_law_257 (by decide) ?_
  refine lv_iadd hx hb dL_law_258 ?_
  refine va_sld hx hb hX hbl hbA hS (hin 2 (by decide)) dL_law_259 ?_
  refine kC_i (va_runV (As := [.int (xs (Int32.toNatClampNeg (x3 + 1))), .int (xs (Int32.toNatClampNeg (x3 + 2)))]) (rest := []) ⟨hx, hb, hml, hown, htsL⟩ (ct_X8_ofPerson l D cy adC (va_A (wC cy adC σC) H.size) (xs (Int32.toNatClampNeg (x3 + 1))) (xs (Int32.toNatClampNeg (x3 + 2))) a σC hRC) (cwV 2 htsL gL_law_X8_ofPerson rfl rfl rfl (by decide +kernel) ⟨Nat.le_of_ble_eq_true rfl, Nat.le_of_ble_eq_true rfl⟩) ⟨(fun a U g mk q => ⟨q.1, q.2.blind⟩), va_recv hK hW.1 (ci := 8) (q0 := 0) rfl (wC_0 cy adC σC), (fun U hU hWm => ⟨rfl, WdC.pre hW.1 hK hW.2.2.1.self hN hU hWm⟩)⟩ rfl rfl hl.1 rfl (lv_room (Nat.le_of_ble_eq_true rfl)) dL_law_260 ⟨by omega, by omega⟩) hS hW (fun r8 u8 H locs h8 hW hS => ?_)
  refine lv_aload_n hx hb dL_law_263 rfl (lv_at hl 3 rfl) ?_
  refine lv_aload_n hx hb dL_law_264 rfl (lv_at hl 1 rfl) ?_
  refine lv_iload_n hx hb dL_law_265 rfl (lv_at hl 0 rfl) ?_
  refine lv_iconst (v := 1) hx hb dL_law_266 (by decide) ?_
  refine lv_iadd hx hb dL_law_267 ?_
  refine va_sld hx hb hX hbl hbA hS (hin 1 (by decide)) dL_law_268 ?_
  refine lv_aload_n hx hb dL_law_269 rfl (lv_at hl 1 rfl) ?_
  refine lv_iload_n hx hb dL_law_270 rfl (lv_at hl 0 rfl) ?_
  refine lv_iconst (v := 2) hx hb dL_law_271 (by decide) ?_
  refine lv_iadd hx hb dL_law_272 ?_
  refine va_sld hx hb hX hbl hbA hS (hin 2 (by decide)) dL_law_273 ?_
  refine kR_i (va_runV (As := [.int (xs (Int32.toNatClampNeg (x3 + 1))), .int (xs (Int32.toNatClampNeg (x3 + 2)))]) (rest := [.int r8]) ⟨hx, hb, hml, hown, htsL⟩ (ct_X9_ofPerson l D cy adR (va_A (wR cy adR σR) H.size) (xs (Int32.toNatClampNeg (x3 + 1))) (xs (Int32.toNatClampNeg (x3 + 2))) a σR hRR) (cwV 2 htsL gL_law_X9_ofPerson rfl rfl rfl (by decide +kernel) ⟨Nat.le_of_ble_eq_true rfl, Nat.le_of_ble_eq_true rfl⟩) ⟨(fun a U g mk q => ⟨q.1, q.2.blind⟩), va_recv hK hW.2.1 (ci := 9) (q0 := 0) rfl (wR_0 cy adR σR), (fun U hU hWm => ⟨rfl, WdR.pre hW.2.1 hK hW.2.2.2.1.self hN hU hWm⟩)⟩ rfl rfl hl.1 rfl (lv_room (Nat.le_of_ble_eq_true rfl)) dL_law_274 ⟨by omega, by omega⟩) hS hW (fun r9 u9 H locs h9 hW hS => ?_)
  refine lv_icmp_eq (tgt := 1427) hx hb dL_law_277 (by decide) (fun _ => ?_) (fun z => absurd (h8.1.trans h9.1.symm) z)
  refine W.widen (k := cells + 7) (n := slots + 21) (by omega) (by omega) ?_
  exact kk _ _ _ _ _ h8.2 h9.2 hW hS
set_option maxHeartbeats 4000000 in
set_option maxRecDepth 100000 in
theorem law_c2 {p : Program} {e : Env} {s : State} {m : MethodId} {below : List Frame} {meth : Method} {c : Code} (l : Launch) {b L : Nat} {xs : Nat → Int32} (C0 : lw_At p s m meth c b L xs) {D : va_G} {cy : Nat → ClassId} {adC adR : Nat → Nat} (hK : va_K D vwCl (tysK cy) s) (hN : NW s) (hCA : CA2 s) {x3 : Int32} (hin : ∀ j : Nat, j < 6 → vp_in (x3 + nI j) L) {cells slots : Nat} (hcl : cells + 7 ≤ room_1.cells) (hsl : slots + 21 ≤ room_1.slots) {a : AS} {σC σR : S_} {H : Heap} {locs : List Loc} {ls : Array Slot} (hRC : RC a σC) (hRR : RR a σR) (hW : WI D cy adC adR s σC σR H) (hS : va_S (A0s s) s.heap H locs) (hl : lv_has ls 4 [(3, .int x3), (0, .ref b), (1, .ref (adC 0)), (2, .ref (adR 0))]) (kk : ∀ (a : AS) (σC σR : S_) (H : Heap) (locs : List Loc), RC a σC → RR a σR → WI D cy adC adR s σC σR H → va_S (A0s s) s.heap H locs → W p l e room_1 s m #[Value.ref b] below meth c H locs (cells + 7) (slots + 21) (lw_Z below #[Value.ref b] s) (F0 m 1427 ls [])) : W p l e room_1 s m #[Value.ref b] below meth c H locs cells slots (lw_Z below #[Value.ref b] s) (F0 m 282 ls []) := by
  obtain ⟨hx, hb, hr, hml, hown, hts, hX, hbl, hlocks, hgv⟩ := C0
  have htsL : ∀ w ∈ wsL_law, w.before #[Value.ref b] s = true := fun w h => hts w (wsL_law_in w h)
  have hbA : ¬ A0s s b := Nat.not_le.mpr hbl
  refine lv_aload_n hx hb dL_law_282 rfl (lv_at hl 2 rfl) ?_
  refine lv_aload_n hx hb dL_law_283 rfl (lv_at hl 1 rfl) ?_
  refine lv_iload_n hx hb dL_law_284 rfl (lv_at hl 0 rfl) ?_
  refine lv_iconst (v := 1) hx hb dL_law_285 (by decide) ?_
  refine lv_iadd hx hb dL_law_286 ?_
  refine va_sld hx hb hX hbl hbA hS (hin 1 (by decide)) dL_law_287 ?_
  refine lv_aload_n hx hb dL_law_288 rfl (lv_at hl 1 rfl) ?_
  refine lv_iload_n hx hb dL_law_289 rfl (lv_at hl 0 rfl) ?_
  refine lv_iconst (v := 2) hx hb dL_law_290 (by decide) ?_
  refine lv_iadd hx hb dL_law_291 ?_
  refine va_sld hx hb hX hbl hbA hS (hin 2 (by decide)) dL_law_292 ?_
  refine lv_aload_n hx hb dL_law_293 rfl (lv_at hl 1 rfl) ?_
  refine lv_iload_n hx hb dL_law_294 rfl (lv_at hl 0 rfl) ?_
  refine lv_iconst (v := 3) hx hb dL_law_295 (by decide) ?_
  refine lv_iadd hx hb dL_law_296 ?_
  refine va_sld hx hb hX hbl hbA hS (hin 3 (by decide)) dL_law_297 ?_
  refine kC_i (va_runV (As := [.int (xs (Int32.toNatClampNeg (x3 + 1))), .int (xs (Int32.toNatClampNeg (x3 + 2))), .int (xs (Int32.toNatClampNeg (x3 + 3)))]) (rest := []) ⟨hx, hb, hml, hown, htsL⟩ (ct_X8_tale l D cy adC (va_A (wC cy adC σC) H.size) (xs (Int32.toNatClampNeg (x3 + 1))) (xs (Int32.toNatClampNeg (x3 + 2))) (xs (Int32.toNatClampNeg (x3 + 3))) a σC hRC) (cwV 3 htsL gL_law_X8_tale rfl rfl rfl (by decide +kernel) ⟨Nat.le_of_ble_eq_true rfl, Nat.le_of_ble_eq_true rfl⟩) ⟨(fun a U g mk q => ⟨q.1, q.2.blind⟩), va_recv hK hW.1 (ci := 8) (q0 := 0) rfl (wC_0 cy adC σC), (fun U hU hWm => ⟨rfl, WdC.pre hW.1 hK hW.2.2.1.self hN hU hWm⟩)⟩ rfl rfl hl.1 rfl (lv_room (Nat.le_of_ble_eq_true rfl)) dL_law_298 ⟨by omega, by omega⟩) hS hW (fun r8 u8 H locs h8 hW hS => ?_)
  refine lv_aload_n hx hb dL_law_301 rfl (lv_at hl 3 rfl) ?_
  refine lv_aload_n hx hb dL_law_302 rfl (lv_at hl 1 rfl) ?_
  refine lv_iload_n hx hb dL_law_303 rfl (lv_at hl 0 rfl) ?_
  refine lv_iconst (v := 1) hx hb dL_law_304 (by decide) ?_
  refine lv_iadd hx hb dL_law_305 ?_
  refine va_sld hx hb hX hbl hbA hS (hin 1 (by decide)) dL_law_306 ?_
  refine lv_aload_n hx hb dL_law_307 rfl (lv_at hl 1 rfl) ?_
  refine lv_iload_n hx hb dL_law_308 rfl (lv_at hl 0 rfl) ?_
  refine lv_iconst (v := 2) hx hb dL_law_309 (by decide) ?_
  refine lv_iadd hx hb dL_law_310 ?_
  refine va_sld hx hb hX hbl hbA hS (hin 2 (by decide)) dL_law_311 ?_
  refine lv_aload_n hx hb dL_law_312 rfl (lv_at hl 1 rfl) ?_
  refine lv_iload_n hx hb dL_law_313 rfl (lv_at hl 0 rfl) ?_
  refine lv_iconst (v := 3) hx hb dL_law_314 (by decide) ?_
  refine lv_iadd hx hb dL_law_315 ?_
  refine va_sld hx hb hX hbl hbA hS (hin 3 (by decide)) dL_law_316 ?_
  refine kR_i (va_runV (As := [.int (xs (Int32.toNatClampNeg (x3 + 1))), .int (xs (Int32.toNatClampNeg (x3 + 2))), .int (xs (Int32.toNatClampNeg (x3 + 3)))]) (rest := [.int r8]) ⟨hx, hb, hml, hown, htsL⟩ (ct_X9_tale l D cy adR (va_A (wR cy adR σR) H.size) (xs (Int32.toNatClampNeg (x3 + 1))) (xs (Int32.toNatClampNeg (x3 + 2))) (xs (Int32.toNatClampNeg (x3 + 3))) a σR hRR) (cwV 3 htsL gL_law_X9_tale rfl rfl rfl (by decide +kernel) ⟨Nat.le_of_ble_eq_true rfl, Nat.le_of_ble_eq_true rfl⟩) ⟨(fun a U g mk q => ⟨q.1, q.2.blind⟩), va_recv hK hW.2.1 (ci := 9) (q0 := 0) rfl (wR_0 cy adR σR), (fun U hU hWm => ⟨rfl, WdR.pre hW.2.1 hK hW.2.2.2.1.self hN hU hWm⟩)⟩ rfl rfl hl.1 rfl (lv_room (Nat.le_of_ble_eq_true rfl)) dL_law_317 ⟨by omega, by omega⟩) hS hW (fun r9 u9 H locs h9 hW hS => ?_)
  refine lv_icmp_eq (tgt := 1427) hx hb dL_law_320 (by decide) (fun _ => ?_) (fun z => absurd (h8.1.trans h9.1.symm) z)
  refine W.widen (k := cells + 7) (n := slots + 21) (by omega) (by omega) ?_
  exact kk _ _ _ _ _ h8.2 h9.2 hW hS
set_option maxHeartbeats 4000000 in
set_option maxRecDepth 100000 in
theorem law_c3 {p : Program} {e : Env} {s : State} {m : MethodId} {below : List Frame} {meth : Method} {c : Code} (l : Launch) {b L : Nat} {xs : Nat → Int32} (C0 : lw_At p s m meth c b L xs) {D : va_G} {cy : Nat → ClassId} {adC adR : Nat → Nat} (hK : va_K D vwCl (tysK cy) s) (hN : NW s) (hCA : CA2 s) {x3 : Int32} (hin : ∀ j : Nat, j < 6 → vp_in (x3 + nI j) L) {cells slots : Nat} (hcl : cells + 7 ≤ room_1.cells) (hsl : slots + 21 ≤ room_1.slots) {a : AS} {σC σR : S_} {H : Heap} {locs : List Loc} {ls : Array Slot} (hRC : RC a σC) (hRR : RR a σR) (hW : WI D cy adC adR s σC σR H) (hS : va_S (A0s s) s.heap H locs) (hl : lv_has ls 4 [(3, .int x3), (0, .ref b), (1, .ref (adC 0)), (2, .ref (adR 0))]) (kk : ∀ (a : AS) (σC σR : S_) (H : Heap) (locs : List Loc), RC a σC → RR a σR → WI D cy adC adR s σC σR H → va_S (A0s s) s.heap H locs → W p l e room_1 s m #[Value.ref b] below meth c H locs (cells + 7) (slots + 21) (lw_Z below #[Value.ref b] s) (F0 m 1427 ls [])) : W p l e room_1 s m #[Value.ref b] below meth c H locs cells slots (lw_Z below #[Value.ref b] s) (F0 m 325 ls []) := by
  obtain ⟨hx, hb, hr, hml, hown, hts, hX, hbl, hlocks, hgv⟩ := C0
  have htsL : ∀ w ∈ wsL_law, w.before #[Value.ref b] s = true := fun w h => hts w (wsL_law_in w h)
  have hbA : ¬ A0s s b := Nat.not_le.mpr hbl
  refine lv_aload_n hx hb dL_law_325 rfl (lv_at hl 2 rfl) ?_
  refine lv_aload_n hx hb dL_law_326 rfl (lv_at hl 1 rfl) ?_
  refine lv_iload_n hx hb dL_law_327 rfl (lv_at hl 0 rfl) ?_
  refine lv_iconst (v := 1) hx hb dL_law_328 (by decide) ?_
  refine lv_iadd hx hb dL_law_329 ?_
  refine va_sld hx hb hX hbl hbA hS (hin 1 (by decide)) dL_law_330 ?_
  refine kC_i (va_runV (As := [.int (xs (Int32.toNatClampNeg (x3 + 1)))]) (rest := []) ⟨hx, hb, hml, hown, htsL⟩ (ct_X8_undo l D cy adC (va_A (wC cy adC σC) H.size) (xs (Int32.toNatClampNeg (x3 + 1))) a σC hRC) (cwV 1 htsL gL_law_X8_undo rfl rfl rfl (by decide +kernel) ⟨Nat.le_of_ble_eq_true rfl, Nat.le_of_ble_eq_true rfl⟩) ⟨(fun a U g mk q => ⟨q.1, q.2.blind⟩), va_recv hK hW.1 (ci := 8) (q0 := 0) rfl (wC_0 cy adC σC), (fun U hU hWm => ⟨rfl, WdC.pre hW.1 hK hW.2.2.1.self hN hU hWm⟩)⟩ rfl rfl hl.1 rfl (lv_room (Nat.le_of_ble_eq_true rfl)) dL_law_331 ⟨by omega, by omega⟩) hS hW (fun r8 u8 H locs h8 hW hS => ?_)
  refine lv_aload_n hx hb dL_law_334 rfl (lv_at hl 3 rfl) ?_
  refine lv_aload_n hx hb dL_law_335 rfl (lv_at hl 1 rfl) ?_
  refine lv_iload_n hx hb dL_law_336 rfl (lv_at hl 0 rfl) ?_
  refine lv_iconst (v := 1) hx hb dL_law_337 (by decide) ?_
  refine lv_iadd hx hb dL_law_338 ?_
  refine va_sld hx hb hX hbl hbA hS (hin 1 (by decide)) dL_law_339 ?_
  refine kR_i (va_runV (As := [.int (xs (Int32.toNatClampNeg (x3 + 1)))]) (rest := [.int r8]) ⟨hx, hb, hml, hown, htsL⟩ (ct_X9_undo l D cy adR (va_A (wR cy adR σR) H.size) (xs (Int32.toNatClampNeg (x3 + 1))) a σR hRR) (cwV 1 htsL gL_law_X9_undo rfl rfl rfl (by decide +kernel) ⟨Nat.le_of_ble_eq_true rfl, Nat.le_of_ble_eq_true rfl⟩) ⟨(fun a U g mk q => ⟨q.1, q.2.blind⟩), va_recv hK hW.2.1 (ci := 9) (q0 := 0) rfl (wR_0 cy adR σR), (fun U hU hWm => ⟨rfl, WdR.pre hW.2.1 hK hW.2.2.2.1.self hN hU hWm⟩)⟩ rfl rfl hl.1 rfl (lv_room (Nat.le_of_ble_eq_true rfl)) dL_law_340 ⟨by omega, by omega⟩) hS hW (fun r9 u9 H locs h9 hW hS => ?_)
  refine lv_icmp_eq (tgt := 1427) hx hb dL_law_343 (by decide) (fun _ => ?_) (fun z => absurd (h8.1.trans h9.1.symm) z)
  refine W.widen (k := cells + 7) (n := slots + 21) (by omega) (by omega) ?_
  exact kk _ _ _ _ _ h8.2 h9.2 hW hS
set_option maxHeartbeats 4000000 in
set_option maxRecDepth 100000 in
theorem law_c4 {p : Program} {e : Env} {s : State} {m : MethodId} {below : List Frame} {meth : Method} {c : Code} (l : Launch) {b L : Nat} {xs : Nat → Int32} (C0 : lw_At p s m meth c b L xs) {D : va_G} {cy : Nat → ClassId} {adC adR : Nat → Nat} (hK : va_K D vwCl (tysK cy) s) (hN : NW s) (hCA : CA2 s) {x3 : Int32} (hin : ∀ j : Nat, j < 6 → vp_in (x3 + nI j) L) {cells slots : Nat} (hcl : cells + 7 ≤ room_1.cells) (hsl : slots + 21 ≤ room_1.slots) {a : AS} {σC σR : S_} {H : Heap} {locs : List Loc} {ls : Array Slot} (hRC : RC a σC) (hRR : RR a σR) (hW : WI D cy adC adR s σC σR H) (hS : va_S (A0s s) s.heap H locs) (hl : lv_has ls 4 [(3, .int x3), (0, .ref b), (1, .ref (adC 0)), (2, .ref (adR 0))]) (kk : ∀ (a : AS) (σC σR : S_) (H : Heap) (locs : List Loc), RC a σC → RR a σR → WI D cy adC adR s σC σR H → va_S (A0s s) s.heap H locs → W p l e room_1 s m #[Value.ref b] below meth c H locs (cells + 7) (slots + 21) (lw_Z below #[Value.ref b] s) (F0 m 1427 ls [])) : W p l e room_1 s m #[Value.ref b] below meth c H locs cells slots (lw_Z below #[Value.ref b] s) (F0 m 348 ls []) := by
  obtain ⟨hx, hb, hr, hml, hown, hts, hX, hbl, hlocks, hgv⟩ := C0
  have htsL : ∀ w ∈ wsL_law, w.before #[Value.ref b] s = true := fun w h => hts w (wsL_law_in w h)
  have hbA : ¬ A0s s b := Nat.not_le.mpr hbl
  refine lv_aload_n hx hb dL_law_348 rfl (lv_at hl 2 rfl) ?_
  refine lv_aload_n hx hb dL_law_349 rfl (lv_at hl 1 rfl) ?_
  refine lv_iload_n hx hb dL_law_350 rfl (lv_at hl 0 rfl) ?_
  refine lv_iconst (v := 1) hx hb dL_law_351 (by decide) ?_
  refine lv_iadd hx hb dL_law_352 ?_
  refine va_sld hx hb hX hbl hbA hS (hin 1 (by decide)) dL_law_353 ?_
  refine lv_aload_n hx hb dL_law_354 rfl (lv_at hl 1 rfl) ?_
  refine lv_iload_n hx hb dL_law_355 rfl (lv_at hl 0 rfl) ?_
  refine lv_iconst (v := 2) hx hb dL_law_356 (by decide) ?_
  refine lv_iadd hx hb dL_law_357 ?_
  refine va_sld hx hb hX hbl hbA hS (hin 2 (by decide)) dL_law_358 ?_
  refine lv_aload_n hx hb dL_law_359 rfl (lv_at hl 1 rfl) ?_
  refine lv_iload_n hx hb dL_law_360 rfl (lv_at hl 0 rfl) ?_
  refine lv_iconst (v := 3) hx hb dL_law_361 (by decide) ?_
  refine lv_iadd hx hb dL_law_362 ?_
  refine va_sld hx hb hX hbl hbA hS (hin 3 (by decide)) dL_law_363 ?_
  refine kC_i (va_runV (As := [.int (xs (Int32.toNatClampNeg (x3 + 1))), .int (xs (Int32.toNatClampNeg (x3 + 2))), .int (xs (Int32.toNatClampNeg (x3 + 3)))]) (rest := []) ⟨hx, hb, hml, hown, htsL⟩ (ct_X8_move l D cy adC (va_A (wC cy adC σC) H.size) (xs (Int32.toNatClampNeg (x3 + 1))) (xs (Int32.toNatClampNeg (x3 + 2))) (xs (Int32.toNatClampNeg (x3 + 3))) a σC hRC) (cwV 3 htsL gL_law_X8_move rfl rfl rfl (by decide +kernel) ⟨Nat.le_of_ble_eq_true rfl, Nat.le_of_ble_eq_true rfl⟩) ⟨(fun a U g mk q => ⟨q.1, q.2.blind⟩), va_recv hK hW.1 (ci := 8) (q0 := 0) rfl (wC_0 cy adC σC), (fun U hU hWm => ⟨rfl, WdC.pre hW.1 hK hW.2.2.1.self hN hU hWm⟩)⟩ rfl rfl hl.1 rfl (lv_room (Nat.le_of_ble_eq_true rfl)) dL_law_364 ⟨by omega, by omega⟩) hS hW (fun r8 u8 H locs h8 hW hS => ?_)
  refine lv_aload_n hx hb dL_law_367 rfl (lv_at hl 3 rfl) ?_
  refine lv_aload_n hx hb dL_law_368 rfl (lv_at hl 1 rfl) ?_
  refine lv_iload_n hx hb dL_law_369 rfl (lv_at hl 0 rfl) ?_
  refine lv_iconst (v := 1) hx hb dL_law_370 (by decide) ?_
  refine lv_iadd hx hb dL_law_371 ?_
  refine va_sld hx hb hX hbl hbA hS (hin 1 (by decide)) dL_law_372 ?_
  refine lv_aload_n hx hb dL_law_373 rfl (lv_at hl 1 rfl) ?_
  refine lv_iload_n hx hb dL_law_374 rfl (lv_at hl 0 rfl) ?_
  refine lv_iconst (v := 2) hx hb dL_law_375 (by decide) ?_
  refine lv_iadd hx hb dL_law_376 ?_
  refine va_sld hx hb hX hbl hbA hS (hin 2 (by decide)) dL_law_377 ?_
  refine lv_aload_n hx hb dL_law_378 rfl (lv_at hl 1 rfl) ?_
  refine lv_iload_n hx hb dL_law_379 rfl (lv_at hl 0 rfl) ?_
  refine lv_iconst (v := 3) hx hb dL_law_380 (by decide) ?_
  refine lv_iadd hx hb dL_law_381 ?_
  refine va_sld hx hb hX hbl hbA hS (hin 3 (by decide)) dL_law_382 ?_
  refine kR_i (va_runV (As := [.int (xs (Int32.toNatClampNeg (x3 + 1))), .int (xs (Int32.toNatClampNeg (x3 + 2))), .int (xs (Int32.toNatClampNeg (x3 + 3)))]) (rest := [.int r8]) ⟨hx, hb, hml, hown, htsL⟩ (ct_X9_move l D cy adR (va_A (wR cy adR σR) H.size) (xs (Int32.toNatClampNeg (x3 + 1))) (xs (Int32.toNatClampNeg (x3 + 2))) (xs (Int32.toNatClampNeg (x3 + 3))) a σR hRR) (cwV 3 htsL gL_law_X9_move rfl rfl rfl (by decide +kernel) ⟨Nat.le_of_ble_eq_true rfl, Nat.le_of_ble_eq_true rfl⟩) ⟨(fun a U g mk q => ⟨q.1, q.2.blind⟩), va_recv hK hW.2.1 (ci := 9) (q0 := 0) rfl (wR_0 cy adR σR), (fun U hU hWm => ⟨rfl, WdR.pre hW.2.1 hK hW.2.2.2.1.self hN hU hWm⟩)⟩ rfl rfl hl.1 rfl (lv_room (Nat.le_of_ble_eq_true rfl)) dL_law_383 ⟨by omega, by omega⟩) hS hW (fun r9 u9 H locs h9 hW hS => ?_)
  refine lv_icmp_eq (tgt := 1427) hx hb dL_law_386 (by decide) (fun _ => ?_) (fun z => absurd (h8.1.trans h9.1.symm) z)
  refine W.widen (k := cells + 7) (n := slots + 21) (by omega) (by omega) ?_
  exact kk _ _ _ _ _ h8.2 h9.2 hW hS
set_option maxHeartbeats 4000000 in
set_option maxRecDepth 100000 in
theorem law_c5 {p : Program} {e : Env} {s : State} {m : MethodId} {below : List Frame} {meth : Method} {c : Code} (l : Launch) {b L : Nat} {xs : Nat → Int32} (C0 : lw_At p s m meth c b L xs) {D : va_G} {cy : Nat → ClassId} {adC adR : Nat → Nat} (hK : va_K D vwCl (tysK cy) s) (hN : NW s) (hCA : CA2 s) {x3 : Int32} (hin : ∀ j : Nat, j < 6 → vp_in (x3 + nI j) L) {cells slots : Nat} (hcl : cells + 7 ≤ room_1.cells) (hsl : slots + 21 ≤ room_1.slots) {a : AS} {σC σR : S_} {H : Heap} {locs : List Loc} {ls : Array Slot} (hRC : RC a σC) (hRR : RR a σR) (hW : WI D cy adC adR s σC σR H) (hS : va_S (A0s s) s.heap H locs) (hl : lv_has ls 4 [(3, .int x3), (0, .ref b), (1, .ref (adC 0)), (2, .ref (adR 0))]) (kk : ∀ (a : AS) (σC σR : S_) (H : Heap) (locs : List Loc), RC a σC → RR a σR → WI D cy adC adR s σC σR H → va_S (A0s s) s.heap H locs → W p l e room_1 s m #[Value.ref b] below meth c H locs (cells + 7) (slots + 21) (lw_Z below #[Value.ref b] s) (F0 m 1427 ls [])) : W p l e room_1 s m #[Value.ref b] below meth c H locs cells slots (lw_Z below #[Value.ref b] s) (F0 m 391 ls []) := by
  obtain ⟨hx, hb, hr, hml, hown, hts, hX, hbl, hlocks, hgv⟩ := C0
  have htsL : ∀ w ∈ wsL_law, w.before #[Value.ref b] s = true := fun w h => hts w (wsL_law_in w h)
  have hbA : ¬ A0s s b := Nat.not_le.mpr hbl
  refine lv_aload_n hx hb dL_law_391 rfl (lv_at hl 2 rfl) ?_
  refine lv_aload_n hx hb dL_law_392 rfl (lv_at hl 1 rfl) ?_
  refine lv_iload_n hx hb dL_law_393 rfl (lv_at hl 0 rfl) ?_
  refine lv_iconst (v := 1) hx hb dL_law_394 (by decide) ?_
  refine lv_iadd hx hb dL_law_395 ?_
  refine va_sld hx hb hX hbl hbA hS (hin 1 (by decide)) dL_law_396 ?_
  refine kC_i (va_runV (As := [.int (xs (Int32.toNatClampNeg (x3 + 1)))]) (rest := []) ⟨hx, hb, hml, hown, htsL⟩ (ct_X8_unmove l D cy adC (va_A (wC cy adC σC) H.size) (xs (Int32.toNatClampNeg (x3 + 1))) a σC hRC) (cwV 1 htsL gL_law_X8_unmove rfl rfl rfl (by decide +kernel) ⟨Nat.le_of_ble_eq_true rfl, Nat.le_of_ble_eq_true rfl⟩) ⟨(fun a U g mk q => ⟨q.1, q.2.blind⟩), va_recv hK hW.1 (ci := 8) (q0 := 0) rfl (wC_0 cy adC σC), (fun U hU hWm => ⟨rfl, WdC.pre hW.1 hK hW.2.2.1.self hN hU hWm⟩)⟩ rfl rfl hl.1 rfl (lv_room (Nat.le_of_ble_eq_true rfl)) dL_law_397 ⟨by omega, by omega⟩) hS hW (fun r8 u8 H locs h8 hW hS => ?_)
  refine lv_aload_n hx hb dL_law_400 rfl (lv_at hl 3 rfl) ?_
  refine lv_aload_n hx hb dL_law_401 rfl (lv_at hl 1 rfl) ?_
  refine lv_iload_n hx hb dL_law_402 rfl (lv_at hl 0 rfl) ?_
  refine lv_iconst (v := 1) hx hb dL_law_403 (by decide) ?_
  refine lv_iadd hx hb dL_law_404 ?_
  refine va_sld hx hb hX hbl hbA hS (hin 1 (by decide)) dL_law_405 ?_
  refine kR_i (va_runV (As := [.int (xs (Int32.toNatClampNeg (x3 + 1)))]) (rest := [.int r8]) ⟨hx, hb, hml, hown, htsL⟩ (ct_X9_unmove l D cy adR (va_A (wR cy adR σR) H.size) (xs (Int32.toNatClampNeg (x3 + 1))) a σR hRR) (cwV 1 htsL gL_law_X9_unmove rfl rfl rfl (by decide +kernel) ⟨Nat.le_of_ble_eq_true rfl, Nat.le_of_ble_eq_true rfl⟩) ⟨(fun a U g mk q => ⟨q.1, q.2.blind⟩), va_recv hK hW.2.1 (ci := 9) (q0 := 0) rfl (wR_0 cy adR σR), (fun U hU hWm => ⟨rfl, WdR.pre hW.2.1 hK hW.2.2.2.1.self hN hU hWm⟩)⟩ rfl rfl hl.1 rfl (lv_room (Nat.le_of_ble_eq_true rfl)) dL_law_406 ⟨by omega, by omega⟩) hS hW (fun r9 u9 H locs h9 hW hS => ?_)
  refine lv_icmp_eq (tgt := 1427) hx hb dL_law_409 (by decide) (fun _ => ?_) (fun z => absurd (h8.1.trans h9.1.symm) z)
  refine W.widen (k := cells + 7) (n := slots + 21) (by omega) (by omega) ?_
  exact kk _ _ _ _ _ h8.2 h9.2 hW hS
set_option maxHeartbeats 4000000 in
set_option maxRecDepth 100000 in
theorem law_c6 {p : Program} {e : Env} {s : State} {m : MethodId} {below : List Frame} {meth : Method} {c : Code} (l : Launch) {b L : Nat} {xs : Nat → Int32} (C0 : lw_At p s m meth c b L xs) {D : va_G} {cy : Nat → ClassId} {adC adR : Nat → Nat} (hK : va_K D vwCl (tysK cy) s) (hN : NW s) (hCA : CA2 s) {x3 : Int32} (hin : ∀ j : Nat, j < 6 → vp_in (x3 + nI j) L) {cells slots : Nat} (hcl : cells + 7 ≤ room_1.cells) (hsl : slots + 21 ≤ room_1.slots) {a : AS} {σC σR : S_} {H : Heap} {locs : List Loc} {ls : Array Slot} (hRC : RC a σC) (hRR : RR a σR) (hW : WI D cy adC adR s σC σR H) (hS : va_S (A0s s) s.heap H locs) (hl : lv_has ls 4 [(3, .int x3), (0, .ref b), (1, .ref (adC 0)), (2, .ref (adR 0))]) (kk : ∀ (a : AS) (σC σR : S_) (H : Heap) (locs : List Loc), RC a σC → RR a σR → WI D cy adC adR s σC σR H → va_S (A0s s) s.heap H locs → W p l e room_1 s m #[Value.ref b] below meth c H locs (cells + 7) (slots + 21) (lw_Z below #[Value.ref b] s) (F0 m 1427 ls [])) : W p l e room_1 s m #[Value.ref b] below meth c H locs cells slots (lw_Z below #[Value.ref b] s) (F0 m 414 ls []) := by
  obtain ⟨hx, hb, hr, hml, hown, hts, hX, hbl, hlocks, hgv⟩ := C0
  have htsL : ∀ w ∈ wsL_law, w.before #[Value.ref b] s = true := fun w h => hts w (wsL_law_in w h)
  have hbA : ¬ A0s s b := Nat.not_le.mpr hbl
  refine lv_aload_n hx hb dL_law_414 rfl (lv_at hl 2 rfl) ?_
  refine lv_aload_n hx hb dL_law_415 rfl (lv_at hl 1 rfl) ?_
  refine lv_iload_n hx hb dL_law_416 rfl (lv_at hl 0 rfl) ?_
  refine lv_iconst (v := 1) hx hb dL_law_417 (by decide) ?_
  refine lv_iadd hx hb dL_law_418 ?_
  refine va_sld hx hb hX hbl hbA hS (hin 1 (by decide)) dL_law_419 ?_
  refine kC_i (va_runV (As := [.int (xs (Int32.toNatClampNeg (x3 + 1)))]) (rest := []) ⟨hx, hb, hml, hown, htsL⟩ (ct_X8_law l D cy adC (va_A (wC cy adC σC) H.size) (xs (Int32.toNatClampNeg (x3 + 1))) a σC hRC) (cwV 1 htsL gL_law_X8_law rfl rfl rfl (by decide +kernel) ⟨Nat.le_of_ble_eq_true rfl, Nat.le_of_ble_eq_true rfl⟩) ⟨(fun a U g mk q => ⟨q.1, q.2.blind⟩), va_recv hK hW.1 (ci := 8) (q0 := 0) rfl (wC_0 cy adC σC), (fun U hU hWm => ⟨rfl, WdC.pre hW.1 hK hW.2.2.1.self hN hU hWm⟩)⟩ rfl rfl hl.1 rfl (lv_room (Nat.le_of_ble_eq_true rfl)) dL_law_420 ⟨by omega, by omega⟩) hS hW (fun r8 u8 H locs h8 hW hS => ?_)
  refine lv_aload_n hx hb dL_law_423 rfl (lv_at hl 3 rfl) ?_
  refine lv_aload_n hx hb dL_law_424 rfl (lv_at hl 1 rfl) ?_
  refine lv_iload_n hx hb dL_law_425 rfl (lv_at hl 0 rfl) ?_
  refine lv_iconst (v := 1) hx hb dL_law_426 (by decide) ?_
  refine lv_iadd hx hb dL_law_427 ?_
  refine va_sld hx hb hX hbl hbA hS (hin 1 (by decide)) dL_law_428 ?_
  refine kR_i (va_runV (As := [.int (xs (Int32.toNatClampNeg (x3 + 1)))]) (rest := [.int r8]) ⟨hx, hb, hml, hown, htsL⟩ (ct_X9_law l D cy adR (va_A (wR cy adR σR) H.size) (xs (Int32.toNatClampNeg (x3 + 1))) a σR hRR) (cwV 1 htsL gL_law_X9_law rfl rfl rfl (by decide +kernel) ⟨Nat.le_of_ble_eq_true rfl, Nat.le_of_ble_eq_true rfl⟩) ⟨(fun a U g mk q => ⟨q.1, q.2.blind⟩), va_recv hK hW.2.1 (ci := 9) (q0 := 0) rfl (wR_0 cy adR σR), (fun U hU hWm => ⟨rfl, WdR.pre hW.2.1 hK hW.2.2.2.1.self hN hU hWm⟩)⟩ rfl rfl hl.1 rfl (lv_room (Nat.le_of_ble_eq_true rfl)) dL_law_429 ⟨by omega, by omega⟩) hS hW (fun r9 u9 H locs h9 hW hS => ?_)
  refine lv_icmp_eq (tgt := 1427) hx hb dL_law_432 (by decide) (fun _ => ?_) (fun z => absurd (h8.1.trans h9.1.symm) z)
  refine W.widen (k := cells + 7) (n := slots + 21) (by omega) (by omega) ?_
  exact kk _ _ _ _ _ h8.2 h9.2 hW hS
set_option maxHeartbeats 4000000 in
set_option maxRecDepth 100000 in
theorem law_c7 {p : Program} {e : Env} {s : State} {m : MethodId} {below : List Frame} {meth : Method} {c : Code} (l : Launch) {b L : Nat} {xs : Nat → Int32} (C0 : lw_At p s m meth c b L xs) {D : va_G} {cy : Nat → ClassId} {adC adR : Nat → Nat} (hK : va_K D vwCl (tysK cy) s) (hN : NW s) (hCA : CA2 s) {x3 : Int32} (hin : ∀ j : Nat, j < 6 → vp_in (x3 + nI j) L) {cells slots : Nat} (hcl : cells + 7 ≤ room_1.cells) (hsl : slots + 21 ≤ room_1.slots) {a : AS} {σC σR : S_} {H : Heap} {locs : List Loc} {ls : Array Slot} (hRC : RC a σC) (hRR : RR a σR) (hW : WI D cy adC adR s σC σR H) (hS : va_S (A0s s) s.heap H locs) (hl : lv_has ls 4 [(3, .int x3), (0, .ref b), (1, .ref (adC 0)), (2, .ref (adR 0))]) (kk : ∀ (a : AS) (σC σR : S_) (H : Heap) (locs : List Loc), RC a σC → RR a σR → WI D cy adC adR s σC σR H → va_S (A0s s) s.heap H locs → W p l e room_1 s m #[Value.ref b] below meth c H locs (cells + 7) (slots + 21) (lw_Z below #[Value.ref b] s) (F0 m 1427 ls [])) : W p l e room_1 s m #[Value.ref b] below meth c H locs cells slots (lw_Z below #[Value.ref b] s) (F0 m 437 ls []) := by
  obtain ⟨hx, hb, hr, hml, hown, hts, hX, hbl, hlocks, hgv⟩ := C0
  have htsL : ∀ w ∈ wsL_law, w.before #[Value.ref b] s = true := fun w h => hts w (wsL_law_in w h)
  have hbA : ¬ A0s s b := Nat.not_le.mpr hbl
  refine lv_aload_n hx hb dL_law_437 rfl (lv_at hl 2 rfl) ?_
  refine lv_aload_n hx hb dL_law_438 rfl (lv_at hl 1 rfl) ?_
  refine lv_iload_n hx hb dL_law_439 rfl (lv_at hl 0 rfl) ?_
  refine lv_iconst (v := 1) hx hb dL_law_440 (by decide) ?_
  refine lv_iadd hx hb dL_law_441 ?_
  refine va_sld hx hb hX hbl hbA hS (hin 1 (by decide)) dL_law_442 ?_
  refine lv_aload_n hx hb dL_law_443 rfl (lv_at hl 1 rfl) ?_
  refine lv_iload_n hx hb dL_law_444 rfl (lv_at hl 0 rfl) ?_
  refine lv_iconst (v := 2) hx hb dL_law_445 (by decide) ?_
  refine lv_iadd hx hb dL_law_446 ?_
  refine va_sld hx hb hX hbl hbA hS (hin 2 (by decide)) dL_law_447 ?_
  refine lv_if_eq (tgt := 455) hx hb dL_law_448 (by decide) (fun hz => ?_) (fun hz => ?_)
  · skip
    refine lv_iconst (v := 0) hx hb dL_law_455 (by decide) ?_
    refine kC_i (va_runV (As := [.int (xs (Int32.toNatClampNeg (x3 + 1))), .int 0]) (rest := []) ⟨hx, hb, hml, hown, htsL⟩ (ct_X8_pay l D cy adC (va_A (wC cy adC σC) H.size) (xs (Int32.toNatClampNeg (x3 + 1))) 0 a σC ⟨hRC, Or.inl rfl⟩) (cwV 2 htsL gL_law_X8_pay rfl rfl rfl (by decide +kernel) ⟨Nat.le_of_ble_eq_true rfl, Nat.le_of_ble_eq_true rfl⟩) ⟨(fun a U g mk q => ⟨q.1, q.2.blind⟩), va_recv hK hW.1 (ci := 8) (q0 := 0) rfl (wC_0 cy adC σC), (fun U hU hWm => ⟨rfl, WdC.pre hW.1 hK hW.2.2.1.self hN hU hWm⟩)⟩ rfl rfl hl.1 rfl (lv_room (Nat.le_of_ble_eq_true rfl)) dL_law_456 ⟨by omega, by omega⟩) hS hW (fun r8 u8 H locs h8 hW hS => ?_)
    refine lv_aload_n hx hb dL_law_459 rfl (lv_at hl 3 rfl) ?_
    refine lv_aload_n hx hb dL_law_460 rfl (lv_at hl 1 rfl) ?_
    refine lv_iload_n hx hb dL_law_461 rfl (lv_at hl 0 rfl) ?_
    refine lv_iconst (v := 1) hx hb dL_law_462 (by decide) ?_
    refine lv_iadd hx hb dL_law_463 ?_
    refine va_sld hx hb hX hbl hbA hS (hin 1 (by decide)) dL_law_464 ?_
    refine lv_aload_n hx hb dL_law_465 rfl (lv_at hl 1 rfl) ?_
    refine lv_iload_n hx hb dL_law_466 rfl (lv_at hl 0 rfl) ?_
    refine lv_iconst (v := 2) hx hb dL_law_467 (by decide) ?_
    refine lv_iadd hx hb dL_law_468 ?_
    refine va_sld hx hb hX hbl hbA hS (hin 2 (by decide)) dL_law_469 ?_
    refine lv_if_eq (tgt := 477) hx hb dL_law_470 (by decide) (fun _ => ?_) (fun z => absurd hz z)
    refine lv_iconst (v := 0) hx hb dL_law_477 (by decide) ?_
    refine kR_i (va_runV (As := [.int (xs (Int32.toNatClampNeg (x3 + 1))), .int 0]) (rest := [.int r8]) ⟨hx, hb, hml, hown, htsL⟩ (ct_X9_pay l D cy adR (va_A (wR cy adR σR) H.size) (xs (Int32.toNatClampNeg (x3 + 1))) 0 a σR ⟨hRR, Or.inl rfl⟩) (cwV 2 htsL gL_law_X9_pay rfl rfl rfl (by decide +kernel) ⟨Nat.le_of_ble_eq_true rfl, Nat.le_of_ble_eq_true rfl⟩) ⟨(fun a U g mk q => ⟨q.1, q.2.blind⟩), va_recv hK hW.2.1 (ci := 9) (q0 := 0) rfl (wR_0 cy adR σR), (fun U hU hWm => ⟨rfl, WdR.pre hW.2.1 hK hW.2.2.2.1.self hN hU hWm⟩)⟩ rfl rfl hl.1 rfl (lv_room (Nat.le_of_ble_eq_true rfl)) dL_law_478 ⟨by omega, by omega⟩) hS hW (fun r9 u9 H locs h9 hW hS => ?_)
    refine lv_icmp_eq (tgt := 1427) hx hb dL_law_481 (by decide) (fun _ => ?_) (fun z => absurd (h8.1.trans h9.1.symm) z)
    refine W.widen (k := cells + 7) (n := slots + 21) (by omega) (by omega) ?_
    exact kk _ _ _ _ _ h8.2 h9.2 hW hS
  · skip
    refine lv_iconst (v := 1) hx hb dL_law_451 (by decide) ?_
    refine lv_goto (tgt := 456) hx hb dL_law_452 (by decide) ?_
    refine kC_i (va_runV (As := [.int (xs (Int32.toNatClampNeg (x3 + 1))), .int 1]) (rest := []) ⟨hx, hb, hml, hown, htsL⟩ (ct_X8_pay l D cy adC (va_A (wC cy adC σC) H.size) (xs (Int32.toNatClampNeg (x3 + 1))) 1 a σC ⟨hRC, Or.inr rfl⟩) (cwV 2 htsL gL_law_X8_pay rfl rfl rfl (by decide +kernel) ⟨Nat.le_of_ble_eq_true rfl, Nat.le_of_ble_eq_true rfl⟩) ⟨(fun a U g mk q => ⟨q.1, q.2.blind⟩), va_recv hK hW.1 (ci := 8) (q0 := 0) rfl (wC_0 cy adC σC), (fun U hU hWm => ⟨rfl, WdC.pre hW.1 hK hW.2.2.1.self hN hU hWm⟩)⟩ rfl rfl hl.1 rfl (lv_room (Nat.le_of_ble_eq_true rfl)) dL_law_456 ⟨by omega, by omega⟩) hS hW (fun r8 u8 H locs h8 hW hS => ?_)
    refine lv_aload_n hx hb dL_law_459 rfl (lv_at hl 3 rfl) ?_
    refine lv_aload_n hx hb dL_law_460 rfl (lv_at hl 1 rfl) ?_
    refine lv_iload_n hx hb dL_law_461 rfl (lv_at hl 0 rfl) ?_
    refine lv_iconst (v := 1) hx hb dL_law_462 (by decide) ?_
    refine lv_iadd hx hb dL_law_463 ?_
    refine va_sld hx hb hX hbl hbA hS (hin 1 (by decide)) dL_law_464 ?_
    refine lv_aload_n hx hb dL_law_465 rfl (lv_at hl 1 rfl) ?_
    refine lv_iload_n hx hb dL_law_466 rfl (lv_at hl 0 rfl) ?_
    refine lv_iconst (v := 2) hx hb dL_law_467 (by decide) ?_
    refine lv_iadd hx hb dL_law_468 ?_
    refine va_sld hx hb hX hbl hbA hS (hin 2 (by decide)) dL_law_469 ?_
    refine lv_if_eq (tgt := 477) hx hb dL_law_470 (by decide) (fun z => absurd z hz) (fun _ => ?_)
    refine lv_iconst (v := 1) hx hb dL_law_473 (by decide) ?_
    refine lv_goto (tgt := 478) hx hb dL_law_474 (by decide) ?_
    refine kR_i (va_runV (As := [.int (xs (Int32.toNatClampNeg (x3 + 1))), .int 1]) (rest := [.int r8]) ⟨hx, hb, hml, hown, htsL⟩ (ct_X9_pay l D cy adR (va_A (wR cy adR σR) H.size) (xs (Int32.toNatClampNeg (x3 + 1))) 1 a σR ⟨hRR, Or.inr rfl⟩) (cwV 2 htsL gL_law_X9_pay rfl rfl rfl (by decide +kernel) ⟨Nat.le_of_ble_eq_true rfl, Nat.le_of_ble_eq_true rfl⟩) ⟨(fun a U g mk q => ⟨q.1, q.2.blind⟩), va_recv hK hW.2.1 (ci := 9) (q0 := 0) rfl (wR_0 cy adR σR), (fun U hU hWm => ⟨rfl, WdR.pre hW.2.1 hK hW.2.2.2.1.self hN hU hWm⟩)⟩ rfl rfl hl.1 rfl (lv_room (Nat.le_of_ble_eq_true rfl)) dL_law_478 ⟨by omega, by omega⟩) hS hW (fun r9 u9 H locs h9 hW hS => ?_)
    refine lv_icmp_eq (tgt := 1427) hx hb dL_law_481 (by decide) (fun _ => ?_) (fun z => absurd (h8.1.trans h9.1.symm) z)
    refine W.widen (k := cells + 7) (n := slots + 21) (by omega) (by omega) ?_
    exact kk _ _ _ _ _ h8.2 h9.2 hW hS
set_option maxHeartbeats 4000000 in
set_option maxRecDepth 100000 in
theorem law_c8 {p : Program} {e : Env} {s : State} {m : MethodId} {below : List Frame} {meth : Method} {c : Code} (l : Launch) {b L : Nat} {xs : Nat → Int32} (C0 : lw_At p s m meth c b L xs) {D : va_G} {cy : Nat → ClassId} {adC adR : Nat → Nat} (hK : va_K D vwCl (tysK cy) s) (hN : NW s) (hCA : CA2 s) {x3 : Int32} (hin : ∀ j : Nat, j < 6 → vp_in (x3 + nI j) L) {cells slots : Nat} (hcl : cells + 7 ≤ room_1.cells) (hsl : slots + 21 ≤ room_1.slots) {a : AS} {σC σR : S_} {H : Heap} {locs : List Loc} {ls : Array Slot} (hRC : RC a σC) (hRR : RR a σR) (hW : WI D cy adC adR s σC σR H) (hS : va_S (A0s s) s.heap H locs) (hl : lv_has ls 4 [(3, .int x3), (0, .ref b), (1, .ref (adC 0)), (2, .ref (adR 0))]) (kk : ∀ (a : AS) (σC σR : S_) (H : Heap) (locs : List Loc), RC a σC → RR a σR → WI D cy adC adR s σC σR H → va_S (A0s s) s.heap H locs → W p l e room_1 s m #[Value.ref b] below meth c H locs (cells + 7) (slots + 21) (lw_Z below #[Value.ref b] s) (F0 m 1427 ls [])) : W p l e room_1 s m #[Value.ref b] below meth c H locs cells slots (lw_Z below #[Value.ref b] s) (F0 m 486 ls []) := by
  obtain ⟨hx, hb, hr, hml, hown, hts, hX, hbl, hlocks, hgv⟩ := C0
  have htsL : ∀ w ∈ wsL_law, w.before #[Value.ref b] s = true := fun w h => hts w (wsL_law_in w h)
  have hbA : ¬ A0s s b := Nat.not_le.mpr hbl
  refine lv_aload_n hx hb dL_law_486 rfl (lv_at hl 2 rfl) ?_
  refine lv_aload_n hx hb dL_law_487 rfl (lv_at hl 1 rfl) ?_
  refine lv_iload_n hx hb dL_law_488 rfl (lv_at hl 0 rfl) ?_
  refine lv_iconst (v := 1) hx hb dL_law_489 (by decide) ?_
  refine lv_iadd hx hb dL_law_490 ?_
  refine va_sld hx hb hX hbl hbA hS (hin 1 (by decide)) dL_law_491 ?_
  refine lv_aload_n hx hb dL_law_492 rfl (lv_at hl 1 rfl) ?_
  refine lv_iload_n hx hb dL_law_493 rfl (lv_at hl 0 rfl) ?_
  refine lv_iconst (v := 2) hx hb dL_law_494 (by decide) ?_
  refine lv_iadd hx hb dL_law_495 ?_
  refine va_sld hx hb hX hbl hbA hS (hin 2 (by decide)) dL_law_496 ?_
  refine lv_if_eq (tgt := 504) hx hb dL_law_497 (by decide) (fun hz => ?_) (fun hz => ?_)
  · skip
    refine lv_iconst (v := 0) hx hb dL_law_504 (by decide) ?_
    refine kC_i (va_runV (As := [.int (xs (Int32.toNatClampNeg (x3 + 1))), .int 0]) (rest := []) ⟨hx, hb, hml, hown, htsL⟩ (ct_X8_parody l D cy adC (va_A (wC cy adC σC) H.size) (xs (Int32.toNatClampNeg (x3 + 1))) 0 a σC ⟨hRC, Or.inl rfl⟩) (cwV 2 htsL gL_law_X8_parody rfl rfl rfl (by decide +kernel) ⟨Nat.le_of_ble_eq_true rfl, Nat.le_of_ble_eq_true rfl⟩) ⟨(fun a U g mk q => ⟨q.1, q.2.blind⟩), va_recv hK hW.1 (ci := 8) (q0 := 0) rfl (wC_0 cy adC σC), (fun U hU hWm => ⟨rfl, WdC.pre hW.1 hK hW.2.2.1.self hN hU hWm⟩)⟩ rfl rfl hl.1 rfl (lv_room (Nat.le_of_ble_eq_true rfl)) dL_law_505 ⟨by omega, by omega⟩) hS hW (fun r8 u8 H locs h8 hW hS => ?_)
    refine lv_aload_n hx hb dL_law_508 rfl (lv_at hl 3 rfl) ?_
    refine lv_aload_n hx hb dL_law_509 rfl (lv_at hl 1 rfl) ?_
    refine lv_iload_n hx hb dL_law_510 rfl (lv_at hl 0 rfl) ?_
    refine lv_iconst (v := 1) hx hb dL_law_511 (by decide) ?_
    refine lv_iadd hx hb dL_law_512 ?_
    refine va_sld hx hb hX hbl hbA hS (hin 1 (by decide)) dL_law_513 ?_
    refine lv_aload_n hx hb dL_law_514 rfl (lv_at hl 1 rfl) ?_
    refine lv_iload_n hx hb dL_law_515 rfl (lv_at hl 0 rfl) ?_
    refine lv_iconst (v := 2) hx hb dL_law_516 (by decide) ?_
    refine lv_iadd hx hb dL_law_517 ?_
    refine va_sld hx hb hX hbl hbA hS (hin 2 (by decide)) dL_law_518 ?_
    refine lv_if_eq (tgt := 526) hx hb dL_law_519 (by decide) (fun _ => ?_) (fun z => absurd hz z)
    refine lv_iconst (v := 0) hx hb dL_law_526 (by decide) ?_
    refine kR_i (va_runV (As := [.int (xs (Int32.toNatClampNeg (x3 + 1))), .int 0]) (rest := [.int r8]) ⟨hx, hb, hml, hown, htsL⟩ (ct_X9_parody l D cy adR (va_A (wR cy adR σR) H.size) (xs (Int32.toNatClampNeg (x3 + 1))) 0 a σR ⟨hRR, Or.inl rfl⟩) (cwV 2 htsL gL_law_X9_parody rfl rfl rfl (by decide +kernel) ⟨Nat.le_of_ble_eq_true rfl, Nat.le_of_ble_eq_true rfl⟩) ⟨(fun a U g mk q => ⟨q.1, q.2.blind⟩), va_recv hK hW.2.1 (ci := 9) (q0 := 0) rfl (wR_0 cy adR σR), (fun U hU hWm => ⟨rfl, WdR.pre hW.2.1 hK hW.2.2.2.1.self hN hU hWm⟩)⟩ rfl rfl hl.1 rfl (lv_room (Nat.le_of_ble_eq_true rfl)) dL_law_527 ⟨by omega, by omega⟩) hS hW (fun r9 u9 H locs h9 hW hS => ?_)
    refine lv_icmp_eq (tgt := 1427) hx hb dL_law_530 (by decide) (fun _ => ?_) (fun z => absurd (h8.1.trans h9.1.symm) z)
    refine W.widen (k := cells + 7) (n := slots + 21) (by omega) (by omega) ?_
    exact kk _ _ _ _ _ h8.2 h9.2 hW hS
  · skip
    refine lv_iconst (v := 1) hx hb dL_law_500 (by decide) ?_
    refine lv_goto (tgt := 505) hx hb dL_law_501 (by decide) ?_
    refine kC_i (va_runV (As := [.int (xs (Int32.toNatClampNeg (x3 + 1))), .int 1]) (rest := []) ⟨hx, hb, hml, hown, htsL⟩ (ct_X8_parody l D cy adC (va_A (wC cy adC σC) H.size) (xs (Int32.toNatClampNeg (x3 + 1))) 1 a σC ⟨hRC, Or.inr rfl⟩) (cwV 2 htsL gL_law_X8_parody rfl rfl rfl (by decide +kernel) ⟨Nat.le_of_ble_eq_true rfl, Nat.le_of_ble_eq_true rfl⟩) ⟨(fun a U g mk q => ⟨q.1, q.2.blind⟩), va_recv hK hW.1 (ci := 8) (q0 := 0) rfl (wC_0 cy adC σC), (fun U hU hWm => ⟨rfl, WdC.pre hW.1 hK hW.2.2.1.self hN hU hWm⟩)⟩ rfl rfl hl.1 rfl (lv_room (Nat.le_of_ble_eq_true rfl)) dL_law_505 ⟨by omega, by omega⟩) hS hW (fun r8 u8 H locs h8 hW hS => ?_)
    refine lv_aload_n hx hb dL_law_508 rfl (lv_at hl 3 rfl) ?_
    refine lv_aload_n hx hb dL_law_509 rfl (lv_at hl 1 rfl) ?_
    refine lv_iload_n hx hb dL_law_510 rfl (lv_at hl 0 rfl) ?_
    refine lv_iconst (v := 1) hx hb dL_law_511 (by decide) ?_
    refine lv_iadd hx hb dL_law_512 ?_
    refine va_sld hx hb hX hbl hbA hS (hin 1 (by decide)) dL_law_513 ?_
    refine lv_aload_n hx hb dL_law_514 rfl (lv_at hl 1 rfl) ?_
    refine lv_iload_n hx hb dL_law_515 rfl (lv_at hl 0 rfl) ?_
    refine lv_iconst (v := 2) hx hb dL_law_516 (by decide) ?_
    refine lv_iadd hx hb dL_law_517 ?_
    refine va_sld hx hb hX hbl hbA hS (hin 2 (by decide)) dL_law_518 ?_
    refine lv_if_eq (tgt := 526) hx hb dL_law_519 (by decide) (fun z => absurd z hz) (fun _ => ?_)
    refine lv_iconst (v := 1) hx hb dL_law_522 (by decide) ?_
    refine lv_goto (tgt := 527) hx hb dL_law_523 (by decide) ?_
    refine kR_i (va_runV (As := [.int (xs (Int32.toNatClampNeg (x3 + 1))), .int 1]) (rest := [.int r8]) ⟨hx, hb, hml, hown, htsL⟩ (ct_X9_parody l D cy adR (va_A (wR cy adR σR) H.size) (xs (Int32.toNatClampNeg (x3 + 1))) 1 a σR ⟨hRR, Or.inr rfl⟩) (cwV 2 htsL gL_law_X9_parody rfl rfl rfl (by decide +kernel) ⟨Nat.le_of_ble_eq_true rfl, Nat.le_of_ble_eq_true rfl⟩) ⟨(fun a U g mk q => ⟨q.1, q.2.blind⟩), va_recv hK hW.2.1 (ci := 9) (q0 := 0) rfl (wR_0 cy adR σR), (fun U hU hWm => ⟨rfl, WdR.pre hW.2.1 hK hW.2.2.2.1.self hN hU hWm⟩)⟩ rfl rfl hl.1 rfl (lv_room (Nat.le_of_ble_eq_true rfl)) dL_law_527 ⟨by omega, by omega⟩) hS hW (fun r9 u9 H locs h9 hW hS => ?_)
    refine lv_icmp_eq (tgt := 1427) hx hb dL_law_530 (by decide) (fun _ => ?_) (fun z => absurd (h8.1.trans h9.1.symm) z)
    refine W.widen (k := cells + 7) (n := slots + 21) (by omega) (by omega) ?_
    exact kk _ _ _ _ _ h8.2 h9.2 hW hS
set_option maxHeartbeats 4000000 in
set_option maxRecDepth 100000 in
theorem law_c9 {p : Program} {e : Env} {s : State} {m : MethodId} {below : List Frame} {meth : Method} {c : Code} (l : Launch) {b L : Nat} {xs : Nat → Int32} (C0 : lw_At p s m meth c b L xs) {D : va_G} {cy : Nat → ClassId} {adC adR : Nat → Nat} (hK : va_K D vwCl (tysK cy) s) (hN : NW s) (hCA : CA2 s) {x3 : Int32} (hin : ∀ j : Nat, j < 6 → vp_in (x3 + nI j) L) {cells slots : Nat} (hcl : cells + 7 ≤ room_1.cells) (hsl : slots + 21 ≤ room_1.slots) {a : AS} {σC σR : S_} {H : Heap} {locs : List Loc} {ls : Array Slot} (hRC : RC a σC) (hRR : RR a σR) (hW : WI D cy adC adR s σC σR H) (hS : va_S (A0s s) s.heap H locs) (hl : lv_has ls 4 [(3, .int x3), (0, .ref b), (1, .ref (adC 0)), (2, .ref (adR 0))]) (kk : ∀ (a : AS) (σC σR : S_) (H : Heap) (locs : List Loc), RC a σC → RR a σR → WI D cy adC adR s σC σR H → va_S (A0s s) s.heap H locs → W p l e room_1 s m #[Value.ref b] below meth c H locs (cells + 7) (slots + 21) (lw_Z below #[Value.ref b] s) (F0 m 1427 ls [])) : W p l e room_1 s m #[Value.ref b] below meth c H locs cells slots (lw_Z below #[Value.ref b] s) (F0 m 535 ls []) := by
  obtain ⟨hx, hb, hr, hml, hown, hts, hX, hbl, hlocks, hgv⟩ := C0
  have htsL : ∀ w ∈ wsL_law, w.before #[Value.ref b] s = true := fun w h => hts w (wsL_law_in w h)
  have hbA : ¬ A0s s b := Nat.not_le.mpr hbl
  refine lv_aload_n hx hb dL_law_535 rfl (lv_at hl 2 rfl) ?_
  refine lv_aload_n hx hb dL_law_536 rfl (lv_at hl 1 rfl) ?_
  refine lv_iload_n hx hb dL_law_537 rfl (lv_at hl 0 rfl) ?_
  refine lv_iconst (v := 1) hx hb dL_law_538 (by decide) ?_
  refine lv_iadd hx hb dL_law_539 ?_
  refine va_sld hx hb hX hbl hbA hS (hin 1 (by decide)) dL_law_540 ?_
  refine lv_aload_n hx hb dL_law_541 rfl (lv_at hl 1 rfl) ?_
  refine lv_iload_n hx hb dL_law_542 rfl (lv_at hl 0 rfl) ?_
  refine lv_iconst (v := 2) hx hb dL_law_543 (by decide) ?_
  refine lv_iadd hx hb dL_law_544 ?_
  refine va_sld hx hb hX hbl hbA hS (hin 2 (by decide)) dL_law_545 ?_
  refine kC_i (va_runV (As := [.int (xs (Int32.toNatClampNeg (x3 + 1))), .int (xs (Int32.toNatClampNeg (x3 + 2)))]) (rest := []) ⟨hx, hb, hml, hown, htsL⟩ (ct_X8_remembers l D cy adC (va_A (wC cy adC σC) H.size) (xs (Int32.toNatClampNeg (x3 + 1))) (xs (Int32.toNatClampNeg (x3 + 2))) a σC hRC) (cwV 2 htsL gL_law_X8_remembers rfl rfl rfl (by decide +kernel) ⟨Nat.le_of_ble_eq_true rfl, Nat.le_of_ble_eq_true rfl⟩) ⟨(fun a U g mk q => ⟨q.1, q.2.blind⟩), va_recv hK hW.1 (ci := 8) (q0 := 0) rfl (wC_0 cy adC σC), (fun U hU hWm => ⟨rfl, WdC.pre hW.1 hK hW.2.2.1.self hN hU hWm⟩)⟩ rfl rfl hl.1 rfl (lv_room (Nat.le_of_ble_eq_true rfl)) dL_law_546 ⟨by omega, by omega⟩) hS hW (fun r8 u8 H locs h8 hW hS => ?_)
  refine lv_aload_n hx hb dL_law_549 rfl (lv_at hl 3 rfl) ?_
  refine lv_aload_n hx hb dL_law_550 rfl (lv_at hl 1 rfl) ?_
  refine lv_iload_n hx hb dL_law_551 rfl (lv_at hl 0 rfl) ?_
  refine lv_iconst (v := 1) hx hb dL_law_552 (by decide) ?_
  refine lv_iadd hx hb dL_law_553 ?_
  refine va_sld hx hb hX hbl hbA hS (hin 1 (by decide)) dL_law_554 ?_
  refine lv_aload_n hx hb dL_law_555 rfl (lv_at hl 1 rfl) ?_
  refine lv_iload_n hx hb dL_law_556 rfl (lv_at hl 0 rfl) ?_
  refine lv_iconst (v := 2) hx hb dL_law_557 (by decide) ?_
  refine lv_iadd hx hb dL_law_558 ?_
  refine va_sld hx hb hX hbl hbA hS (hin 2 (by decide)) dL_law_559 ?_
  refine kR_i (va_runV (As := [.int (xs (Int32.toNatClampNeg (x3 + 1))), .int (xs (Int32.toNatClampNeg (x3 + 2)))]) (rest := [.int r8]) ⟨hx, hb, hml, hown, htsL⟩ (ct_X9_remembers l D cy adR (va_A (wR cy adR σR) H.size) (xs (Int32.toNatClampNeg (x3 + 1))) (xs (Int32.toNatClampNeg (x3 + 2))) a σR hRR) (cwV 2 htsL gL_law_X9_remembers rfl rfl rfl (by decide +kernel) ⟨Nat.le_of_ble_eq_true rfl, Nat.le_of_ble_eq_true rfl⟩) ⟨(fun a U g mk q => ⟨q.1, q.2.blind⟩), va_recv hK hW.2.1 (ci := 9) (q0 := 0) rfl (wR_0 cy adR σR), (fun U hU hWm => ⟨rfl, WdR.pre hW.2.1 hK hW.2.2.2.1.self hN hU hWm⟩)⟩ rfl rfl hl.1 rfl (lv_room (Nat.le_of_ble_eq_true rfl)) dL_law_560 ⟨by omega, by omega⟩) hS hW (fun r9 u9 H locs h9 hW hS => ?_)
  refine lv_icmp_eq (tgt := 1427) hx hb dL_law_563 (by decide) (fun _ => ?_) (fun z => absurd (h8.1.trans h9.1.symm) z)
  refine W.widen (k := cells + 7) (n := slots + 21) (by omega) (by omega) ?_
  exact kk _ _ _ _ _ h8.2 h9.2 hW hS
set_option maxHeartbeats 4000000 in
set_option maxRecDepth 100000 in
theorem law_c10 {p : Program} {e : Env} {s : State} {m : MethodId} {below : List Frame} {meth : Method} {c : Code} (l : Launch) {b L : Nat} {xs : Nat → Int32} (C0 : lw_At p s m meth c b L xs) {D : va_G} {cy : Nat → ClassId} {adC adR : Nat → Nat} (hK : va_K D vwCl (tysK cy) s) (hN : NW s) (hCA : CA2 s) {x3 : Int32} (hin : ∀ j : Nat, j < 6 → vp_in (x3 + nI j) L) {cells slots : Nat} (hcl : cells + 7 ≤ room_1.cells) (hsl : slots + 21 ≤ room_1.slots) {a : AS} {σC σR : S_} {H : Heap} {locs : List Loc} {ls : Array Slot} (hRC : RC a σC) (hRR : RR a σR) (hW : WI D cy adC adR s σC σR H) (hS : va_S (A0s s) s.heap H locs) (hl : lv_has ls 4 [(3, .int x3), (0, .ref b), (1, .ref (adC 0)), (2, .ref (adR 0))]) (kk : ∀ (a : AS) (σC σR : S_) (H : Heap) (locs : List Loc), RC a σC → RR a σR → WI D cy adC adR s σC σR H → va_S (A0s s) s.heap H locs → W p l e room_1 s m #[Value.ref b] below meth c H locs (cells + 7) (slots + 21) (lw_Z below #[Value.ref b] s) (F0 m 1427 ls [])) : W p l e room_1 s m #[Value.ref b] below meth c H locs cells slots (lw_Z below #[Value.ref b] s) (F0 m 568 ls []) := by
  obtain ⟨hx, hb, hr, hml, hown, hts, hX, hbl, hlocks, hgv⟩ := C0
  have htsL : ∀ w ∈ wsL_law, w.before #[Value.ref b] s = true := fun w h => hts w (wsL_law_in w h)
  have hbA : ¬ A0s s b := Nat.not_le.mpr hbl
  refine lv_aload_n hx hb dL_law_568 rfl (lv_at hl 2 rfl) ?_
  refine lv_aload_n hx hb dL_law_569 rfl (lv_at hl 1 rfl) ?_
  refine lv_iload_n hx hb dL_law_570 rfl (lv_at hl 0 rfl) ?_
  refine lv_iconst (v := 1) hx hb dL_law_571 (by decide) ?_
  refine lv_iadd hx hb dL_law_572 ?_
  refine va_sld hx hb hX hbl hbA hS (hin 1 (by decide)) dL_law_573 ?_
  refine lv_aload_n hx hb dL_law_574 rfl (lv_at hl 1 rfl) ?_
  refine lv_iload_n hx hb dL_law_575 rfl (lv_at hl 0 rfl) ?_
  refine lv_iconst (v := 2) hx hb dL_law_576 (by decide) ?_
  refine lv_iadd hx hb dL_law_577 ?_
  refine va_sld hx hb hX hbl hbA hS (hin 2 (by decide)) dL_law_578 ?_
  refine kC_i (va_runV (As := [.int (xs (Int32.toNatClampNeg (x3 + 1))), .int (xs (Int32.toNatClampNeg (x3 + 2)))]) (rest := []) ⟨hx, hb, hml, hown, htsL⟩ (ct_X8_hearth l D cy adC (va_A (wC cy adC σC) H.size) (xs (Int32.toNatClampNeg (x3 + 1))) (xs (Int32.toNatClampNeg (x3 + 2))) a σC hRC) (cwV 2 htsL gL_law_X8_hearth rfl rfl rfl (by decide +kernel) ⟨Nat.le_of_ble_eq_true rfl, Nat.le_of_ble_eq_true rfl⟩) ⟨(fun a U g mk q => ⟨q.1, q.2.blind⟩), va_recv hK hW.1 (ci := 8) (q0 := 0) rfl (wC_0 cy adC σC), (fun U hU hWm => ⟨rfl, WdC.pre hW.1 hK hW.2.2.1.self hN hU hWm⟩)⟩ rfl rfl hl.1 rfl (lv_room (Nat.le_of_ble_eq_true rfl)) dL_law_579 ⟨by omega, by omega⟩) hS hW (fun r8 u8 H locs h8 hW hS => ?_)
  refine lv_aload_n hx hb dL_law_582 rfl (lv_at hl 3 rfl) ?_
  refine lv_aload_n hx hb dL_law_583 rfl (lv_at hl 1 rfl) ?_
  refine lv_iload_n hx hb dL_law_584 rfl (lv_at hl 0 rfl) ?_
  refine lv_iconst (v := 1) hx hb dL_law_585 (by decide) ?_
  refine lv_iadd hx hb dL_law_586 ?_
  refine va_sld hx hb hX hbl hbA hS (hin 1 (by decide)) dL_law_587 ?_
  refine lv_aload_n hx hb dL_law_588 rfl (lv_at hl 1 rfl) ?_
  refine lv_iload_n hx hb dL_law_589 rfl (lv_at hl 0 rfl) ?_
  refine lv_iconst (v := 2) hx hb dL_law_590 (by decide) ?_
  refine lv_iadd hx hb dL_law_591 ?_
  refine va_sld hx hb hX hbl hbA hS (hin 2 (by decide)) dL_law_592 ?_
  refine kR_i (va_runV (As := [.int (xs (Int32.toNatClampNeg (x3 + 1))), .int (xs (Int32.toNatClampNeg (x3 + 2)))]) (rest := [.int r8]) ⟨hx, hb, hml, hown, htsL⟩ (ct_X9_hearth l D cy adR (va_A (wR cy adR σR) H.size) (xs (Int32.toNatClampNeg (x3 + 1))) (xs (Int32.toNatClampNeg (x3 + 2))) a σR hRR) (cwV 2 htsL gL_law_X9_hearth rfl rfl rfl (by decide +kernel) ⟨Nat.le_of_ble_eq_true rfl, Nat.le_of_ble_eq_true rfl⟩) ⟨(fun a U g mk q => ⟨q.1, q.2.blind⟩), va_recv hK hW.2.1 (ci := 9) (q0 := 0) rfl (wR_0 cy adR σR), (fun U hU hWm => ⟨rfl, WdR.pre hW.2.1 hK hW.2.2.2.1.self hN hU hWm⟩)⟩ rfl rfl hl.1 rfl (lv_room (Nat.le_of_ble_eq_true rfl)) dL_law_593 ⟨by omega, by omega⟩) hS hW (fun r9 u9 H locs h9 hW hS => ?_)
  refine lv_icmp_eq (tgt := 1427) hx hb dL_law_596 (by decide) (fun _ => ?_) (fun z => absurd (h8.1.trans h9.1.symm) z)
  refine W.widen (k := cells + 7) (n := slots + 21) (by omega) (by omega) ?_
  exact kk _ _ _ _ _ h8.2 h9.2 hW hS
set_option maxHeartbeats 4000000 in
set_option maxRecDepth 100000 in
theorem law_c11 {p : Program} {e : Env} {s : State} {m : MethodId} {below : List Frame} {meth : Method} {c : Code} (l : Launch) {b L : Nat} {xs : Nat → Int32} (C0 : lw_At p s m meth c b L xs) {D : va_G} {cy : Nat → ClassId} {adC adR : Nat → Nat} (hK : va_K D vwCl (tysK cy) s) (hN : NW s) (hCA : CA2 s) {x3 : Int32} (hin : ∀ j : Nat, j < 6 → vp_in (x3 + nI j) L) {cells slots : Nat} (hcl : cells + 7 ≤ room_1.cells) (hsl : slots + 21 ≤ room_1.slots) {a : AS} {σC σR : S_} {H : Heap} {locs : List Loc} {ls : Array Slot} (hRC : RC a σC) (hRR : RR a σR) (hW : WI D cy adC adR s σC σR H) (hS : va_S (A0s s) s.heap H locs) (hl : lv_has ls 4 [(3, .int x3), (0, .ref b), (1, .ref (adC 0)), (2, .ref (adR 0))]) (kk : ∀ (a : AS) (σC σR : S_) (H : Heap) (locs : List Loc), RC a σC → RR a σR → WI D cy adC adR s σC σR H → va_S (A0s s) s.heap H locs → W p l e room_1 s m #[Value.ref b] below meth c H locs (cells + 7) (slots + 21) (lw_Z below #[Value.ref b] s) (F0 m 1427 ls [])) : W p l e room_1 s m #[Value.ref b] below meth c H locs cells slots (lw_Z below #[Value.ref b] s) (F0 m 601 ls []) := by
  obtain ⟨hx, hb, hr, hml, hown, hts, hX, hbl, hlocks, hgv⟩ := C0
  have htsL : ∀ w ∈ wsL_law, w.before #[Value.ref b] s = true := fun w h => hts w (wsL_law_in w h)
  have hbA : ¬ A0s s b := Nat.not_le.mpr hbl
  refine lv_aload_n hx hb dL_law_601 rfl (lv_at hl 2 rfl) ?_
  refine lv_aload_n hx hb dL_law_602 rfl (lv_at hl 1 rfl) ?_
  refine lv_iload_n hx hb dL_law_603 rfl (lv_at hl 0 rfl) ?_
  refine lv_iconst (v := 1) hx hb dL_law_604 (by decide) ?_
  refine lv_iadd hx hb dL_law_605 ?_
  refine va_sld hx hb hX hbl hbA hS (hin 1 (by decide)) dL_law_606 ?_
  refine lv_aload_n hx hb dL_law_607 rfl (lv_at hl 1 rfl) ?_
  refine lv_iload_n hx hb dL_law_608 rfl (lv_at hl 0 rfl) ?_
  refine lv_iconst (v := 2) hx hb dL_law_609 (by decide) ?_
  refine lv_iadd hx hb dL_law_610 ?_
  refine va_sld hx hb hX hbl hbA hS (hin 2 (by decide)) dL_law_611 ?_
  refine kC_i (va_runV (As := [.int (xs (Int32.toNatClampNeg (x3 + 1))), .int (xs (Int32.toNatClampNeg (x3 + 2)))]) (rest := []) ⟨hx, hb, hml, hown, htsL⟩ (ct_X8_told l D cy adC (va_A (wC cy adC σC) H.size) (xs (Int32.toNatClampNeg (x3 + 1))) (xs (Int32.toNatClampNeg (x3 + 2))) a σC hRC) (cwV 2 htsL gL_law_X8_told rfl rfl rfl (by decide +kernel) ⟨Nat.le_of_ble_eq_true rfl, Nat.le_of_ble_eq_true rfl⟩) ⟨(fun a U g mk q => ⟨q.1, q.2.blind⟩), va_recv hK hW.1 (ci := 8) (q0 := 0) rfl (wC_0 cy adC σC), (fun U hU hWm => ⟨rfl, WdC.pre hW.1 hK hW.2.2.1.self hN hU hWm⟩)⟩ rfl rfl hl.1 rfl (lv_room (Nat.le_of_ble_eq_true rfl)) dL_law_612 ⟨by omega, by omega⟩) hS hW (fun r8 u8 H locs h8 hW hS => ?_)
  refine lv_aload_n hx hb dL_law_615 rfl (lv_at hl 3 rfl) ?_
  refine lv_aload_n hx hb dL_law_616 rfl (lv_at hl 1 rfl) ?_
  refine lv_iload_n hx hb dL_law_617 rfl (lv_at hl 0 rfl) ?_
  refine lv_iconst (v := 1) hx hb dL_law_618 (by decide) ?_
  refine lv_iadd hx hb dL_law_619 ?_
  refine va_sld hx hb hX hbl hbA hS (hin 1 (by decide)) dL_law_620 ?_
  refine lv_aload_n hx hb dL_law_621 rfl (lv_at hl 1 rfl) ?_
  refine lv_iload_n hx hb dL_law_622 rfl (lv_at hl 0 rfl) ?_
  refine lv_iconst (v := 2) hx hb dL_law_623 (by decide) ?_
  refine lv_iadd hx hb dL_law_624 ?_
  refine va_sld hx hb hX hbl hbA hS (hin 2 (by decide)) dL_law_625 ?_
  refine kR_i (va_runV (As := [.int (xs (Int32.toNatClampNeg (x3 + 1))), .int (xs (Int32.toNatClampNeg (x3 + 2)))]) (rest := [.int r8]) ⟨hx, hb, hml, hown, htsL⟩ (ct_X9_told l D cy adR (va_A (wR cy adR σR) H.size) (xs (Int32.toNatClampNeg (x3 + 1))) (xs (Int32.toNatClampNeg (x3 + 2))) a σR hRR) (cwV 2 htsL gL_law_X9_told rfl rfl rfl (by decide +kernel) ⟨Nat.le_of_ble_eq_true rfl, Nat.le_of_ble_eq_true rfl⟩) ⟨(fun a U g mk q => ⟨q.1, q.2.blind⟩), va_recv hK hW.2.1 (ci := 9) (q0 := 0) rfl (wR_0 cy adR σR), (fun U hU hWm => ⟨rfl, WdR.pre hW.2.1 hK hW.2.2.2.1.self hN hU hWm⟩)⟩ rfl rfl hl.1 rfl (lv_room (Nat.le_of_ble_eq_true rfl)) dL_law_626 ⟨by omega, by omega⟩) hS hW (fun r9 u9 H locs h9 hW hS => ?_)
  refine lv_icmp_eq (tgt := 1427) hx hb dL_law_629 (by decide) (fun _ => ?_) (fun z => absurd (h8.1.trans h9.1.symm) z)
  refine W.widen (k := cells + 7) (n := slots + 21) (by omega) (by omega) ?_
  exact kk _ _ _ _ _ h8.2 h9.2 hW hS
set_option maxHeartbeats 4000000 in
set_option maxRecDepth 100000 in
theorem law_c12 {p : Program} {e : Env} {s : State} {m : MethodId} {below : List Frame} {meth : Method} {c : Code} (l : Launch) {b L : Nat} {xs : Nat → Int32} (C0 : lw_At p s m meth c b L xs) {D : va_G} {cy : Nat → ClassId} {adC adR : Nat → Nat} (hK : va_K D vwCl (tysK cy) s) (hN : NW s) (hCA : CA2 s) {x3 : Int32} (hin : ∀ j : Nat, j < 6 → vp_in (x3 + nI j) L) {cells slots : Nat} (hcl : cells + 7 ≤ room_1.cells) (hsl : slots + 21 ≤ room_1.slots) {a : AS} {σC σR : S_} {H : Heap} {locs : List Loc} {ls : Array Slot} (hRC : RC a σC) (hRR : RR a σR) (hW : WI D cy adC adR s σC σR H) (hS : va_S (A0s s) s.heap H locs) (hl : lv_has ls 4 [(3, .int x3), (0, .ref b), (1, .ref (adC 0)), (2, .ref (adR 0))]) (kk : ∀ (a : AS) (σC σR : S_) (H : Heap) (locs : List Loc), RC a σC → RR a σR → WI D cy adC adR s σC σR H → va_S (A0s s) s.heap H locs → W p l e room_1 s m #[Value.ref b] below meth c H locs (cells + 7) (slots + 21) (lw_Z below #[Value.ref b] s) (F0 m 1427 ls [])) : W p l e room_1 s m #[Value.ref b] below meth c H locs cells slots (lw_Z below #[Value.ref b] s) (F0 m 634 ls []) := by
  obtain ⟨hx, hb, hr, hml, hown, hts, hX, hbl, hlocks, hgv⟩ := C0
  have htsL : ∀ w ∈ wsL_law, w.before #[Value.ref b] s = true := fun w h => hts w (wsL_law_in w h)
  have hbA : ¬ A0s s b := Nat.not_le.mpr hbl
  refine lv_aload_n hx hb dL_law_634 rfl (lv_at hl 2 rfl) ?_
  refine lv_aload_n hx hb dL_law_635 rfl (lv_at hl 1 rfl) ?_
  refine lv_iload_n hx hb dL_law_636 rfl (lv_at hl 0 rfl) ?_
  refine lv_iconst (v := 1) hx hb dL_law_637 (by decide) ?_
  refine lv_iadd hx hb dL_law_638 ?_
  refine va_sld hx hb hX hbl hbA hS (hin 1 (by decide)) dL_law_639 ?_
  refine kC_i (va_runV (As := [.int (xs (Int32.toNatClampNeg (x3 + 1)))]) (rest := []) ⟨hx, hb, hml, hown, htsL⟩ (ct_X8_forbidden l D cy adC (va_A (wC cy adC σC) H.size) (xs (Int32.toNatClampNeg (x3 + 1))) a σC hRC) (cwV 1 htsL gL_law_X8_forbidden rfl rfl rfl (by decide +kernel) ⟨Nat.le_of_ble_eq_true rfl, Nat.le_of_ble_eq_true rfl⟩) ⟨(fun a U g mk q => ⟨q.1, q.2.blind⟩), va_recv hK hW.1 (ci := 8) (q0 := 0) rfl (wC_0 cy adC σC), (fun U hU hWm => ⟨rfl, WdC.pre hW.1 hK hW.2.2.1.self hN hU hWm⟩)⟩ rfl rfl hl.1 rfl (lv_room (Nat.le_of_ble_eq_true rfl)) dL_law_640 ⟨by omega, by omega⟩) hS hW (fun r8 u8 H locs h8 hW hS => ?_)
  refine lv_aload_n hx hb dL_law_643 rfl (lv_at hl 3 rfl) ?_
  refine lv_aload_n hx hb dL_law_644 rfl (lv_at hl 1 rfl) ?_
  refine lv_iload_n hx hb dL_law_645 rfl (lv_at hl 0 rfl) ?_
  refine lv_iconst (v := 1) hx hb dL_law_646 (by decide) ?_
  refine lv_iadd hx hb dL_law_647 ?_
  refine va_sld hx hb hX hbl hbA hS (hin 1 (by decide)) dL_law_648 ?_
  refine kR_i (va_runV (As := [.int (xs (Int32.toNatClampNeg (x3 + 1)))]) (rest := [.int r8]) ⟨hx, hb, hml, hown, htsL⟩ (ct_X9_forbidden l D cy adR (va_A (wR cy adR σR) H.size) (xs (Int32.toNatClampNeg (x3 + 1))) a σR hRR) (cwV 1 htsL gL_law_X9_forbidden rfl rfl rfl (by decide +kernel) ⟨Nat.le_of_ble_eq_true rfl, Nat.le_of_ble_eq_true rfl⟩) ⟨(fun a U g mk q => ⟨q.1, q.2.blind⟩), va_recv hK hW.2.1 (ci := 9) (q0 := 0) rfl (wR_0 cy adR σR), (fun U hU hWm => ⟨rfl, WdR.pre hW.2.1 hK hW.2.2.2.1.self hN hU hWm⟩)⟩ rfl rfl hl.1 rfl (lv_room (Nat.le_of_ble_eq_true rfl)) dL_law_649 ⟨by omega, by omega⟩) hS hW (fun r9 u9 H locs h9 hW hS => ?_)
  refine lv_icmp_eq (tgt := 1427) hx hb dL_law_652 (by decide) (fun _ => ?_) (fun z => absurd (h8.1.trans h9.1.symm) z)
  refine W.widen (k := cells + 7) (n := slots + 21) (by omega) (by omega) ?_
  exact kk _ _ _ _ _ h8.2 h9.2 hW hS
