set_option maxHeartbeats 4000000 in
set_option maxRecDepth 100000 in
theorem law_c27 {p : Program} {e : Env} {s : State} {m : MethodId} {below : List Frame} {meth : Method} {c : Code} (l : Launch) {b L : Nat} {xs : Nat → Int32} (C0 : lw_At p s m meth c b L xs) {D : va_G} {cy : Nat → ClassId} {adC adR : Nat → Nat} (hK : va_K D vwCl (tysK cy) s) (hN : NW s) (hCA : CA2 s) {x3 : Int32} (hin : ∀ j : Nat, j < 6 → vp_in (x3 + nI j) L) {cells slots : Nat} (hcl : cells + 7 ≤ room_1.cells) (hsl : slots + 21 ≤ room_1.slots) {a : AS} {σC σR : S_} {H : Heap} {locs : List Loc} {ls : Array Slot} (hRC : RC a σC) (hRR : RR a σR) (hW : WI D cy adC adR s σC σR H) (hS : va_S (A0s s) s.heap H locs) (hl : lv_has ls 4 [(3, .int x3), (0, .ref b), (1, .ref (adC 0)), (2, .ref (adR 0))]) (kk : ∀ (a : AS) (σC σR : S_) (H : Heap) (locs : List Loc), RC a σC → RR a σR → WI D cy adC adR s σC σR H → va_S (A0s s) s.heap H locs → W p l e room_1 s m #[Value.ref b] below meth c H locs (cells + 7) (slots + 21) (lw_Z below #[Value.ref b] s) (F0 m 1427 ls [])) : W p l e room_1 s m #[Value.ref b] below meth c H locs cells slots (lw_Z below #[Value.ref b] s) (F0 m 1126 ls []) := by
  obtain ⟨hx, hb, hr, hml, hown, hts, hX, hbl, hlocks, hgv⟩ := C0
  have htsL : ∀ w ∈ wsL_law, w.before #[Value.ref b] s = true := fun w h => hts w (wsL_law_in w h)
  have hbA : ¬ A0s s b := Nat.not_le.mpr hbl
  refine lv_aload_n hx hb dL_law_1126 rfl (lv_at hl 2 rfl) ?_
  refine lv_aload_n hx hb dL_law_1127 rfl (lv_at hl 1 rfl) ?_
  refine lv_iload_n hx hb dL_law_1128 rfl (lv_at hl 0 rfl) ?_
  refine lv_iconst (v := 1) hx hb dL_law_1129 (by decide) ?_
  refine lv_iadd hx hb dL_law_1130 ?_
  refine va_sld hx hb hX hbl hbA hS (hin 1 (by decide)) dL_law_1131 ?_
  refine kC_i (va_runV (As := [.int (xs (Int32.toNatClampNeg (x3 + 1)))]) (rest := []) ⟨hx, hb, hml, hown, htsL⟩ (ct_X8_lose l D cy adC (va_A (wC cy adC σC) H.size) (xs (Int32.toNatClampNeg (x3 + 1))) a σC hRC) (cwV 1 htsL gL_law_X8_lose rfl rfl rfl (by decide +kernel) ⟨Nat.le_of_ble_eq_true rfl, Nat.le_of_ble_eq_true rfl⟩) ⟨(fun a U g mk q => ⟨q.1, q.2.blind⟩), va_recv hK hW.1 (ci := 8) (q0 := 0) rfl (wC_0 cy adC σC), (fun U hU hWm => ⟨rfl, WdC.pre hW.1 hK hW.2.2.1.self hN hU hWm⟩)⟩ rfl rfl hl.1 rfl (lv_room (Nat.le_of_ble_eq_true rfl)) dL_law_1132 ⟨by omega, by omega⟩) hS hW (fun r8 u8 H locs h8 hW hS => ?_)
  refine lv_aload_n hx hb dL_law_1135 rfl (lv_at hl 3 rfl) ?_
  refine lv_aload_n hx hb dL_law_1136 rfl (lv_at hl 1 rfl) ?_
  refine lv_iload_n hx hb dL_law_1137 rfl (lv_at hl 0 rfl) ?_
  refine lv_iconst (v := 1) hx hb dL_law_1138 (by decide) ?_
  refine lv_iadd hx hb dL_law_1139 ?_
  refine va_sld hx hb hX hbl hbA hS (hin 1 (by decide)) dL_law_1140 ?_
  refine kR_i (va_runV (As := [.int (xs (Int32.toNatClampNeg (x3 + 1)))]) (rest := [.int r8]) ⟨hx, hb, hml, hown, htsL⟩ (ct_X9_lose l D cy adR (va_A (wR cy adR σR) H.size) (xs (Int32.toNatClampNeg (x3 + 1))) a σR hRR) (cwV 1 htsL gL_law_X9_lose rfl rfl rfl (by decide +kernel) ⟨Nat.le_of_ble_eq_true rfl, Nat.le_of_ble_eq_true rfl⟩) ⟨(fun a U g mk q => ⟨q.1, q.2.blind⟩), va_recv hK hW.2.1 (ci := 9) (q0 := 0) rfl (wR_0 cy adR σR), (fun U hU hWm => ⟨rfl, WdR.pre hW.2.1 hK hW.2.2.2.1.self hN hU hWm⟩)⟩ rfl rfl hl.1 rfl (lv_room (Nat.le_of_ble_eq_true rfl)) dL_law_1141 ⟨by omega, by omega⟩) hS hW (fun r9 u9 H locs h9 hW hS => ?_)
  refine lv_icmp_eq (tgt := 1427) hx hb dL_law_1144 (by decide) (fun _ => ?_) (fun z => absurd (h8.1.trans h9.1.symm) z)
  refine W.widen (k := cells + 7) (n := slots + 21) (by omega) (by omega) ?_
  exact kk _ _ _ _ _ h8.2 h9.2 hW hS
set_option maxHeartbeats 4000000 in
set_option maxRecDepth 100000 in
theorem law_c28 {p : Program} {e : Env} {s : State} {m : MethodId} {below : List Frame} {meth : Method} {c : Code} (l : Launch) {b L : Nat} {xs : Nat → Int32} (C0 : lw_At p s m meth c b L xs) {D : va_G} {cy : Nat → ClassId} {adC adR : Nat → Nat} (hK : va_K D vwCl (tysK cy) s) (hN : NW s) (hCA : CA2 s) {x3 : Int32} (hin : ∀ j : Nat, j < 6 → vp_in (x3 + nI j) L) {cells slots : Nat} (hcl : cells + 7 ≤ room_1.cells) (hsl : slots + 21 ≤ room_1.slots) {a : AS} {σC σR : S_} {H : Heap} {locs : List Loc} {ls : Array Slot} (hRC : RC a σC) (hRR : RR a σR) (hW : WI D cy adC adR s σC σR H) (hS : va_S (A0s s) s.heap H locs) (hl : lv_has ls 4 [(3, .int x3), (0, .ref b), (1, .ref (adC 0)), (2, .ref (adR 0))]) (kk : ∀ (a : AS) (σC σR : S_) (H : Heap) (locs : List Loc), RC a σC → RR a σR → WI D cy adC adR s σC σR H → va_S (A0s s) s.heap H locs → W p l e room_1 s m #[Value.ref b] below meth c H locs (cells + 7) (slots + 21) (lw_Z below #[Value.ref b] s) (F0 m 1427 ls [])) : W p l e room_1 s m #[Value.ref b] below meth c H locs cells slots (lw_Z below #[Value.ref b] s) (F0 m 1149 ls []) := by
  obtain ⟨hx, hb, hr, hml, hown, hts, hX, hbl, hlocks, hgv⟩ := C0
  have htsL : ∀ w ∈ wsL_law, w.before #[Value.ref b] s = true := fun w h => hts w (wsL_law_in w h)
  have hbA : ¬ A0s s b := Nat.not_le.mpr hbl
  refine lv_aload_n hx hb dL_law_1149 rfl (lv_at hl 2 rfl) ?_
  refine lv_aload_n hx hb dL_law_1150 rfl (lv_at hl 1 rfl) ?_
  refine lv_iload_n hx hb dL_law_1151 rfl (lv_at hl 0 rfl) ?_
  refine lv_iconst (v := 1) hx hb dL_law_1152 (by decide) ?_
  refine lv_iadd hx hb dL_law_1153 ?_
  refine va_sld hx hb hX hbl hbA hS (hin 1 (by decide)) dL_law_1154 ?_
  refine lv_aload_n hx hb dL_law_1155 rfl (lv_at hl 1 rfl) ?_
  refine lv_iload_n hx hb dL_law_1156 rfl (lv_at hl 0 rfl) ?_
  refine lv_iconst (v := 2) hx hb dL_law_1157 (by decide) ?_
  refine lv_iadd hx hb dL_law_1158 ?_
  refine va_sld hx hb hX hbl hbA hS (hin 2 (by decide)) dL_law_1159 ?_
  refine lv_aload_n hx hb dL_law_1160 rfl (lv_at hl 1 rfl) ?_
  refine lv_iload_n hx hb dL_law_1161 rfl (lv_at hl 0 rfl) ?_
  refine lv_iconst (v := 3) hx hb dL_law_1162 (by decide) ?_
  refine lv_iadd hx hb dL_law_1163 ?_
  refine va_sld hx hb hX hbl hbA hS (hin 3 (by decide)) dL_law_1164 ?_
  refine kC_i (va_runV (As := [.int (xs (Int32.toNatClampNeg (x3 + 1))), .int (xs (Int32.toNatClampNeg (x3 + 2))), .int (xs (Int32.toNatClampNeg (x3 + 3)))]) (rest := []) ⟨hx, hb, hml, hown, htsL⟩ (ct_X8_put l D cy adC (va_A (wC cy adC σC) H.size) (xs (Int32.toNatClampNeg (x3 + 1))) (xs (Int32.toNatClampNeg (x3 + 2))) (xs (Int32.toNatClampNeg (x3 + 3))) a σC hRC) (cwV 3 htsL gL_law_X8_put rfl rfl rfl (by decide +kernel) ⟨Nat.le_of_ble_eq_true rfl, Nat.le_of_ble_eq_true rfl⟩) ⟨(fun a U g mk q => ⟨q.1, q.2.blind⟩), va_recv hK hW.1 (ci := 8) (q0 := 0) rfl (wC_0 cy adC σC), (fun U hU hWm => ⟨rfl, WdC.pre hW.1 hK hW.2.2.1.self hN hU hWm⟩)⟩ rfl rfl hl.1 rfl (lv_room (Nat.le_of_ble_eq_true rfl)) dL_law_1165 ⟨by omega, by omega⟩) hS hW (fun r8 u8 H locs h8 hW hS => ?_)
  refine lv_aload_n hx hb dL_law_1168 rfl (lv_at hl 3 rfl) ?_
  refine lv_aload_n hx hb dL_law_1169 rfl (lv_at hl 1 rfl) ?_
  refine lv_iload_n hx hb dL_law_1170 rfl (lv_at hl 0 rfl) ?_
  refine lv_iconst (v := 1) hx hb dL_law_1171 (by decide) ?_
  refine lv_iadd hx hb dL_law_1172 ?_
  refine va_sld hx hb hX hbl hbA hS (hin 1 (by decide)) dL_law_1173 ?_
  refine lv_aload_n hx hb dL_law_1174 rfl (lv_at hl 1 rfl) ?_
  refine lv_iload_n hx hb dL_law_1175 rfl (lv_at hl 0 rfl) ?_
  refine lv_iconst (v := 2) hx hb dL_law_1176 (by decide) ?_
  refine lv_iadd hx hb dL_law_1177 ?_
  refine va_sld hx hb hX hbl hbA hS (hin 2 (by decide)) dL_law_1178 ?_
  refine lv_aload_n hx hb dL_law_1179 rfl (lv_at hl 1 rfl) ?_
  refine lv_iload_n hx hb dL_law_1180 rfl (lv_at hl 0 rfl) ?_
  refine lv_iconst (v := 3) hx hb dL_law_1181 (by decide) ?_
  refine lv_iadd hx hb dL_law_1182 ?_
  refine va_sld hx hb hX hbl hbA hS (hin 3 (by decide)) dL_law_1183 ?_
  refine kR_i (va_runV (As := [.int (xs (Int32.toNatClampNeg (x3 + 1))), .int (xs (Int32.toNatClampNeg (x3 + 2))), .int (xs (Int32.toNatClampNeg (x3 + 3)))]) (rest := [.int r8]) ⟨hx, hb, hml, hown, htsL⟩ (ct_X9_put l D cy adR (va_A (wR cy adR σR) H.size) (xs (Int32.toNatClampNeg (x3 + 1))) (xs (Int32.toNatClampNeg (x3 + 2))) (xs (Int32.toNatClampNeg (x3 + 3))) a σR hRR) (cwV 3 htsL gL_law_X9_put rfl rfl rfl (by decide +kernel) ⟨Nat.le_of_ble_eq_true rfl, Nat.le_of_ble_eq_true rfl⟩) ⟨(fun a U g mk q => ⟨q.1, q.2.blind⟩), va_recv hK hW.2.1 (ci := 9) (q0 := 0) rfl (wR_0 cy adR σR), (fun U hU hWm => ⟨rfl, WdR.pre hW.2.1 hK hW.2.2.2.1.self hN hU hWm⟩)⟩ rfl rfl hl.1 rfl (lv_room (Nat.le_of_ble_eq_true rfl)) dL_law_1184 ⟨by omega, by omega⟩) hS hW (fun r9 u9 H locs h9 hW hS => ?_)
  refine lv_icmp_eq (tgt := 1427) hx hb dL_law_1187 (by decide) (fun _ => ?_) (fun z => absurd (h8.1.trans h9.1.symm) z)
  refine W.widen (k := cells + 7) (n := slots + 21) (by omega) (by omega) ?_
  exact kk _ _ _ _ _ h8.2 h9.2 hW hS
set_option maxHeartbeats 4000000 in
set_option maxRecDepth 100000 in
theorem law_c29 {p : Program} {e : Env} {s : State} {m : MethodId} {below : List Frame} {meth : Method} {c : Code} (l : Launch) {b L : Nat} {xs : Nat → Int32} (C0 : lw_At p s m meth c b L xs) {D : va_G} {cy : Nat → ClassId} {adC adR : Nat → Nat} (hK : va_K D vwCl (tysK cy) s) (hN : NW s) (hCA : CA2 s) {x3 : Int32} (hin : ∀ j : Nat, j < 6 → vp_in (x3 + nI j) L) {cells slots : Nat} (hcl : cells + 7 ≤ room_1.cells) (hsl : slots + 21 ≤ room_1.slots) {a : AS} {σC σR : S_} {H : Heap} {locs : List Loc} {ls : Array Slot} (hRC : RC a σC) (hRR : RR a σR) (hW : WI D cy adC adR s σC σR H) (hS : va_S (A0s s) s.heap H locs) (hl : lv_has ls 4 [(3, .int x3), (0, .ref b), (1, .ref (adC 0)), (2, .ref (adR 0))]) (kk : ∀ (a : AS) (σC σR : S_) (H : Heap) (locs : List Loc), RC a σC → RR a σR → WI D cy adC adR s σC σR H → va_S (A0s s) s.heap H locs → W p l e room_1 s m #[Value.ref b] below meth c H locs (cells + 7) (slots + 21) (lw_Z below #[Value.ref b] s) (F0 m 1427 ls [])) : W p l e room_1 s m #[Value.ref b] below meth c H locs cells slots (lw_Z below #[Value.ref b] s) (F0 m 1192 ls []) := by
  obtain ⟨hx, hb, hr, hml, hown, hts, hX, hbl, hlocks, hgv⟩ := C0
  have htsL : ∀ w ∈ wsL_law, w.before #[Value.ref b] s = true := fun w h => hts w (wsL_law_in w h)
  have hbA : ¬ A0s s b := Nat.not_le.mpr hbl
  refine lv_aload_n hx hb dL_law_1192 rfl (lv_at hl 2 rfl) ?_
  refine lv_aload_n hx hb dL_law_1193 rfl (lv_at hl 1 rfl) ?_
  refine lv_iload_n hx hb dL_law_1194 rfl (lv_at hl 0 rfl) ?_
  refine lv_iconst (v := 1) hx hb dL_law_1195 (by decide) ?_
  refine lv_iadd hx hb dL_law_1196 ?_
  refine va_sld hx hb hX hbl hbA hS (hin 1 (by decide)) dL_law_1197 ?_
  refine lv_aload_n hx hb dL_law_1198 rfl (lv_at hl 1 rfl) ?_
  refine lv_iload_n hx hb dL_law_1199 rfl (lv_at hl 0 rfl) ?_
  refine lv_iconst (v := 2) hx hb dL_law_1200 (by decide) ?_
  refine lv_iadd hx hb dL_law_1201 ?_
  refine va_sld hx hb hX hbl hbA hS (hin 2 (by decide)) dL_law_1202 ?_
  refine lv_aload_n hx hb dL_law_1203 rfl (lv_at hl 1 rfl) ?_
  refine lv_iload_n hx hb dL_law_1204 rfl (lv_at hl 0 rfl) ?_
  refine lv_iconst (v := 3) hx hb dL_law_1205 (by decide) ?_
  refine lv_iadd hx hb dL_law_1206 ?_
  refine va_sld hx hb hX hbl hbA hS (hin 3 (by decide)) dL_law_1207 ?_
  refine kC_l (va_runV (As := [.int (xs (Int32.toNatClampNeg (x3 + 1))), .int (xs (Int32.toNatClampNeg (x3 + 2))), .int (xs (Int32.toNatClampNeg (x3 + 3)))]) (rest := []) ⟨hx, hb, hml, hown, htsL⟩ (ct_X8_cell l D cy adC (va_A (wC cy adC σC) H.size) (xs (Int32.toNatClampNeg (x3 + 1))) (xs (Int32.toNatClampNeg (x3 + 2))) (xs (Int32.toNatClampNeg (x3 + 3))) a σC hRC) (cwV 3 htsL gL_law_X8_cell rfl rfl rfl (by decide +kernel) ⟨Nat.le_of_ble_eq_true rfl, Nat.le_of_ble_eq_true rfl⟩) ⟨(fun a U g mk q => ⟨q.1, q.2.blind⟩), va_recv hK hW.1 (ci := 8) (q0 := 0) rfl (wC_0 cy adC σC), (fun U hU hWm => ⟨rfl, WdC.pre hW.1 hK hW.2.2.1.self hN hU hWm⟩)⟩ rfl rfl hl.1 rfl (lv_room (Nat.le_of_ble_eq_true rfl)) dL_law_1208 ⟨by omega, by omega⟩) hS hW (fun r8 u8 H locs h8 hW hS => ?_)
  refine lv_aload_n hx hb dL_law_1211 rfl (lv_at hl 3 rfl) ?_
  refine lv_aload_n hx hb dL_law_1212 rfl (lv_at hl 1 rfl) ?_
  refine lv_iload_n hx hb dL_law_1213 rfl (lv_at hl 0 rfl) ?_
  refine lv_iconst (v := 1) hx hb dL_law_1214 (by decide) ?_
  refine lv_iadd hx hb dL_law_1215 ?_
  refine va_sld hx hb hX hbl hbA hS (hin 1 (by decide)) dL_law_1216 ?_
  refine lv_aload_n hx hb dL_law_1217 rfl (lv_at hl 1 rfl) ?_
  refine lv_iload_n hx hb dL_law_1218 rfl (lv_at hl 0 rfl) ?_
  refine lv_iconst (v := 2) hx hb dL_law_1219 (by decide) ?_
  refine lv_iadd hx hb dL_law_1220 ?_
  refine va_sld hx hb hX hbl hbA hS (hin 2 (by decide)) dL_law_1221 ?_
  refine lv_aload_n hx hb dL_law_1222 rfl (lv_at hl 1 rfl) ?_
  refine lv_iload_n hx hb dL_law_1223 rfl (lv_at hl 0 rfl) ?_
  refine lv_iconst (v := 3) hx hb dL_law_1224 (by decide) ?_
  refine lv_iadd hx hb dL_law_1225 ?_
  refine va_sld hx hb hX hbl hbA hS (hin 3 (by decide)) dL_law_1226 ?_
  refine kR_l (va_runV (As := [.int (xs (Int32.toNatClampNeg (x3 + 1))), .int (xs (Int32.toNatClampNeg (x3 + 2))), .int (xs (Int32.toNatClampNeg (x3 + 3)))]) (rest := [.long r8]) ⟨hx, hb, hml, hown, htsL⟩ (ct_X9_cell l D cy adR (va_A (wR cy adR σR) H.size) (xs (Int32.toNatClampNeg (x3 + 1))) (xs (Int32.toNatClampNeg (x3 + 2))) (xs (Int32.toNatClampNeg (x3 + 3))) a σR hRR) (cwV 3 htsL gL_law_X9_cell rfl rfl rfl (by decide +kernel) ⟨Nat.le_of_ble_eq_true rfl, Nat.le_of_ble_eq_true rfl⟩) ⟨(fun a U g mk q => ⟨q.1, q.2.blind⟩), va_recv hK hW.2.1 (ci := 9) (q0 := 0) rfl (wR_0 cy adR σR), (fun U hU hWm => ⟨rfl, WdR.pre hW.2.1 hK hW.2.2.2.1.self hN hU hWm⟩)⟩ rfl rfl hl.1 rfl (lv_room (Nat.le_of_ble_eq_true rfl)) dL_law_1227 ⟨by omega, by omega⟩) hS hW (fun r9 u9 H locs h9 hW hS => ?_)
  refine W.lcmp hx hb dL_law_1230 ?_
  refine lv_if_eq (tgt := 1427) hx hb dL_law_1231 (by decide) (fun _ => ?_) (fun z => absurd (lg_refl (h8.1.trans h9.1.symm)) z)
  refine W.widen (k := cells + 7) (n := slots + 21) (by omega) (by omega) ?_
  exact kk _ _ _ _ _ h8.2 h9.2 hW hS
set_option maxHeartbeats 4000000 in
set_option maxRecDepth 100000 in
theorem law_c30 {p : Program} {e : Env} {s : State} {m : MethodId} {below : List Frame} {meth : Method} {c : Code} (l : Launch) {b L : Nat} {xs : Nat → Int32} (C0 : lw_At p s m meth c b L xs) {D : va_G} {cy : Nat → ClassId} {adC adR : Nat → Nat} (hK : va_K D vwCl (tysK cy) s) (hN : NW s) (hCA : CA2 s) {x3 : Int32} (hin : ∀ j : Nat, j < 6 → vp_in (x3 + nI j) L) {cells slots : Nat} (hcl : cells + 7 ≤ room_1.cells) (hsl : slots + 21 ≤ room_1.slots) {a : AS} {σC σR : S_} {H : Heap} {locs : List Loc} {ls : Array Slot} (hRC : RC a σC) (hRR : RR a σR) (hW : WI D cy adC adR s σC σR H) (hS : va_S (A0s s) s.heap H locs) (hl : lv_has ls 4 [(3, .int x3), (0, .ref b), (1, .ref (adC 0)), (2, .ref (adR 0))]) (kk : ∀ (a : AS) (σC σR : S_) (H : Heap) (locs : List Loc), RC a σC → RR a σR → WI D cy adC adR s σC σR H → va_S (A0s s) s.heap H locs → W p l e room_1 s m #[Value.ref b] below meth c H locs (cells + 7) (slots + 21) (lw_Z below #[Value.ref b] s) (F0 m 1427 ls [])) : W p l e room_1 s m #[Value.ref b] below meth c H locs cells slots (lw_Z below #[Value.ref b] s) (F0 m 1236 ls []) := by
  obtain ⟨hx, hb, hr, hml, hown, hts, hX, hbl, hlocks, hgv⟩ := C0
  have htsL : ∀ w ∈ wsL_law, w.before #[Value.ref b] s = true := fun w h => hts w (wsL_law_in w h)
  have hbA : ¬ A0s s b := Nat.not_le.mpr hbl
  refine lv_aload_n hx hb dL_law_1236 rfl (lv_at hl 2 rfl) ?_
  refine lv_aload_n hx hb dL_law_1237 rfl (lv_at hl 1 rfl) ?_
  refine lv_iload_n hx hb dL_law_1238 rfl (lv_at hl 0 rfl) ?_
  refine lv_iconst (v := 1) hx hb dL_law_1239 (by decide) ?_
  refine lv_iadd hx hb dL_law_1240 ?_
  refine va_sld hx hb hX hbl hbA hS (hin 1 (by decide)) dL_law_1241 ?_
  refine lv_aload_n hx hb dL_law_1242 rfl (lv_at hl 1 rfl) ?_
  refine lv_iload_n hx hb dL_law_1243 rfl (lv_at hl 0 rfl) ?_
  refine lv_iconst (v := 2) hx hb dL_law_1244 (by decide) ?_
  refine lv_iadd hx hb dL_law_1245 ?_
  refine va_sld hx hb hX hbl hbA hS (hin 2 (by decide)) dL_law_1246 ?_
  refine lv_aload_n hx hb dL_law_1247 rfl (lv_at hl 1 rfl) ?_
  refine lv_iload_n hx hb dL_law_1248 rfl (lv_at hl 0 rfl) ?_
  refine lv_iconst (v := 3) hx hb dL_law_1249 (by decide) ?_
  refine lv_iadd hx hb dL_law_1250 ?_
  refine va_sld hx hb hX hbl hbA hS (hin 3 (by decide)) dL_law_1251 ?_
  refine lv_aload_n hx hb dL_law_1252 rfl (lv_at hl 1 rfl) ?_
  refine lv_iload_n hx hb dL_law_1253 rfl (lv_at hl 0 rfl) ?_
  refine lv_iconst (v := 4) hx hb dL_law_1254 (by decide) ?_
  refine lv_iadd hx hb dL_law_1255 ?_
  refine va_sld hx hb hX hbl hbA hS (hin 4 (by decide)) dL_law_1256 ?_
  refine lv_aload_n hx hb dL_law_1257 rfl (lv_at hl 1 rfl) ?_
  refine lv_iload_n hx hb dL_law_1258 rfl (lv_at hl 0 rfl) ?_
  refine lv_iconst (v := 5) hx hb dL_law_1259 (by decide) ?_
  refine lv_iadd hx hb dL_law_1260 ?_
  refine va_sld hx hb hX hbl hbA hS (hin 5 (by decide)) dL_law_1261 ?_
  refine kC_i (va_runV (As := [.int (xs (Int32.toNatClampNeg (x3 + 1))), .int (xs (Int32.toNatClampNeg (x3 + 2))), .int (xs (Int32.toNatClampNeg (x3 + 3))), .int (xs (Int32.toNatClampNeg (x3 + 4))), .int (xs (Int32.toNatClampNeg (x3 + 5)))]) (rest := []) ⟨hx, hb, hml, hown, htsL⟩ (ct_X8_copy l D cy adC (va_A (wC cy adC σC) H.size) (xs (Int32.toNatClampNeg (x3 + 1))) (xs (Int32.toNatClampNeg (x3 + 2))) (xs (Int32.toNatClampNeg (x3 + 3))) (xs (Int32.toNatClampNeg (x3 + 4))) (xs (Int32.toNatClampNeg (x3 + 5))) a σC hRC) (cwV 5 htsL gL_law_X8_copy rfl rfl rfl (by decide +kernel) ⟨Nat.le_of_ble_eq_true rfl, Nat.le_of_ble_eq_true rfl⟩) ⟨(fun a U g mk q => ⟨q.1, q.2.blind⟩), va_recv hK hW.1 (ci := 8) (q0 := 0) rfl (wC_0 cy adC σC), (fun U hU hWm => ⟨rfl, WdC.pre hW.1 hK hW.2.2.1.self hN hU hWm⟩)⟩ rfl rfl hl.1 rfl (lv_room (Nat.le_of_ble_eq_true rfl)) dL_law_1262 ⟨by omega, by omega⟩) hS hW (fun r8 u8 H locs h8 hW hS => ?_)
  refine lv_aload_n hx hb dL_law_1265 rfl (lv_at hl 3 rfl) ?_
  refine lv_aload_n hx hb dL_law_1266 rfl (lv_at hl 1 rfl) ?_
  refine lv_iload_n hx hb dL_law_1267 rfl (lv_at hl 0 rfl) ?_
  refine lv_iconst (v := 1) hx hb dL_law_1268 (by decide) ?_
  refine lv_iadd hx hb dL_law_1269 ?_
  refine va_sld hx hb hX hbl hbA hS (hin 1 (by decide)) dL_law_1270 ?_
  refine lv_aload_n hx hb dL_law_1271 rfl (lv_at hl 1 rfl) ?_
  refine lv_iload_n hx hb dL_law_1272 rfl (lv_at hl 0 rfl) ?_
  refine lv_iconst (v := 2) hx hb dL_law_1273 (by decide) ?_
  refine lv_iadd hx hb dL_law_1274 ?_
  refine va_sld hx hb hX hbl hbA hS (hin 2 (by decide)) dL_law_1275 ?_
  refine lv_aload_n hx hb dL_law_1276 rfl (lv_at hl 1 rfl) ?_
  refine lv_iload_n hx hb dL_law_1277 rfl (lv_at hl 0 rfl) ?_
  refine lv_iconst (v := 3) hx hb dL_law_1278 (by decide) ?_
  refine lv_iadd hx hb dL_law_1279 ?_
  refine va_sld hx hb hX hbl hbA hS (hin 3 (by decide)) dL_law_1280 ?_
  refine lv_aload_n hx hb dL_law_1281 rfl (lv_at hl 1 rfl) ?_
  refine lv_iload_n hx hb dL_law_1282 rfl (lv_at hl 0 rfl) ?_
  refine lv_iconst (v := 4) hx hb dL_law_1283 (by decide) ?_
  refine lv_iadd hx hb dL_law_1284 ?_
  refine va_sld hx hb hX hbl hbA hS (hin 4 (by decide)) dL_law_1285 ?_
  refine lv_aload_n hx hb dL_law_1286 rfl (lv_at hl 1 rfl) ?_
  refine lv_iload_n hx hb dL_law_1287 rfl (lv_at hl 0 rfl) ?_
  refine lv_iconst (v := 5) hx hb dL_law_1288 (by decide) ?_
  refine lv_iadd hx hb dL_law_1289 ?_
  refine va_sld hx hb hX hbl hbA hS (hin 5 (by decide)) dL_law_1290 ?_
  refine kR_i (va_runV (As := [.int (xs (Int32.toNatClampNeg (x3 + 1))), .int (xs (Int32.toNatClampNeg (x3 + 2))), .int (xs (Int32.toNatClampNeg (x3 + 3))), .int (xs (Int32.toNatClampNeg (x3 + 4))), .int (xs (Int32.toNatClampNeg (x3 + 5)))]) (rest := [.int r8]) ⟨hx, hb, hml, hown, htsL⟩ (ct_X9_copy l D cy adR (va_A (wR cy adR σR) H.size) (xs (Int32.toNatClampNeg (x3 + 1))) (xs (Int32.toNatClampNeg (x3 + 2))) (xs (Int32.toNatClampNeg (x3 + 3))) (xs (Int32.toNatClampNeg (x3 + 4))) (xs (Int32.toNatClampNeg (x3 + 5))) a σR hRR) (cwV 5 htsL gL_law_X9_copy rfl rfl rfl (by decide +kernel) ⟨Nat.le_of_ble_eq_true rfl, Nat.le_of_ble_eq_true rfl⟩) ⟨(fun a U g mk q => ⟨q.1, q.2.blind⟩), va_recv hK hW.2.1 (ci := 9) (q0 := 0) rfl (wR_0 cy adR σR), (fun U hU hWm => ⟨rfl, WdR.pre hW.2.1 hK hW.2.2.2.1.self hN hU hWm⟩)⟩ rfl rfl hl.1 rfl (lv_room (Nat.le_of_ble_eq_true rfl)) dL_law_1291 ⟨by omega, by omega⟩) hS hW (fun r9 u9 H locs h9 hW hS => ?_)
  refine lv_icmp_eq (tgt := 1427) hx hb dL_law_1294 (by decide) (fun _ => ?_) (fun z => absurd (h8.1.trans h9.1.symm) z)
  refine W.widen (k := cells + 7) (n := slots + 21) (by omega) (by omega) ?_
  exact kk _ _ _ _ _ h8.2 h9.2 hW hS
set_option maxHeartbeats 4000000 in
set_option maxRecDepth 100000 in
theorem law_c31 {p : Program} {e : Env} {s : State} {m : MethodId} {below : List Frame} {meth : Method} {c : Code} (l : Launch) {b L : Nat} {xs : Nat → Int32} (C0 : lw_At p s m meth c b L xs) {D : va_G} {cy : Nat → ClassId} {adC adR : Nat → Nat} (hK : va_K D vwCl (tysK cy) s) (hN : NW s) (hCA : CA2 s) {x3 : Int32} (hin : ∀ j : Nat, j < 6 → vp_in (x3 + nI j) L) {cells slots : Nat} (hcl : cells + 7 ≤ room_1.cells) (hsl : slots + 21 ≤ room_1.slots) {a : AS} {σC σR : S_} {H : Heap} {locs : List Loc} {ls : Array Slot} (hRC : RC a σC) (hRR : RR a σR) (hW : WI D cy adC adR s σC σR H) (hS : va_S (A0s s) s.heap H locs) (hl : lv_has ls 4 [(3, .int x3), (0, .ref b), (1, .ref (adC 0)), (2, .ref (adR 0))]) (kk : ∀ (a : AS) (σC σR : S_) (H : Heap) (locs : List Loc), RC a σC → RR a σR → WI D cy adC adR s σC σR H → va_S (A0s s) s.heap H locs → W p l e room_1 s m #[Value.ref b] below meth c H locs (cells + 7) (slots + 21) (lw_Z below #[Value.ref b] s) (F0 m 1427 ls [])) : W p l e room_1 s m #[Value.ref b] below meth c H locs cells slots (lw_Z below #[Value.ref b] s) (F0 m 1299 ls []) := by
  obtain ⟨hx, hb, hr, hml, hown, hts, hX, hbl, hlocks, hgv⟩ := C0
  have htsL : ∀ w ∈ wsL_law, w.before #[Value.ref b] s = true := fun w h => hts w (wsL_law_in w h)
  have hbA : ¬ A0s s b := Nat.not_le.mpr hbl
  refine lv_aload_n hx hb dL_law_1299 rfl (lv_at hl 2 rfl) ?_
  refine lv_aload_n hx hb dL_law_1300 rfl (lv_at hl 1 rfl) ?_
  refine lv_iload_n hx hb dL_law_1301 rfl (lv_at hl 0 rfl) ?_
  refine lv_iconst (v := 1) hx hb dL_law_1302 (by decide) ?_
  refine lv_iadd hx hb dL_law_1303 ?_
  refine va_sld hx hb hX hbl hbA hS (hin 1 (by decide)) dL_law_1304 ?_
  refine kC_i (va_runV (As := [.int (xs (Int32.toNatClampNeg (x3 + 1)))]) (rest := []) ⟨hx, hb, hml, hown, htsL⟩ (ct_X8_tell l D cy adC (va_A (wC cy adC σC) H.size) (xs (Int32.toNatClampNeg (x3 + 1))) a σC hRC) (cwV 1 htsL gL_law_X8_tell rfl rfl rfl (by decide +kernel) ⟨Nat.le_of_ble_eq_true rfl, Nat.le_of_ble_eq_true rfl⟩) ⟨(fun a U g mk q => ⟨q.1, q.2.blind⟩), va_recv hK hW.1 (ci := 8) (q0 := 0) rfl (wC_0 cy adC σC), (fun U hU hWm => ⟨rfl, WdC.pre hW.1 hK hW.2.2.1.self hN hU hWm⟩)⟩ rfl rfl hl.1 rfl (lv_room (Nat.le_of_ble_eq_true rfl)) dL_law_1305 ⟨by omega, by omega⟩) hS hW (fun r8 u8 H locs h8 hW hS => ?_)
  refine lv_aload_n hx hb dL_law_1308 rfl (lv_at hl 3 rfl) ?_
  refine lv_aload_n hx hb dL_law_1309 rfl (lv_at hl 1 rfl) ?_
  refine lv_iload_n hx hb dL_law_1310 rfl (lv_at hl 0 rfl) ?_
  refine lv_iconst (v := 1) hx hb dL_law_1311 (by decide) ?_
  refine lv_iadd hx hb dL_law_1312 ?_
  refine va_sld hx hb hX hbl hbA hS (hin 1 (by decide)) dL_law_1313 ?_
  refine kR_i (va_runV (As := [.int (xs (Int32.toNatClampNeg (x3 + 1)))]) (rest := [.int r8]) ⟨hx, hb, hml, hown, htsL⟩ (ct_X9_tell l D cy adR (va_A (wR cy adR σR) H.size) (xs (Int32.toNatClampNeg (x3 + 1))) a σR hRR) (cwV 1 htsL gL_law_X9_tell rfl rfl rfl (by decide +kernel) ⟨Nat.le_of_ble_eq_true rfl, Nat.le_of_ble_eq_true rfl⟩) ⟨(fun a U g mk q => ⟨q.1, q.2.blind⟩), va_recv hK hW.2.1 (ci := 9) (q0 := 0) rfl (wR_0 cy adR σR), (fun U hU hWm => ⟨rfl, WdR.pre hW.2.1 hK hW.2.2.2.1.self hN hU hWm⟩)⟩ rfl rfl hl.1 rfl (lv_room (Nat.le_of_ble_eq_true rfl)) dL_law_1314 ⟨by omega, by omega⟩) hS hW (fun r9 u9 H locs h9 hW hS => ?_)
  refine lv_icmp_eq (tgt := 1427) hx hb dL_law_1317 (by decide) (fun _ => ?_) (fun z => absurd (h8.1.trans h9.1.symm) z)
  refine W.widen (k := cells + 7) (n := slots + 21) (by omega) (by omega) ?_
  exact kk _ _ _ _ _ h8.2 h9.2 hW hS
set_option maxHeartbeats 4000000 in
set_option maxRecDepth 100000 in
theorem law_c32 {p : Program} {e : Env} {s : State} {m : MethodId} {below : List Frame} {meth : Method} {c : Code} (l : Launch) {b L : Nat} {xs : Nat → Int32} (C0 : lw_At p s m meth c b L xs) {D : va_G} {cy : Nat → ClassId} {adC adR : Nat → Nat} (hK : va_K D vwCl (tysK cy) s) (hN : NW s) (hCA : CA2 s) {x3 : Int32} (hin : ∀ j : Nat, j < 6 → vp_in (x3 + nI j) L) {cells slots : Nat} (hcl : cells + 7 ≤ room_1.cells) (hsl : slots + 21 ≤ room_1.slots) {a : AS} {σC σR : S_} {H : Heap} {locs : List Loc} {ls : Array Slot} (hRC : RC a σC) (hRR : RR a σR) (hW : WI D cy adC adR s σC σR H) (hS : va_S (A0s s) s.heap H locs) (hl : lv_has ls 4 [(3, .int x3), (0, .ref b), (1, .ref (adC 0)), (2, .ref (adR 0))]) (kk : ∀ (a : AS) (σC σR : S_) (H : Heap) (locs : List Loc), RC a σC → RR a σR → WI D cy adC adR s σC σR H → va_S (A0s s) s.heap H locs → W p l e room_1 s m #[Value.ref b] below meth c H locs (cells + 7) (slots + 21) (lw_Z below #[Value.ref b] s) (F0 m 1427 ls [])) : W p l e room_1 s m #[Value.ref b] below meth c H locs cells slots (lw_Z below #[Value.ref b] s) (F0 m 1322 ls []) := by
  obtain ⟨hx, hb, hr, hml, hown, hts, hX, hbl, hlocks, hgv⟩ := C0
  have htsL : ∀ w ∈ wsL_law, w.before #[Value.ref b] s = true := fun w h => hts w (wsL_law_in w h)
  have hbA : ¬ A0s s b := Nat.not_le.mpr hbl
  refine lv_aload_n hx hb dL_law_1322 rfl (lv_at hl 2 rfl) ?_
  refine lv_aload_n hx hb dL_law_1323 rfl (lv_at hl 1 rfl) ?_
  refine lv_iload_n hx hb dL_law_1324 rfl (lv_at hl 0 rfl) ?_
  refine lv_iconst (v := 1) hx hb dL_law_1325 (by decide) ?_
  refine lv_iadd hx hb dL_law_1326 ?_
  refine va_sld hx hb hX hbl hbA hS (hin 1 (by decide)) dL_law_1327 ?_
  refine kC_i (va_runV (As := [.int (xs (Int32.toNatClampNeg (x3 + 1)))]) (rest := []) ⟨hx, hb, hml, hown, htsL⟩ (ct_X8_greet l D cy adC (va_A (wC cy adC σC) H.size) (xs (Int32.toNatClampNeg (x3 + 1))) a σC hRC) (cwV 1 htsL gL_law_X8_greet rfl rfl rfl (by decide +kernel) ⟨Nat.le_of_ble_eq_true rfl, Nat.le_of_ble_eq_true rfl⟩) ⟨(fun a U g mk q => ⟨q.1, q.2.blind⟩), va_recv hK hW.1 (ci := 8) (q0 := 0) rfl (wC_0 cy adC σC), (fun U hU hWm => ⟨rfl, WdC.pre hW.1 hK hW.2.2.1.self hN hU hWm⟩)⟩ rfl rfl hl.1 rfl (lv_room (Nat.le_of_ble_eq_true rfl)) dL_law_1328 ⟨by omega, by omega⟩) hS hW (fun r8 u8 H locs h8 hW hS => ?_)
  refine lv_aload_n hx hb dL_law_1331 rfl (lv_at hl 3 rfl) ?_
  refine lv_aload_n hx hb dL_law_1332 rfl (lv_at hl 1 rfl) ?_
  refine lv_iload_n hx hb dL_law_1333 rfl (lv_at hl 0 rfl) ?_
  refine lv_iconst (v := 1) hx hb dL_law_1334 (by decide) ?_
  refine lv_iadd hx hb dL_law_1335 ?_
  refine va_sld hx hb hX hbl hbA hS (hin 1 (by decide)) dL_law_1336 ?_
  refine kR_i (va_runV (As := [.int (xs (Int32.toNatClampNeg (x3 + 1)))]) (rest := [.int r8]) ⟨hx, hb, hml, hown, htsL⟩ (ct_X9_greet l D cy adR (va_A (wR cy adR σR) H.size) (xs (Int32.toNatClampNeg (x3 + 1))) a σR hRR) (cwV 1 htsL gL_law_X9_greet rfl rfl rfl (by decide +kernel) ⟨Nat.le_of_ble_eq_true rfl, Nat.le_of_ble_eq_true rfl⟩) ⟨(fun a U g mk q => ⟨q.1, q.2.blind⟩), va_recv hK hW.2.1 (ci := 9) (q0 := 0) rfl (wR_0 cy adR σR), (fun U hU hWm => ⟨rfl, WdR.pre hW.2.1 hK hW.2.2.2.1.self hN hU hWm⟩)⟩ rfl rfl hl.1 rfl (lv_room (Nat.le_of_ble_eq_true rfl)) dL_law_1337 ⟨by omega, by omega⟩) hS hW (fun r9 u9 H locs h9 hW hS => ?_)
  refine lv_icmp_eq (tgt := 1427) hx hb dL_law_1340 (by decide) (fun _ => ?_) (fun z => absurd (h8.1.trans h9.1.symm) z)
  refine W.widen (k := cells + 7) (n := slots + 21) (by omega) (by omega) ?_
  exact kk _ _ _ _ _ h8.2 h9.2 hW hS
set_option maxHeartbeats 4000000 in
set_option maxRecDepth 100000 in
theorem law_c33 {p : Program} {e : Env} {s : State} {m : MethodId} {below : List Frame} {meth : Method} {c : Code} (l : Launch) {b L : Nat} {xs : Nat → Int32} (C0 : lw_At p s m meth c b L xs) {D : va_G} {cy : Nat → ClassId} {adC adR : Nat → Nat} (hK : va_K D vwCl (tysK cy) s) (hN : NW s) (hCA : CA2 s) {x3 : Int32} (hin : ∀ j : Nat, j < 6 → vp_in (x3 + nI j) L) {cells slots : Nat} (hcl : cells + 7 ≤ room_1.cells) (hsl : slots + 21 ≤ room_1.slots) {a : AS} {σC σR : S_} {H : Heap} {locs : List Loc} {ls : Array Slot} (hRC : RC a σC) (hRR : RR a σR) (hW : WI D cy adC adR s σC σR H) (hS : va_S (A0s s) s.heap H locs) (hl : lv_has ls 4 [(3, .int x3), (0, .ref b), (1, .ref (adC 0)), (2, .ref (adR 0))]) (kk : ∀ (a : AS) (σC σR : S_) (H : Heap) (locs : List Loc), RC a σC → RR a σR → WI D cy adC adR s σC σR H → va_S (A0s s) s.heap H locs → W p l e room_1 s m #[Value.ref b] below meth c H locs (cells + 7) (slots + 21) (lw_Z below #[Value.ref b] s) (F0 m 1427 ls [])) : W p l e room_1 s m #[Value.ref b] below meth c H locs cells slots (lw_Z below #[Value.ref b] s) (F0 m 1345 ls []) := by
  obtain ⟨hx, hb, hr, hml, hown, hts, hX, hbl, hlocks, hgv⟩ := C0
  have htsL : ∀ w ∈ wsL_law, w.before #[Value.ref b] s = true := fun w h => hts w (wsL_law_in w h)
  have hbA : ¬ A0s s b := Nat.not_le.mpr hbl
  refine lv_aload_n hx hb dL_law_1345 rfl (lv_at hl 2 rfl) ?_
  refine lv_aload_n hx hb dL_law_1346 rfl (lv_at hl 1 rfl) ?_
  refine lv_iload_n hx hb dL_law_1347 rfl (lv_at hl 0 rfl) ?_
  refine lv_iconst (v := 1) hx hb dL_law_1348 (by decide) ?_
  refine lv_iadd hx hb dL_law_1349 ?_
  refine va_sld hx hb hX hbl hbA hS (hin 1 (by decide)) dL_law_1350 ?_
  refine lv_aload_n hx hb dL_law_1351 rfl (lv_at hl 1 rfl) ?_
  refine lv_iload_n hx hb dL_law_1352 rfl (lv_at hl 0 rfl) ?_
  refine lv_iconst (v := 2) hx hb dL_law_1353 (by decide) ?_
  refine lv_iadd hx hb dL_law_1354 ?_
  refine va_sld hx hb hX hbl hbA hS (hin 2 (by decide)) dL_law_1355 ?_
  refine kC_i (va_runV (As := [.int (xs (Int32.toNatClampNeg (x3 + 1))), .int (xs (Int32.toNatClampNeg (x3 + 2)))]) (rest := []) ⟨hx, hb, hml, hown, htsL⟩ (ct_X8_as l D cy adC (va_A (wC cy adC σC) H.size) (xs (Int32.toNatClampNeg (x3 + 1))) (xs (Int32.toNatClampNeg (x3 + 2))) a σC hRC) (cwV 2 htsL gL_law_X8_as rfl rfl rfl (by decide +kernel) ⟨Nat.le_of_ble_eq_true rfl, Nat.le_of_ble_eq_true rfl⟩) ⟨(fun a U g mk q => ⟨q.1, q.2.blind⟩), va_recv hK hW.1 (ci := 8) (q0 := 0) rfl (wC_0 cy adC σC), (fun U hU hWm => ⟨rfl, WdC.pre hW.1 hK hW.2.2.1.self hN hU hWm⟩)⟩ rfl rfl hl.1 rfl (lv_room (Nat.le_of_ble_eq_true rfl)) dL_law_1356 ⟨by omega, by omega⟩) hS hW (fun r8 u8 H locs h8 hW hS => ?_)
  refine lv_aload_n hx hb dL_law_1359 rfl (lv_at hl 3 rfl) ?_
  refine lv_aload_n hx hb dL_law_1360 rfl (lv_at hl 1 rfl) ?_
  refine lv_iload_n hx hb dL_law_1361 rfl (lv_at hl 0 rfl) ?_
  refine lv_iconst (v := 1) hx hb dL_law_1362 (by decide) ?_
  refine lv_iadd hx hb dL_law_1363 ?_
  refine va_sld hx hb hX hbl hbA hS (hin 1 (by decide)) dL_law_1364 ?_
  refine lv_aload_n hx hb dL_law_1365 rfl (lv_at hl 1 rfl) ?_
  refine lv_iload_n hx hb dL_law_1366 rfl (lv_at hl 0 rfl) ?_
  refine lv_iconst (v := 2) hx hb dL_law_1367 (by decide) ?_
  refine lv_iadd hx hb dL_law_1368 ?_
  refine va_sld hx hb hX hbl hbA hS (hin 2 (by decide)) dL_law_1369 ?_
  refine kR_i (va_runV (As := [.int (xs (Int32.toNatClampNeg (x3 + 1))), .int (xs (Int32.toNatClampNeg (x3 + 2)))]) (rest := [.int r8]) ⟨hx, hb, hml, hown, htsL⟩ (ct_X9_as l D cy adR (va_A (wR cy adR σR) H.size) (xs (Int32.toNatClampNeg (x3 + 1))) (xs (Int32.toNatClampNeg (x3 + 2))) a σR hRR) (cwV 2 htsL gL_law_X9_as rfl rfl rfl (by decide +kernel) ⟨Nat.le_of_ble_eq_true rfl, Nat.le_of_ble_eq_true rfl⟩) ⟨(fun a U g mk q => ⟨q.1, q.2.blind⟩), va_recv hK hW.2.1 (ci := 9) (q0 := 0) rfl (wR_0 cy adR σR), (fun U hU hWm => ⟨rfl, WdR.pre hW.2.1 hK hW.2.2.2.1.self hN hU hWm⟩)⟩ rfl rfl hl.1 rfl (lv_room (Nat.le_of_ble_eq_true rfl)) dL_law_1370 ⟨by omega, by omega⟩) hS hW (fun r9 u9 H locs h9 hW hS => ?_)
  refine lv_icmp_eq (tgt := 1427) hx hb dL_law_1373 (by decide) (fun _ => ?_) (fun z => absurd (h8.1.trans h9.1.symm) z)
  refine W.widen (k := cells + 7) (n := slots + 21) (by omega) (by omega) ?_
  exact kk _ _ _ _ _ h8.2 h9.2 hW hS
set_option maxHeartbeats 4000000 in
set_option maxRecDepth 100000 in
theorem law_c34 {p : Program} {e : Env} {s : State} {m : MethodId} {below : List Frame} {meth : Method} {c : Code} (l : Launch) {b L : Nat} {xs : Nat → Int32} (C0 : lw_At p s m meth c b L xs) {D : va_G} {cy : Nat → ClassId} {adC adR : Nat → Nat} (hK : va_K D vwCl (tysK cy) s) (hN : NW s) (hCA : CA2 s) {x3 : Int32} (hin : ∀ j : Nat, j < 6 → vp_in (x3 + nI j) L) {cells slots : Nat} (hcl : cells + 7 ≤ room_1.cells) (hsl : slots + 21 ≤ room_1.slots) {a : AS} {σC σR : S_} {H : Heap} {locs : List Loc} {ls : Array Slot} (hRC : RC a σC) (hRR : RR a σR) (hW : WI D cy adC adR s σC σR H) (hS : va_S (A0s s) s.heap H locs) (hl : lv_has ls 4 [(3, .int x3), (0, .ref b), (1, .ref (adC 0)), (2, .ref (adR 0))]) (kk : ∀ (a : AS) (σC σR : S_) (H : Heap) (locs : List Loc), RC a σC → RR a σR → WI D cy adC adR s σC σR H → va_S (A0s s) s.heap H locs → W p l e room_1 s m #[Value.ref b] below meth c H locs (cells + 7) (slots + 21) (lw_Z below #[Value.ref b] s) (F0 m 1427 ls [])) : W p l e room_1 s m #[Value.ref b] below meth c H locs cells slots (lw_Z below #[Value.ref b] s) (F0 m 1378 ls []) := by
  obtain ⟨hx, hb, hr, hml, hown, hts, hX, hbl, hlocks, hgv⟩ := C0
  have htsL : ∀ w ∈ wsL_law, w.before #[Value.ref b] s = true := fun w h => hts w (wsL_law_in w h)
  have hbA : ¬ A0s s b := Nat.not_le.mpr hbl
  refine lv_aload_n hx hb dL_law_1378 rfl (lv_at hl 2 rfl) ?_
  refine kC_i (va_runV (As := []) (rest := []) ⟨hx, hb, hml, hown, htsL⟩ (ct_X8_trace l D cy adC (va_A (wC cy adC σC) H.size) a σC hRC) (cwV 0 htsL gL_law_X8_trace rfl rfl rfl (by decide +kernel) ⟨Nat.le_of_ble_eq_true rfl, Nat.le_of_ble_eq_true rfl⟩) ⟨(fun a U g mk q => ⟨q.1, q.2.blind⟩), va_recv hK hW.1 (ci := 8) (q0 := 0) rfl (wC_0 cy adC σC), (fun U hU hWm => ⟨rfl, WdC.pre hW.1 hK hW.2.2.1.self hN hU hWm⟩)⟩ rfl rfl hl.1 rfl (lv_room (Nat.le_of_ble_eq_true rfl)) dL_law_1379 ⟨by omega, by omega⟩) hS hW (fun r8 u8 H locs h8 hW hS => ?_)
  refine lv_aload_n hx hb dL_law_1382 rfl (lv_at hl 3 rfl) ?_
  refine kR_i (va_runV (As := []) (rest := [.int r8]) ⟨hx, hb, hml, hown, htsL⟩ (ct_X9_trace l D cy adR (va_A (wR cy adR σR) H.size) a σR hRR) (cwV 0 htsL gL_law_X9_trace rfl rfl rfl (by decide +kernel) ⟨Nat.le_of_ble_eq_true rfl, Nat.le_of_ble_eq_true rfl⟩) ⟨(fun a U g mk q => ⟨q.1, q.2.blind⟩), va_recv hK hW.2.1 (ci := 9) (q0 := 0) rfl (wR_0 cy adR σR), (fun U hU hWm => ⟨rfl, WdR.pre hW.2.1 hK hW.2.2.2.1.self hN hU hWm⟩)⟩ rfl rfl hl.1 rfl (lv_room (Nat.le_of_ble_eq_true rfl)) dL_law_1383 ⟨by omega, by omega⟩) hS hW (fun r9 u9 H locs h9 hW hS => ?_)
  refine lv_icmp_eq (tgt := 1427) hx hb dL_law_1386 (by decide) (fun _ => ?_) (fun z => absurd (h8.1.trans h9.1.symm) z)
  refine W.widen (k := cells + 7) (n := slots + 21) (by omega) (by omega) ?_
  exact kk _ _ _ _ _ h8.2 h9.2 hW hS
set_option maxHeartbeats 4000000 in
set_option maxRecDepth 100000 in
theorem law_c35 {p : Program} {e : Env} {s : State} {m : MethodId} {below : List Frame} {meth : Method} {c : Code} (l : Launch) {b L : Nat} {xs : Nat → Int32} (C0 : lw_At p s m meth c b L xs) {D : va_G} {cy : Nat → ClassId} {adC adR : Nat → Nat} (hK : va_K D vwCl (tysK cy) s) (hN : NW s) (hCA : CA2 s) {x3 : Int32} (hin : ∀ j : Nat, j < 6 → vp_in (x3 + nI j) L) {cells slots : Nat} (hcl : cells + 7 ≤ room_1.cells) (hsl : slots + 21 ≤ room_1.slots) {a : AS} {σC σR : S_} {H : Heap} {locs : List Loc} {ls : Array Slot} (hRC : RC a σC) (hRR : RR a σR) (hW : WI D cy adC adR s σC σR H) (hS : va_S (A0s s) s.heap H locs) (hl : lv_has ls 4 [(3, .int x3), (0, .ref b), (1, .ref (adC 0)), (2, .ref (adR 0))]) (kk : ∀ (a : AS) (σC σR : S_) (H : Heap) (locs : List Loc), RC a σC → RR a σR → WI D cy adC adR s σC σR H → va_S (A0s s) s.heap H locs → W p l e room_1 s m #[Value.ref b] below meth c H locs (cells + 7) (slots + 21) (lw_Z below #[Value.ref b] s) (F0 m 1427 ls [])) : W p l e room_1 s m #[Value.ref b] below meth c H locs cells slots (lw_Z below #[Value.ref b] s) (F0 m 1391 ls []) := by
  obtain ⟨hx, hb, hr, hml, hown, hts, hX, hbl, hlocks, hgv⟩ := C0
  have htsL : ∀ w ∈ wsL_law, w.before #[Value.ref b] s = true := fun w h => hts w (wsL_law_in w h)
  have hbA : ¬ A0s s b := Nat.not_le.mpr hbl
  refine lv_aload_n hx hb dL_law_1391 rfl (lv_at hl 2 rfl) ?_
  refine kC_i (va_runV (As := []) (rest := []) ⟨hx, hb, hml, hown, htsL⟩ (ct_X8_fault l D cy adC (va_A (wC cy adC σC) H.size) a σC hRC) (cwV 0 htsL gL_law_X8_fault rfl rfl rfl (by decide +kernel) ⟨Nat.le_of_ble_eq_true rfl, Nat.le_of_ble_eq_true rfl⟩) ⟨(fun a U g mk q => ⟨q.1, q.2.blind⟩), va_recv hK hW.1 (ci := 8) (q0 := 0) rfl (wC_0 cy adC σC), (fun U hU hWm => ⟨rfl, WdC.pre hW.1 hK hW.2.2.1.self hN hU hWm⟩)⟩ rfl rfl hl.1 rfl (lv_room (Nat.le_of_ble_eq_true rfl)) dL_law_1392 ⟨by omega, by omega⟩) hS hW (fun r8 u8 H locs h8 hW hS => ?_)
  refine lv_aload_n hx hb dL_law_1395 rfl (lv_at hl 3 rfl) ?_
  refine kR_i (va_runV (As := []) (rest := [.int r8]) ⟨hx, hb, hml, hown, htsL⟩ (ct_X9_fault l D cy adR (va_A (wR cy adR σR) H.size) a σR hRR) (cwV 0 htsL gL_law_X9_fault rfl rfl rfl (by decide +kernel) ⟨Nat.le_of_ble_eq_true rfl, Nat.le_of_ble_eq_true rfl⟩) ⟨(fun a U g mk q => ⟨q.1, q.2.blind⟩), va_recv hK hW.2.1 (ci := 9) (q0 := 0) rfl (wR_0 cy adR σR), (fun U hU hWm => ⟨rfl, WdR.pre hW.2.1 hK hW.2.2.2.1.self hN hU hWm⟩)⟩ rfl rfl hl.1 rfl (lv_room (Nat.le_of_ble_eq_true rfl)) dL_law_1396 ⟨by omega, by omega⟩) hS hW (fun r9 u9 H locs h9 hW hS => ?_)
  refine lv_icmp_eq (tgt := 1427) hx hb dL_law_1399 (by decide) (fun _ => ?_) (fun z => absurd (h8.1.trans h9.1.symm) z)
  refine W.widen (k := cells + 7) (n := slots + 21) (by omega) (by omega) ?_
  exact kk _ _ _ _ _ h8.2 h9.2 hW hS
set_option maxHeartbeats 4000000 in
set_option maxRecDepth 100000 in
theorem law_c36 {p : Program} {e : Env} {s : State} {m : MethodId} {below : List Frame} {meth : Method} {c : Code} (l : Launch) {b L : Nat} {xs : Nat → Int32} (C0 : lw_At p s m meth c b L xs) {D : va_G} {cy : Nat → ClassId} {adC adR : Nat → Nat} (hK : va_K D vwCl (tysK cy) s) (hN : NW s) (hCA : CA2 s) {x3 : Int32} (hin : ∀ j : Nat, j < 6 → vp_in (x3 + nI j) L) {cells slots : Nat} (hcl : cells + 7 ≤ room_1.cells) (hsl : slots + 21 ≤ room_1.slots) {a : AS} {σC σR : S_} {H : Heap} {locs : List Loc} {ls : Array Slot} (hRC : RC a σC) (hRR : RR a σR) (hW : WI D cy adC adR s σC σR H) (hS : va_S (A0s s) s.heap H locs) (hl : lv_has ls 4 [(3, .int x3), (0, .ref b), (1, .ref (adC 0)), (2, .ref (adR 0))]) (kk : ∀ (a : AS) (σC σR : S_) (H : Heap) (locs : List Loc), RC a σC → RR a σR → WI D cy adC adR s σC σR H → va_S (A0s s) s.heap H locs → W p l e room_1 s m #[Value.ref b] below meth c H locs (cells + 7) (slots + 21) (lw_Z below #[Value.ref b] s) (F0 m 1427 ls [])) : W p l e room_1 s m #[Value.ref b] below meth c H locs cells slots (lw_Z below #[Value.ref b] s) (F0 m 1404 ls []) := by
  obtain ⟨hx, hb, hr, hml, hown, hts, hX, hbl, hlocks, hgv⟩ := C0
  have htsL : ∀ w ∈ wsL_law, w.before #[Value.ref b] s = true := fun w h => hts w (wsL_law_in w h)
  have hbA : ¬ A0s s b := Nat.not_le.mpr hbl
  refine lv_aload_n hx hb dL_law_1404 rfl (lv_at hl 2 rfl) ?_
  refine lv_aload_n hx hb dL_law_1405 rfl (lv_at hl 1 rfl) ?_
  refine lv_iload_n hx hb dL_law_1406 rfl (lv_at hl 0 rfl) ?_
  refine lv_iconst (v := 1) hx hb dL_law_1407 (by decide) ?_
  refine lv_iadd hx hb dL_law_1408 ?_
  refine va_sld hx hb hX hbl hbA hS (hin 1 (by decide)) dL_law_1409 ?_
  refine kC_i (va_runV (As := [.int (xs (Int32.toNatClampNeg (x3 + 1)))]) (rest := []) ⟨hx, hb, hml, hown, htsL⟩ (ct_X8_many l D cy adC (va_A (wC cy adC σC) H.size) (xs (Int32.toNatClampNeg (x3 + 1))) a σC hRC) (cwV 1 htsL gL_law_X8_many rfl rfl rfl (by decide +kernel) ⟨Nat.le_of_ble_eq_true rfl, Nat.le_of_ble_eq_true rfl⟩) ⟨(fun a U g mk q => ⟨q.1, q.2.blind⟩), va_recv hK hW.1 (ci := 8) (q0 := 0) rfl (wC_0 cy adC σC), (fun U hU hWm => ⟨rfl, WdC.pre hW.1 hK hW.2.2.1.self hN hU hWm⟩)⟩ rfl rfl hl.1 rfl (lv_room (Nat.le_of_ble_eq_true rfl)) dL_law_1410 ⟨by omega, by omega⟩) hS hW (fun r8 u8 H locs h8 hW hS => ?_)
  refine lv_aload_n hx hb dL_law_1413 rfl (lv_at hl 3 rfl) ?_
  refine lv_aload_n hx hb dL_law_1414 rfl (lv_at hl 1 rfl) ?_
  refine lv_iload_n hx hb dL_law_1415 rfl (lv_at hl 0 rfl) ?_
  refine lv_iconst (v := 1) hx hb dL_law_1416 (by decide) ?_
  refine lv_iadd hx hb dL_law_1417 ?_
  refine va_sld hx hb hX hbl hbA hS (hin 1 (by decide)) dL_law_1418 ?_
  refine kR_i (va_runV (As := [.int (xs (Int32.toNatClampNeg (x3 + 1)))]) (rest := [.int r8]) ⟨hx, hb, hml, hown, htsL⟩ (ct_X9_many l D cy adR (va_A (wR cy adR σR) H.size) (xs (Int32.toNatClampNeg (x3 + 1))) a σR hRR) (cwV 1 htsL gL_law_X9_many rfl rfl rfl (by decide +kernel) ⟨Nat.le_of_ble_eq_true rfl, Nat.le_of_ble_eq_true rfl⟩) ⟨(fun a U g mk q => ⟨q.1, q.2.blind⟩), va_recv hK hW.2.1 (ci := 9) (q0 := 0) rfl (wR_0 cy adR σR), (fun U hU hWm => ⟨rfl, WdR.pre hW.2.1 hK hW.2.2.2.1.self hN hU hWm⟩)⟩ rfl rfl hl.1 rfl (lv_room (Nat.le_of_ble_eq_true rfl)) dL_law_1419 ⟨by omega, by omega⟩) hS hW (fun r9 u9 H locs h9 hW hS => ?_)
  refine lv_icmp_eq (tgt := 1427) hx hb dL_law_1422 (by decide) (fun _ => ?_) (fun z => absurd (h8.1.trans h9.1.symm) z)
  refine W.widen (k := cells + 7) (n := slots + 21) (by omega) (by omega) ?_
  exact kk _ _ _ _ _ h8.2 h9.2 hW hS
