set_option maxHeartbeats 4000000 in
set_option maxRecDepth 100000 in
theorem law_step {p : Program} {e : Env} {s : State} {m : MethodId} {below : List Frame} {meth : Method} {c : Code} (l : Launch) {b L : Nat} {xs : Nat → Int32} (hL : L ≤ 384) (C0 : lw_At p s m meth c b L xs) {D : va_G} {cy : Nat → ClassId} {adC adR : Nat → Nat} (hK : va_K D vwCl (tysK cy) s) (hN : NW s) (hCA : CA2 s) {k : Nat} (hk : k ≤ 64) (ih : 6 * k + 6 ≤ L → ∀ (a : AS) (σC σR : S_) (H : Heap) (locs : List Loc) (ls : Array Slot), RC a σC → RR a σR → WI D cy adC adR s σC σR H → va_S (A0s s) s.heap H locs → lv_has ls 4 [(3, .int (nI (6 * (k + 1)))), (0, .ref b), (1, .ref (adC 0)), (2, .ref (adR 0))] → W p l e room_1 s m #[Value.ref b] below meth c H locs (56 + 7 * (k + 1)) (1022 + 21 * (k + 1)) (lw_Z below #[Value.ref b] s) (F0 m 18 ls [])) : ∀ (a : AS) (σC σR : S_) (H : Heap) (locs : List Loc) (ls : Array Slot), RC a σC → RR a σR → WI D cy adC adR s σC σR H → va_S (A0s s) s.heap H locs → lv_has ls 4 [(3, .int (nI (6 * k))), (0, .ref b), (1, .ref (adC 0)), (2, .ref (adR 0))] → W p l e room_1 s m #[Value.ref b] below meth c H locs (56 + 7 * k) (1022 + 21 * k) (lw_Z below #[Value.ref b] s) (F0 m 18 ls []) := by
  intro a σC σR H locs ls hRC hRR hW hS hl
  obtain ⟨hx, hb, hr, hml, hown, hts, hX, hbl, hlocks, hgv⟩ := id C0
  have hbA : ¬ A0s s b := Nat.not_le.mpr hbl
  refine lv_iload_n hx hb dL_law_18 rfl (lv_at hl 0 rfl) ?_
  refine lv_aload_n hx hb dL_law_19 rfl (lv_at hl 1 rfl) ?_
  refine va_slen hx hb hX hbl hbA hS dL_law_20 ?_
  refine lv_bipush (v := 6) hx hb dL_law_21 (by decide) ?_
  refine lv_isub hx hb dL_law_23 ?_
  refine lv_icmp_gt (tgt := 1433) hx hb dL_law_24 (by decide) (fun _ => ?_) (fun z => ?_)
  · refine lv_iconst (v := 1) hx hb dL_law_1433 (by decide) ?_
    refine va_forget (fun q hq => hS.2.2 q hq) ?_
    refine W.widen (k := 600000) (n := 7302250) (by omega) (by omega) ?_
    exact lw_ret hx hb hr hlocks dL_law_1434
  · have hlt : 6 * k + 6 ≤ L := by
      rcases Nat.lt_or_ge L (6 * k + 6) with q | q
      · refine absurd ?_ z
        rw [Int32.lt_iff_toInt_lt]
        have e1 : (Int32.ofNat L - 6).toInt = (L : Int) - 6 := pk_sub_toInt (a := L) (b := 6) (by omega) (by decide)
        have e2 : (nI (6 * k)).toInt = ((6 * k : Nat) : Int) := nI_toInt (by omega)
        rw [e1, e2]
        omega
      · exact q
    refine law_body l C0 hK hN hCA (fun j hj => ?_) (show 56 + 7 * k + 7 ≤ 600000 by omega) (show 1022 + 21 * k + 21 ≤ 7302250 by omega) hRC hRR hW hS hl (fun a σC σR H locs h1 h2 hW hS => ?_)
    · rw [nI_add]
      exact vp_in_nI (by omega) (by omega)
    · refine lv_iinc (v := nI (6 * (k + 1))) (lv' := [(3, .int (nI (6 * (k + 1)))), (0, .ref b), (1, .ref (adC 0)), (2, .ref (adR 0))]) hx hb dL_law_1427 hl (k := 0) rfl (by rw [show 6 * (k + 1) = 6 * k + 6 from by omega, ← nI_add]; rfl) (by decide) rfl (fun ls hl => ?_)
      refine lv_goto (tgt := 18) hx hb dL_law_1430 (by decide) ?_
      refine W.widen (k := 56 + 7 * (k + 1)) (n := 1022 + 21 * (k + 1)) (by omega) (by omega) ?_
      exact ih hlt _ _ _ _ _ _ h1 h2 hW hS hl
theorem law_loop {p : Program} {e : Env} {s : State} {m : MethodId} {below : List Frame} {meth : Method} {c : Code} (l : Launch) {b L : Nat} {xs : Nat → Int32} (hL : L ≤ 384) (C0 : lw_At p s m meth c b L xs) {D : va_G} {cy : Nat → ClassId} {adC adR : Nat → Nat} (hK : va_K D vwCl (tysK cy) s) (hN : NW s) (hCA : CA2 s) : ∀ (n k : Nat), k + n = 64 → ∀ (a : AS) (σC σR : S_) (H : Heap) (locs : List Loc) (ls : Array Slot), RC a σC → RR a σR → WI D cy adC adR s σC σR H → va_S (A0s s) s.heap H locs → lv_has ls 4 [(3, .int (nI (6 * k))), (0, .ref b), (1, .ref (adC 0)), (2, .ref (adR 0))] → W p l e room_1 s m #[Value.ref b] below meth c H locs (56 + 7 * k) (1022 + 21 * k) (lw_Z below #[Value.ref b] s) (F0 m 18 ls []) := by
  intro n
  induction n with
  | zero => intro k hk; exact law_step l hL C0 hK hN hCA (by omega) (fun h => absurd h (by omega))
  | succ n ih => intro k hk; exact law_step l hL C0 hK hN hCA (by omega) (fun _ => ih (k + 1) (by omega))
set_option maxHeartbeats 4000000 in
set_option maxRecDepth 100000 in
theorem whole_start {p : Program} {e : Env} {s : State} {m : MethodId} {below : List Frame} {meth : Method} {c : Code} (l : Launch) (hflags : l.flags = flags0) {b L : Nat} {xs : Nat → Int32} (hL : L ≤ 384) (C0 : lw_At p s m meth c b L xs) : W p l e room_1 s m #[Value.ref b] below meth c s.heap [] 0 0 (lw_Z below #[Value.ref b] s) (entryFrame m ([Value.ref b] : List Value).toArray 4) := by
  obtain ⟨hx, hb, hr, hml, hown, hts, hX, hbl, hlocks, hgv⟩ := id C0
  have htsL : ∀ w ∈ wsL_law, w.before #[Value.ref b] s = true := fun w h => hts w (wsL_law_in w h)
  have hA : ∀ q : Nat, s.heap.size ≤ q → A0s s q := fun _ h => h
  obtain ⟨D, cy, hK, hN, hCA, hAO⟩ := K_start hts
  have hS : va_S (A0s s) s.heap s.heap [] := va_S.rf
  have hl := lv_entry ([.ref b]) (n := 4) (Nat.le_of_ble_eq_true rfl)
  rw [lg_entry_eq]
  generalize (lg_sl ([.ref b]) ++ List.replicate (4 - (lg_sl ([.ref b])).length) Slot.unset).toArray = ls at hl ⊢
  have hl : lv_has ls 4 [(0, .ref b)] := hl
  refine va_new (D := D) (ci := 8) (fs := [.null, .null, .null, .null, .int 0]) (C := RX8) (T := TX8) (N := 5) hx hb htsL inlX8 tyX8 tyX8_ok hown (htsL (.classLink RL 7 RX8) (List.mem_of_getElem? (i := 0) rfl)) (htsL (.instantiable RX8 5) (List.mem_of_getElem? (i := 1) rfl)) (htsL (.initialized RX8) (List.mem_of_getElem? (i := 2) rfl)) hK nil_P nil_D hS hA rfl (fun j hj => by rcases (show j = 0 ∨ j = 1 ∨ j = 2 ∨ j = 3 ∨ j = 4 by omega) with rfl | rfl | rfl | rfl | rfl <;> rfl) (Nat.le_of_ble_eq_true rfl) (Nat.le_of_ble_eq_true rfl) dL_law_0 (fun q0 H hP hD hS => ?_)
  have hP : va_P D vwCl [(q0, .inr (8, [.null, .null, .null, .null, .int 0]))] H := hP
  have hD : va_D (A0s s) [(q0, .inr (8, [.null, .null, .null, .null, .int 0]))] := hD
  refine W.widen (k := 1) (n := 5) (Nat.le_of_ble_eq_true rfl) (Nat.le_of_ble_eq_true rfl) ?_
  refine lv_dup hx hb dL_law_3 rfl ?_
  have hFc := wi_A hD (fun q hq => (Nat.le_trans hS.1 hq : s.heap.size ≤ q))
  refine va_callv (va_runI (As := []) (rest := [.ref q0]) ⟨hx, hb, hml, hown, htsL⟩ (mk_X8 l D cy q0 H.size) (cwI 0 htsL gL_law_X8_init rfl rfl rfl (htsL (.initialized RX8) (List.mem_of_getElem? (i := 2) rfl)) (htsL (.methodLink RL 9 yX8_init) (List.mem_of_getElem? (i := 6) rfl)) (htsL (.instanceMethod yX8_init) (List.mem_of_getElem? (i := 7) rfl)) rfl (by decide +kernel) ⟨(Nat.le_of_ble_eq_true rfl), (Nat.le_of_ble_eq_true rfl)⟩) ⟨fun a U g mk q => ⟨q.1, q.2.blind⟩, fun U hU hW => ⟨rfl, MkT.pre hP hD ⟨hK, hN⟩ hAO hU hW⟩⟩ rfl rfl hl.1 rfl (lv_room (Nat.le_of_ble_eq_true rfl)) dL_law_4 ⟨(Nat.le_of_ble_eq_true rfl), (Nat.le_of_ble_eq_true rfl)⟩) hS (fun q _ h => hFc q h) hFc (fun u t H1 locs ht hvm hw hB hz1 hk1 hS => ?_)
  obtain ⟨hP1, hD1⟩ := hB
  rw [ht] at hP1
  have hPC : va_P D vwCl (wC cy (adU q0 u) s0C) H1 := va_P_rows (g := fun j => some (adU q0 u (2 + 2 * j))) hP1 1 rfl (fun j hj => match j, hj with
    | 0, _ => rfl
    | 1, _ => rfl
    | 2, _ => rfl
    | 3, _ => rfl)
  have hDC : va_D (A0s s) (wC cy (adU q0 u) s0C) := va_D.set (p := 1) (e := .inl (cy 2, 4, .inr (.inr (.inr (.inr (fun j => some (adU q0 u (2 + 2 * j)))))))) (hD1.weaken (fun k q _ h => hFc q.1 h)) rfl
  clear hP1 hD1 hP hD hFc
  refine W.widen (k := 28) (n := 485) (Nat.le_of_ble_eq_true rfl) (Nat.le_of_ble_eq_true rfl) ?_
  refine lv_astore_n (lv' := [(1, .ref q0), (0, .ref b)]) hx hb dL_law_7 rfl hl (by decide) rfl (fun ls hl => ?_)
  refine va_new (D := D) (ci := 9) (fs := [.int 0, .int 0, .null, .null, .null, .int 0, .int 0, .int 0, .int 0, .null, .null, .null, .int 0, .null, .null, .null, .null, .int 0, .null, .null, .null, .null, .null, .null, .null, .int 0, .null, .null, .int 0, .null, .null, .null, .null, .null, .null, .null, .null, .int 0]) (C := RX9) (T := TX9) (N := 38) hx hb htsL inlX9 tyX9 tyX9_ok hown (htsL (.classLink RL 10 RX9) (List.mem_of_getElem? (i := 3) rfl)) (htsL (.instantiable RX9 38) (List.mem_of_getElem? (i := 4) rfl)) (htsL (.initialized RX9) (List.mem_of_getElem? (i := 5) rfl)) hK hPC hDC hS hA rfl (fun j hj => by rcases (show j = 0 ∨ j = 1 ∨ j = 2 ∨ j = 3 ∨ j = 4 ∨ j = 5 ∨ j = 6 ∨ j = 7 ∨ j = 8 ∨ j = 9 ∨ j = 10 ∨ j = 11 ∨ j = 12 ∨ j = 13 ∨ j = 14 ∨ j = 15 ∨ j = 16 ∨ j = 17 ∨ j = 18 ∨ j = 19 ∨ j = 20 ∨ j = 21 ∨ j = 22 ∨ j = 23 ∨ j = 24 ∨ j = 25 ∨ j = 26 ∨ j = 27 ∨ j = 28 ∨ j = 29 ∨ j = 30 ∨ j = 31 ∨ j = 32 ∨ j = 33 ∨ j = 34 ∨ j = 35 ∨ j = 36 ∨ j = 37 by omega) with rfl | rfl | rfl | rfl | rfl | rfl | rfl | rfl | rfl | rfl | rfl | rfl | rfl | rfl | rfl | rfl | rfl | rfl | rfl | rfl | rfl | rfl | rfl | rfl | rfl | rfl | rfl | rfl | rfl | rfl | rfl | rfl | rfl | rfl | rfl | rfl | rfl | rfl <;> rfl) (Nat.le_of_ble_eq_true rfl) (Nat.le_of_ble_eq_true rfl) dL_law_8 (fun q1 H hP hD hS => ?_)
  refine W.widen (k := 29) (n := 523) (Nat.le_of_ble_eq_true rfl) (Nat.le_of_ble_eq_true rfl) ?_
  refine lv_dup hx hb dL_law_11 rfl ?_
  have hP2 := P_left hP
  have hP3 : va_P D vwCl [(q1, .inr (9, [.int 0, .int 0, .null, .null, .null, .int 0, .int 0, .int 0, .int 0, .null, .null, .null, .int 0, .null, .null, .null, .null, .int 0, .null, .null, .null, .null, .null, .null, .null, .int 0, .null, .null, .int 0, .null, .null, .null, .null, .null, .null, .null, .null, .int 0]))] H := P_right hP
  have hD2 := D_left hD
  have hD3 : va_D (A0s s) [(q1, .inr (9, [.int 0, .int 0, .null, .null, .null, .int 0, .int 0, .int 0, .int 0, .null, .null, .null, .int 0, .null, .null, .null, .null, .int 0, .null, .null, .null, .null, .null, .null, .null, .int 0, .null, .null, .int 0, .null, .null, .null, .null, .null, .null, .null, .null, .int 0]))] := D_right hD
  have hX2 := D_apart hD
  have hFc := wi_A hD3 (fun q hq => (Nat.le_trans hS.1 hq : s.heap.size ≤ q))
  refine va_callv (va_runI (As := []) (rest := [.ref q1]) ⟨hx, hb, hml, hown, htsL⟩ (mk_X9 l D cy q1 H.size) (cwI 0 htsL gL_law_X9_init rfl rfl rfl (htsL (.initialized RX9) (List.mem_of_getElem? (i := 5) rfl)) (htsL (.methodLink RL 12 yX9_init) (List.mem_of_getElem? (i := 64) rfl)) (htsL (.instanceMethod yX9_init) (List.mem_of_getElem? (i := 65) rfl)) rfl (by decide +kernel) ⟨(Nat.le_of_ble_eq_true rfl), (Nat.le_of_ble_eq_true rfl)⟩) ⟨fun a U g mk q => ⟨q.1, q.2.blind⟩, fun U hU hW => ⟨rfl, MkS.pre hP3 hD3 ⟨hK, hN⟩ hU hW⟩⟩ rfl rfl hl.1 rfl (lv_room (Nat.le_of_ble_eq_true rfl)) dL_law_12 ⟨(Nat.le_of_ble_eq_true rfl), (Nat.le_of_ble_eq_true rfl)⟩) hS (fun q _ h => hFc q h) hFc (fun u9 t H1 locs ht hvm hw hB hz1 hk1 hS => ?_)
  obtain ⟨hP1, hD1⟩ := hB
  rw [ht] at hP1
  have hPR : va_P D vwCl (wR cy (adU q1 u9) s0R) H1 := hP1
  have hDR : va_D (va_A [(q1, .inr (9, [.int 0, .int 0, .null, .null, .null, .int 0, .int 0, .int 0, .int 0, .null, .null, .null, .int 0, .null, .null, .null, .null, .int 0, .null, .null, .null, .null, .null, .null, .null, .int 0, .null, .null, .int 0, .null, .null, .null, .null, .null, .null, .null, .null, .int 0]))] H.size) (wR cy (adU q1 u9) s0R) := hD1
  obtain ⟨hPC2, hX3⟩ := wi_rest hP2 (fun i j x y hi hj e => hX2 j i y x hj hi e.symm) hk1 hDR
  have hW : WI D cy (adU q0 u) (adU q1 u9) s s0C s0R H1 := ⟨hPC2, hPR, hD2, hDR.weaken (fun k q _ h => hFc q.1 h), fun i j x y hi hj e => hX3 j i y x hj hi e.symm⟩
  refine W.widen (k := 56) (n := 1022) (Nat.le_of_ble_eq_true rfl) (Nat.le_of_ble_eq_true rfl) ?_
  refine lv_astore_n (lv' := [(2, .ref q1), (1, .ref q0), (0, .ref b)]) hx hb dL_law_15 rfl hl (by decide) rfl (fun ls hl => ?_)
  refine lv_iconst (v := 0) hx hb dL_law_16 (by decide) ?_
  refine lv_istore_n (lv' := [(3, .int 0), (2, .ref q1), (1, .ref q0), (0, .ref b)]) hx hb dL_law_17 rfl hl (by decide) rfl (fun ls hl => ?_)
  exact law_loop l hL C0 hK hN hCA 64 0 rfl _ _ _ _ _ _ rc0 rr0 hW hS (lv_sub hl [0, 3, 2, 1] rfl)

