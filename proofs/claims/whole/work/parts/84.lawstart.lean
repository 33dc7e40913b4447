/-! what the tables give at the start -/
theorem mem_r {big ws : List Cond} (ps : List Nat) (hp : ws = ps.filterMap (fun i => big[i]?)) : ∀ w ∈ ws, w ∈ big := by
  intro w hw
  rw [hp] at hw
  obtain ⟨i, -, hi⟩ := List.mem_filterMap.mp hw
  exact List.mem_of_getElem? hi
set_option maxRecDepth 20000 in
theorem nwL_in : ∀ w ∈ nwL, w ∈ tables_1 := mem_r [32, 53, 54, 55, 66, 67, 69, 70, 72, 74, 75, 76, 78, 81, 142, 144, 235, 237, 238, 27, 38, 46, 101, 137, 180, 196, 199, 207, 211, 223, 226, 229, 248, 254, 259, 267, 271, 307, 311, 323, 328, 332, 363, 364, 365, 374, 378, 383, 395, 396, 417, 422, 430, 438, 446, 466, 471, 502, 506, 507, 512, 521, 559, 569, 570, 578, 579, 595, 608, 616, 624] (by decide +kernel)
theorem nwL_tab : ∀ w ∈ nwL, w.onTables = true := List.all_eq_true.mp (by decide +kernel)
theorem tb_in {w : Cond} (h : w ∈ tables_1) : w ∈ lw_tbl := List.mem_append_right _ h
theorem tb_cb : (.castable "TaleBans$Bard" "TaleBans$Herder" : Cond) ∈ tables_1 := List.mem_of_getElem? (i := 1076) (by decide +kernel)
theorem tb_cg : (.castable "TaleBans$Granny" "TaleBans$Herder" : Cond) ∈ tables_1 := List.mem_of_getElem? (i := 1075) (by decide +kernel)
theorem tb_as : (.arrayOver (.object "TaleBans$Sheet") : Cond) ∈ tables_1 := List.mem_of_getElem? (i := 24) (by decide +kernel)
theorem tb_ah : (.arrayOver (.object "TaleBans$Herder") : Cond) ∈ tables_1 := List.mem_of_getElem? (i := 43) (by decide +kernel)
theorem tb_ai : (.arrayClass .int : Cond) ∈ tables_1 := List.mem_of_getElem? (i := 63) (by decide +kernel)
theorem tb_az : (.arrayClass .boolean : Cond) ∈ tables_1 := List.mem_of_getElem? (i := 777) (by decide +kernel)
theorem tb_i0 : (.instantiable RX0 3 : Cond) ∈ tables_1 := List.mem_of_getElem? (i := 247) (by decide +kernel)
theorem tb_i1 : (.instantiable RX1 3 : Cond) ∈ tables_1 := List.mem_of_getElem? (i := 222) (by decide +kernel)
theorem tb_i2 : (.instantiable RX2 3 : Cond) ∈ tables_1 := List.mem_of_getElem? (i := 253) (by decide +kernel)
theorem tb_i3 : (.instantiable RX3 3 : Cond) ∈ tables_1 := List.mem_of_getElem? (i := 45) (by decide +kernel)
theorem tb_i4 : (.instantiable RX4 10 : Cond) ∈ tables_1 := List.mem_of_getElem? (i := 100) (by decide +kernel)
theorem tb_i5 : (.instantiable RX5 3 : Cond) ∈ tables_1 := List.mem_of_getElem? (i := 136) (by decide +kernel)
theorem tb_i6 : (.instantiable RX6 8 : Cond) ∈ tables_1 := List.mem_of_getElem? (i := 37) (by decide +kernel)
theorem tb_i7 : (.instantiable RX7 1 : Cond) ∈ tables_1 := List.mem_of_getElem? (i := 26) (by decide +kernel)
theorem tb_i8 : (.instantiable RX8 5 : Cond) ∈ tables_1 := List.mem_of_getElem? (i := 16) (by decide +kernel)
theorem tb_i9 : (.instantiable RX9 38 : Cond) ∈ tables_1 := List.mem_of_getElem? (i := 657) (by decide +kernel)
theorem K_start {s : State} {args : Array Value} (hts : ∀ w ∈ lw_tbl, w.before args s = true) : ∃ (D : va_G) (cy : Nat → ClassId), va_K D vwCl (tysK cy) s ∧ NW s ∧ CA2 s ∧ AO2 s := by
  obtain ⟨c0, i0, k0⟩ := u_known (C := RX0) (T := TX0) (N := 3) (n := 3) hts inX0 (hts _ (tb_in tb_i0))
  obtain ⟨c1, i1, k1⟩ := u_known (C := RX1) (T := TX1) (N := 3) (n := 3) hts inX1 (hts _ (tb_in tb_i1))
  obtain ⟨c2, i2, k2⟩ := u_known (C := RX2) (T := TX2) (N := 3) (n := 3) hts inX2 (hts _ (tb_in tb_i2))
  obtain ⟨c3, i3, k3⟩ := u_known (C := RX3) (T := TX3) (N := 3) (n := 3) hts inX3 (hts _ (tb_in tb_i3))
  obtain ⟨c4, i4, k4⟩ := u_known (C := RX4) (T := TX4) (N := 10) (n := 10) hts inX4 (hts _ (tb_in tb_i4))
  obtain ⟨c5, i5, k5⟩ := u_known (C := RX5) (T := TX5) (N := 3) (n := 3) hts inX5 (hts _ (tb_in tb_i5))
  obtain ⟨c6, i6, k6⟩ := u_known (C := RX6) (T := TX6) (N := 8) (n := 8) hts inX6 (hts _ (tb_in tb_i6))
  obtain ⟨c7, i7, k7⟩ := u_known (C := RX7) (T := TX7) (N := 1) (n := 1) hts inX7 (hts _ (tb_in tb_i7))
  obtain ⟨c8, i8, k8⟩ := u_known (C := RX8) (T := TX8) (N := 5) (n := 5) hts inX8 (hts _ (tb_in tb_i8))
  obtain ⟨c9, i9, k9⟩ := u_known (C := RX9) (T := TX9) (N := 38) (n := 38) hts inX9 (hts _ (tb_in tb_i9))
  obtain ⟨ai, ka, comp, h1, h2, h3⟩ := Cond.arrayClass_spec (hts _ (tb_in tb_ai))
  obtain ⟨az, kz, compz, z1, z2, z3⟩ := Cond.arrayClass_spec (hts _ (tb_in tb_az))
  obtain ⟨cs, as_, ks, s1, -, s3, s4, s5⟩ := Cond.arrayOver_spec (hts _ (tb_in tb_as))
  obtain ⟨ch, ah, kh, g1, -, g3, g4, g5⟩ := Cond.arrayOver_spec (hts _ (tb_in tb_ah))
  refine ⟨(fun k => match k with
    | 0 => c0
    | 1 => c1
    | 2 => c2
    | 3 => c3
    | 4 => c4
    | 5 => c5
    | 6 => c6
    | 7 => c7
    | 8 => c8
    | _ => c9, fun k => match k with
    | 0 => i0
    | 1 => i1
    | 2 => i2
    | 3 => i3
    | 4 => i4
    | 5 => i5
    | 6 => i6
    | 7 => i7
    | 8 => i8
    | _ => i9), fun k => match k with
    | 0 => ai
    | 1 => az
    | 2 => as_
    | _ => ah, ⟨?_, ?_⟩, fun w hw => va_Nw.of (nwL_tab w hw) (hts w (tb_in (nwL_in w hw))), ⟨va_Nw.of rfl (hts _ (tb_in tb_cb)), va_Nw.of rfl (hts _ (tb_in tb_cg))⟩, ⟨va_AO.of (hts _ (tb_in tb_as)), va_AO.of (hts _ (tb_in tb_ah))⟩⟩
  · intro k q hq
    match k, hq with
    | 0, hq => cases hq; exact k0
    | 1, hq => cases hq; exact k1
    | 2, hq => cases hq; exact k2
    | 3, hq => cases hq; exact k3
    | 4, hq => cases hq; exact k4
    | 5, hq => cases hq; exact k5
    | 6, hq => cases hq; exact k6
    | 7, hq => cases hq; exact k7
    | 8, hq => cases hq; exact k8
    | 9, hq => cases hq; exact k9
    | k + 10, hq => simp [vwCl] at hq
  · intro k q hq
    match k, hq with
    | 0, hq => cases hq; exact ⟨fun n z => ⟨fun k h => (by cases h), ka, h2, comp, h3⟩, h1⟩
    | 1, hq => cases hq; exact ⟨fun n z => ⟨fun k h => (by cases h), kz, z2, compz, z3⟩, z1⟩
    | 2, hq => cases hq; exact ⟨fun n z => ⟨fun k h => (by cases h), ks, s3, cs, s4⟩, ks, cs, s3, s4, s1, s5⟩
    | 3, hq => cases hq; exact ⟨fun n z => ⟨fun k h => (by cases h), kh, g3, ch, g4⟩, kh, ch, g3, g4, g1, g5⟩
    | k + 4, hq => simp at hq
set_option maxHeartbeats 4000000 in
set_option maxRecDepth 100000 in
theorem law_step {p : Program} {e : Env} {s : State} {m : MethodId} {below : List Frame} {meth : Method} {c : Code} (l : Launch) {b L : Nat} {xs : Nat → Int32} (hL : L ≤ 384) (C0 : lw_At p s m meth c b L xs) {D : va_G} {cy : Nat → ClassId} {adC adR : Nat → Nat} (hK : va_K D vwCl (tysK cy) s) (hN : NW s) (hCA : CA2 s) {k : Nat} (hk : k ≤ 64) (ih : 6 * k + 6 ≤ L → ∀ (a : AS) (σC σR : S_) (H : Heap) (locs : List Loc) (ls : Array Slot), RC a σC → RR a σR → WI D cy adC adR s σC σR H → va_S (A0s s) s.heap H locs → lv_has ls 4 [(3, .int (nI (6 * (k + 1)))), (0, .ref b), (1, .ref (adC 0)), (2, .ref (adR 0))] → W p l e room_1 s m #[Value.ref b] below meth c H locs (56 + 7 * (k + 1)) (1022 + 21 * (k + 1)) (lw_Z below #[Value.ref b] s) (F0 m 18 ls [])) : ∀ (a : AS) (σC σR : S_) (H : Heap) (locs : List Loc) (ls : Array Slot), RC a σC → RR a σR → WI D cy adC adR s σC σR H → va_S (A0s s) s.heap H locs → lv_has ls 4 [(3, .int (nI (6 * k))), (0, .ref b), (1, .ref (adC 0)), (2, .ref (adR 0))] → W p l e room_1 s m #[Value.ref b] below meth c H locs (56 + 7 * k) (1022 + 21 * k) (lw_Z below #[Value.ref b] s) (F0 m 18 ls []) := by
  intro a σC σR H locs ls hRC hRR hW hS hl
  obtain ⟨hx, hb, hr, hml, hown, hts, hX, hbl, hlocks, hgv⟩ := id C0
  have hbA : ¬ A0s s b := Nat.not_le.mpr hbl
  refine lv_iload_n hx hb dL_law_18 rfl (lv_at hl 0 rfl) ?_
  refine lv_aload_n hx hb dL_law_19 rfl (lv_at hl 1 rfl) ?_
  refine va_slen hx hb hX hbl hbA hS dL_law_20 ?_
  refine lv_bipush (v := 6) hx hb dL_law_21 (by decide) ?_
  refine lv_isub hx hb dL_law_23 ?_
  refine lv_icmp_gt (tgt := 1433) hx hb dL_law_24 (by decide) (fun _ => ?_) (fun z => ?_)
  · refine lv_iconst (v := 1) hx hb dL_law_1433 (by decide) ?_
    refine va_forget (fun q hq => hS.2.2 q hq) ?_
    refine W.widen (k := 600000) (n := 7302250) (by omega) (by omega) ?_
    exact lw_ret hx hb hr hlocks dL_law_1434
  · have hlt : 6 * k + 6 ≤ L := by
      rcases Nat.lt_or_ge L (6 * k + 6) with q | q
      · refine absurd ?_ z
        rw [Int32.lt_iff_toInt_lt]
        have e1 : (Int32.ofNat L - 6).toInt = (L : Int) - 6 := pk_sub_toInt (a := L) (b := 6) (by omega) (by decide)
        have e2 : (nI (6 * k)).toInt = ((6 * k : Nat) : Int) := nI_toInt (by omega)
        rw [e1, e2]
        omega
      · exact q
    refine law_body l C0 hK hN hCA (fun j hj => ?_) (show 56 + 7 * k + 7 ≤ 600000 by omega) (show 1022 + 21 * k + 21 ≤ 7302250 by omega) hRC hRR hW hS hl (fun a σC σR H locs h1 h2 hW hS => ?_)
    · rw [nI_add]
      exact vp_in_nI (by omega) (by omega)
    · refine lv_iinc (v := nI (6 * (k + 1))) (lv' := [(3, .int (nI (6 * (k + 1)))), (0, .ref b), (1, .ref (adC 0)), (2, .ref (adR 0))]) hx hb dL_law_1427 hl (k := 0) rfl (by rw [show 6 * (k + 1) = 6 * k + 6 from by omega, ← nI_add]; rfl) (by decide) rfl (fun ls hl => ?_)
      refine lv_goto (tgt := 18) hx hb dL_law_1430 (by decide) ?_
      refine W.widen (k := 56 + 7 * (k + 1)) (n := 1022 + 21 * (k + 1)) (by omega) (by omega) ?_
      exact ih hlt _ _ _ _ _ _ h1 h2 hW hS hl
theorem law_loop {p : Program} {e : Env} {s : State} {m : MethodId} {below : List Frame} {meth : Method} {c : Code} (l : Launch) {b L : Nat} {xs : Nat → Int32} (hL : L ≤ 384) (C0 : lw_At p s m meth c b L xs) {D : va_G} {cy : Nat → ClassId} {adC adR : Nat → Nat} (hK : va_K D vwCl (tysK cy) s) (hN : NW s) (hCA : CA2 s) : ∀ (n k : Nat), k + n = 64 → ∀ (a : AS) (σC σR : S_) (H : Heap) (locs : List Loc) (ls : Array Slot), RC a σC → RR a σR → WI D cy adC adR s σC σR H → va_S (A0s s) s.heap H locs → lv_has ls 4 [(3, .int (nI (6 * k))), (0, .ref b), (1, .ref (adC 0)), (2, .ref (adR 0))] → W p l e room_1 s m #[Value.ref b] below meth c H locs (56 + 7 * k) (1022 + 21 * k) (lw_Z below #[Value.ref b] s) (F0 m 18 ls []) := by
  intro n
  induction n with
  | zero => intro k hk; exact law_step l hL C0 hK hN hCA (by omega) (fun h => absurd h (by omega))
  | succ n ih => intro k hk; exact law_step l hL C0 hK hN hCA (by omega) (fun _ => ih (k + 1) (by omega))
set_option maxHeartbeats 4000000 in
set_option maxRecDepth 100000 in
theorem whole_start {p : Program} {e : Env} {s : State} {m : MethodId} {below : List Frame} {meth : Method} {c : Code} (l : Launch) (hflags : l.flags = flags0) {b L : Nat} {xs : Nat → Int32} (hL : L ≤ 384) (C0 : lw_At p s m meth c b L xs) : W p l e room_1 s m #[Value.ref b] below meth c s.heap [] 0 0 (lw_Z below #[Value.ref b] s) (entryFrame m ([Value.ref b] : List Value).toArray 4) := by
  obtain ⟨hx, hb, hr, hml, hown, hts, hX, hbl, hlocks, hgv⟩ := id C0
  have htsL : ∀ w ∈ wsL_law, w.before #[Value.ref b] s = true := fun w h => hts w (wsL_law_in w h)
  have hA : ∀ q : Nat, s.heap.size ≤ q → A0s s q := fun _ h => h
  obtain ⟨D, cy, hK, hN, hCA, hAO⟩ := K_start hts
  have hS : va_S (A0s s) s.heap s.heap [] := va_S.rf
  have hl := lv_entry ([.ref b]) (n := 4) (Nat.le_of_ble_eq_true rfl)
  rw [lg_entry_eq]
  generalize (lg_sl ([.ref b]) ++ List.replicate (4 - (lg_sl ([.ref b])).length) Slot.unset).toArray = ls at hl ⊢
  have hl : lv_has ls 4 [(0, .ref b)] := hl
  refine va_new (D := D) (ci := 8) (fs := [.null, .null, .null, .null, .int 0]) (C := RX8) (T := TX8) (N := 5) hx hb htsL inlX8 tyX8 tyX8_ok hown (htsL (.classLink RL 7 RX8) (List.mem_of_getElem? (i := 0) (by decide +kernel))) (htsL (.instantiable RX8 5) (List.mem_of_getElem? (i := 1) (by decide +kernel))) (htsL (.initialized RX8) (List.mem_of_getElem? (i := 2) (by decide +kernel))) hK nil_P nil_D hS hA rfl (fun j hj => by rcases (show j = 0 ∨ j = 1 ∨ j = 2 ∨ j = 3 ∨ j = 4 by omega) with rfl | rfl | rfl | rfl | rfl <;> rfl) (Nat.le_of_ble_eq_true rfl) (Nat.le_of_ble_eq_true rfl) dL_law_0 (fun q0 H hP hD hS => ?_)
  have hP : va_P D vwCl [(q0, .inr (8, [.null, .null, .null, .null, .int 0]))] H := hP
  have hD : va_D (A0s s) [(q0, .inr (8, [.null, .null, .null, .null, .int 0]))] := hD
  refine W.widen (k := 1) (n := 5) (Nat.le_of_ble_eq_true rfl) (Nat.le_of_ble_eq_true rfl) ?_
  refine lv_dup hx hb dL_law_3 rfl ?_
  have hFc := wi_A hD (fun q hq => (Nat.le_trans hS.1 hq : s.heap.size ≤ q))
  refine va_callv (va_runI (As := []) (rest := [.ref q0]) ⟨hx, hb, hml, hown, htsL⟩ (mk_X8 l D cy q0 H.size) (cwI 0 htsL gL_law_X8_init rfl rfl rfl (htsL (.initialized RX8) (List.mem_of_getElem? (i := 2) (by decide +kernel))) (htsL (.methodLink RL 9 yX8_init) (List.mem_of_getElem? (i := 6) (by decide +kernel))) (htsL (.instanceMethod yX8_init) (List.mem_of_getElem? (i := 7) (by decide +kernel))) rfl (by decide +kernel) ⟨(Nat.le_of_ble_eq_true rfl), (Nat.le_of_ble_eq_true rfl)⟩) ⟨fun a U g mk q => ⟨q.1, q.2.blind⟩, fun U hU hW => ⟨rfl, MkT.pre hP hD ⟨hK, hN⟩ hAO hU hW⟩⟩ rfl rfl hl.1 rfl (lv_room (Nat.le_of_ble_eq_true rfl)) dL_law_4 ⟨(Nat.le_of_ble_eq_true rfl), (Nat.le_of_ble_eq_true rfl)⟩) hS (fun q _ h => hFc q h) hFc (fun u t H1 locs ht hvm hw hB hz1 hk1 hS => ?_)
  obtain ⟨hP1, hD1⟩ := hB
  rw [ht] at hP1
  have hPC : va_P D vwCl (wC cy (adU q0 u) s0C) H1 := va_P_rows (g := fun j => some (adU q0 u (2 + 2 * j))) hP1 1 rfl (fun j hj => match j, hj with
    | 0, _ => rfl
    | 1, _ => rfl
    | 2, _ => rfl
    | 3, _ => rfl)
  have hDC : va_D (A0s s) (wC cy (adU q0 u) s0C) := va_D.set (p := 1) (e := .inl (cy 2, 4, .inr (.inr (.inr (.inr (fun j => some (adU q0 u (2 + 2 * j)))))))) (hD1.weaken (fun k q _ h => hFc q.1 h)) rfl
  clear hP1 hD1 hP hD hFc
  refine W.widen (k := 28) (n := 485) (Nat.le_of_ble_eq_true rfl) (Nat.le_of_ble_eq_true rfl) ?_
  refine lv_astore_n (lv' := [(1, .ref q0), (0, .ref b)]) hx hb dL_law_7 rfl hl (by decide) rfl (fun ls hl => ?_)
  refine va_new (D := D) (ci := 9) (fs := [.int 0, .int 0, .null, .null, .null, .int 0, .int 0, .int 0, .int 0, .null, .null, .null, .int 0, .null, .null, .null, .null, .int 0, .null, .null, .null, .null, .null, .null, .null, .int 0, .null, .null, .int 0, .null, .null, .null, .null, .null, .null, .null, .null, .int 0]) (C := RX9) (T := TX9) (N := 38) hx hb htsL inlX9 tyX9 tyX9_ok hown (htsL (.classLink RL 10 RX9) (List.mem_of_getElem? (i := 3) (by decide +kernel))) (htsL (.instantiable RX9 38) (List.mem_of_getElem? (i := 4) (by decide +kernel))) (htsL (.initialized RX9) (List.mem_of_getElem? (i := 5) (by decide +kernel))) hK hPC hDC hS hA rfl (fun j hj => by rcases (show j = 0 ∨ j = 1 ∨ j = 2 ∨ j = 3 ∨ j = 4 ∨ j = 5 ∨ j = 6 ∨ j = 7 ∨ j = 8 ∨ j = 9 ∨ j = 10 ∨ j = 11 ∨ j = 12 ∨ j = 13 ∨ j = 14 ∨ j = 15 ∨ j = 16 ∨ j = 17 ∨ j = 18 ∨ j = 19 ∨ j = 20 ∨ j = 21 ∨ j = 22 ∨ j = 23 ∨ j = 24 ∨ j = 25 ∨ j = 26 ∨ j = 27 ∨ j = 28 ∨ j = 29 ∨ j = 30 ∨ j = 31 ∨ j = 32 ∨ j = 33 ∨ j = 34 ∨ j = 35 ∨ j = 36 ∨ j = 37 by omega) with rfl | rfl | rfl | rfl | rfl | rfl | rfl | rfl | rfl | rfl | rfl | rfl | rfl | rfl | rfl | rfl | rfl | rfl | rfl | rfl | rfl | rfl | rfl | rfl | rfl | rfl | rfl | rfl | rfl | rfl | rfl | rfl | rfl | rfl | rfl | rfl | rfl | rfl <;> rfl) (Nat.le_of_ble_eq_true rfl) (Nat.le_of_ble_eq_true rfl) dL_law_8 (fun q1 H hP hD hS => ?_)
  refine W.widen (k := 29) (n := 523) (Nat.le_of_ble_eq_true rfl) (Nat.le_of_ble_eq_true rfl) ?_
  refine lv_dup hx hb dL_law_11 rfl ?_
  have hP2 := P_left hP
  have hP3 : va_P D vwCl [(q1, .inr (9, [.int 0, .int 0, .null, .null, .null, .int 0, .int 0, .int 0, .int 0, .null, .null, .null, .int 0, .null, .null, .null, .null, .int 0, .null, .null, .null, .null, .null, .null, .null, .int 0, .null, .null, .int 0, .null, .null, .null, .null, .null, .null, .null, .null, .int 0]))] H := P_right hP
  have hD2 := D_left hD
  have hD3 : va_D (A0s s) [(q1, .inr (9, [.int 0, .int 0, .null, .null, .null, .int 0, .int 0, .int 0, .int 0, .null, .null, .null, .int 0, .null, .null, .null, .null, .int 0, .null, .null, .null, .null, .null, .null, .null, .int 0, .null, .null, .int 0, .null, .null, .null, .null, .null, .null, .null, .null, .int 0]))] := D_right hD
  have hX2 := D_apart hD
  have hFc := wi_A hD3 (fun q hq => (Nat.le_trans hS.1 hq : s.heap.size ≤ q))
  refine va_callv (va_runI (As := []) (rest := [.ref q1]) ⟨hx, hb, hml, hown, htsL⟩ (mk_X9 l D cy q1 H.size) (cwI 0 htsL gL_law_X9_init rfl rfl rfl (htsL (.initialized RX9) (List.mem_of_getElem? (i := 5) (by decide +kernel))) (htsL (.methodLink RL 12 yX9_init) (List.mem_of_getElem? (i := 64) (by decide +kernel))) (htsL (.instanceMethod yX9_init) (List.mem_of_getElem? (i := 65) (by decide +kernel))) rfl (by decide +kernel) ⟨(Nat.le_of_ble_eq_true rfl), (Nat.le_of_ble_eq_true rfl)⟩) ⟨fun a U g mk q => ⟨q.1, q.2.blind⟩, fun U hU hW => ⟨rfl, MkS.pre hP3 hD3 ⟨hK, hN⟩ hU hW⟩⟩ rfl rfl hl.1 rfl (lv_room (Nat.le_of_ble_eq_true rfl)) dL_law_12 ⟨(Nat.le_of_ble_eq_true rfl), (Nat.le_of_ble_eq_true rfl)⟩) hS (fun q _ h => hFc q h) hFc (fun u9 t H1 locs ht hvm hw hB hz1 hk1 hS => ?_)
  obtain ⟨hP1, hD1⟩ := hB
  rw [ht] at hP1
  have hPR : va_P D vwCl (wR cy (adU q1 u9) s0R) H1 := hP1
  have hDR : va_D (va_A [(q1, .inr (9, [.int 0, .int 0, .null, .null, .null, .int 0, .int 0, .int 0, .int 0, .null, .null, .null, .int 0, .null, .null, .null, .null, .int 0, .null, .null, .null, .null, .null, .null, .null, .int 0, .null, .null, .int 0, .null, .null, .null, .null, .null, .null, .null, .null, .int 0]))] H.size) (wR cy (adU q1 u9) s0R) := hD1
  obtain ⟨hPC2, hX3⟩ := wi_rest hP2 (fun i j x y hi hj e => hX2 j i y x hj hi e.symm) hk1 hDR
  have hW : WI D cy (adU q0 u) (adU q1 u9) s s0C s0R H1 := ⟨hPC2, hPR, hD2, hDR.weaken (fun k q _ h => hFc q.1 h), fun i j x y hi hj e => hX3 j i y x hj hi e.symm⟩
  refine W.widen (k := 56) (n := 1022) (Nat.le_of_ble_eq_true rfl) (Nat.le_of_ble_eq_true rfl) ?_
  refine lv_astore_n (lv' := [(2, .ref q1), (1, .ref q0), (0, .ref b)]) hx hb dL_law_15 rfl hl (by decide) rfl (fun ls hl => ?_)
  refine lv_iconst (v := 0) hx hb dL_law_16 (by decide) ?_
  refine lv_istore_n (lv' := [(3, .int 0), (2, .ref q1), (1, .ref q0), (0, .ref b)]) hx hb dL_law_17 rfl hl (by decide) rfl (fun ls hl => ?_)
  exact law_loop l hL C0 hK hN hCA 64 0 rfl _ _ _ _ _ _ rc0 rr0 hW hS (lv_sub hl [0, 3, 2, 1] rfl)

