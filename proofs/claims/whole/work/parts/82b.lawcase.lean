set_option maxHeartbeats 4000000 in
set_option maxRecDepth 100000 in
theorem law_c13 {p : Program} {e : Env} {s : State} {m : MethodId} {below : List Frame} {meth : Method} {c : Code} (l : Launch) {b L : Nat} {xs : Nat → Int32} (C0 : lw_At p s m meth c b L xs) {D : va_G} {cy : Nat → ClassId} {adC adR : Nat → Nat} (hK : va_K D vwCl (tysK cy) s) (hN : NW s) (hCA : CA2 s) {x3 : Int32} (hin : ∀ j : Nat, j < 6 → vp_in (x3 + nI j) L) {cells slots : Nat} (hcl : cells + 7 ≤ room_1.cells) (hsl : slots + 21 ≤ room_1.slots) {a : AS} {σC σR : S_} {H : Heap} {locs : List Loc} {ls : Array Slot} (hRC : RC a σC) (hRR : RR a σR) (hW : WI D cy adC adR s σC σR H) (hS : va_S (A0s s) s.heap H locs) (hl : lv_has ls 4 [(3, .int x3), (0, .ref b), (1, .ref (adC 0)), (2, .ref (adR 0))]) (kk : ∀ (a : AS) (σC σR : S_) (H : Heap) (locs : List Loc), RC a σC → RR a σR → WI D cy adC adR s σC σR H → va_S (A0s s) s.heap H locs → W p l e room_1 s m #[Value.ref b] below meth c H locs (cells + 7) (slots + 21) (lw_Z below #[Value.ref b] s) (F0 m 1427 ls [])) : W p l e room_1 s m #[Value.ref b] below meth c H locs cells slots (lw_Z below #[Value.ref b] s) (F0 m 657 ls []) := by
  obtain ⟨hx, hb, hr, hml, hown, hts, hX, hbl, hlocks, hgv⟩ := C0
  have htsL : ∀ w ∈ wsL_law, w.before #[Value.ref b] s = true := fun w h => hts w (wsL_law_in w h)
  have hbA : ¬ A0s s b := Nat.not_le.mpr hbl
  refine lv_aload_n hx hb dL_law_657 rfl (lv_at hl 2 rfl) ?_
  refine lv_aload_n hx hb dL_law_658 rfl (lv_at hl 1 rfl) ?_
  refine lv_iload_n hx hb dL_law_659 rfl (lv_at hl 0 rfl) ?_
  refine lv_iconst (v := 1) hx hb dL_law_660 (by decide) ?_
  refine lv_iadd hx hb dL_law_661 ?_
  refine va_sld hx hb hX hbl hbA hS (hin 1 (by decide)) dL_law_662 ?_
  refine kC_i (va_runV (As := [.int (xs (Int32.toNatClampNeg (x3 + 1)))]) (rest := []) ⟨hx, hb, hml, hown, htsL⟩ (ct_X8_dies l D cy adC (va_A (wC cy adC σC) H.size) (xs (Int32.toNatClampNeg (x3 + 1))) a σC hRC) (cwV 1 htsL gL_law_X8_dies rfl rfl rfl (by decide +kernel) ⟨Nat.le_of_ble_eq_true rfl, Nat.le_of_ble_eq_true rfl⟩) ⟨(fun a U g mk q => ⟨q.1, q.2.blind⟩), va_recv hK hW.1 (ci := 8) (q0 := 0) rfl (wC_0 cy adC σC), (fun U hU hWm => ⟨rfl, WdC.pre hW.1 hK hW.2.2.1.self hN hU hWm⟩)⟩ rfl rfl hl.1 rfl (lv_room (Nat.le_of_ble_eq_true rfl)) dL_law_663 ⟨by omega, by omega⟩) hS hW (fun r8 u8 H locs h8 hW hS => ?_)
  refine lv_aload_n hx hb dL_law_666 rfl (lv_at hl 3 rfl) ?_
  refine lv_aload_n hx hb dL_law_667 rfl (lv_at hl 1 rfl) ?_
  refine lv_iload_n hx hb dL_law_668 rfl (lv_at hl 0 rfl) ?_
  refine lv_iconst (v := 1) hx hb dL_law_669 (by decide) ?_
  refine lv_iadd hx hb dL_law_670 ?_
  refine va_sld hx hb hX hbl hbA hS (hin 1 (by decide)) dL_law_671 ?_
  refine kR_i (va_runV (As := [.int (xs (Int32.toNatClampNeg (x3 + 1)))]) (rest := [.int r8]) ⟨hx, hb, hml, hown, htsL⟩ (ct_X9_dies l D cy adR (va_A (wR cy adR σR) H.size) (xs (Int32.toNatClampNeg (x3 + 1))) a σR hRR) (cwV 1 htsL gL_law_X9_dies rfl rfl rfl (by decide +kernel) ⟨Nat.le_of_ble_eq_true rfl, Nat.le_of_ble_eq_true rfl⟩) ⟨(fun a U g mk q => ⟨q.1, q.2.blind⟩), va_recv hK hW.2.1 (ci := 9) (q0 := 0) rfl (wR_0 cy adR σR), (fun U hU hWm => ⟨rfl, WdR.pre hW.2.1 hK hW.2.2.2.1.self hN hU hWm⟩)⟩ rfl rfl hl.1 rfl (lv_room (Nat.le_of_ble_eq_true rfl)) dL_law_672 ⟨by omega, by omega⟩) hS hW (fun r9 u9 H locs h9 hW hS => ?_)
  refine lv_icmp_eq (tgt := 1427) hx hb dL_law_675 (by decide) (fun _ => ?_) (fun z => absurd (h8.1.trans h9.1.symm) z)
  refine W.widen (k := cells + 7) (n := slots + 21) (by omega) (by omega) ?_
  exact kk _ _ _ _ _ h8.2 h9.2 hW hS
set_option maxHeartbeats 4000000 in
set_option maxRecDepth 100000 in
theorem law_c14 {p : Program} {e : Env} {s : State} {m : MethodId} {below : List Frame} {meth : Method} {c : Code} (l : Launch) {b L : Nat} {xs : Nat → Int32} (C0 : lw_At p s m meth c b L xs) {D : va_G} {cy : Nat → ClassId} {adC adR : Nat → Nat} (hK : va_K D vwCl (tysK cy) s) (hN : NW s) (hCA : CA2 s) {x3 : Int32} (hin : ∀ j : Nat, j < 6 → vp_in (x3 + nI j) L) {cells slots : Nat} (hcl : cells + 7 ≤ room_1.cells) (hsl : slots + 21 ≤ room_1.slots) {a : AS} {σC σR : S_} {H : Heap} {locs : List Loc} {ls : Array Slot} (hRC : RC a σC) (hRR : RR a σR) (hW : WI D cy adC adR s σC σR H) (hS : va_S (A0s s) s.heap H locs) (hl : lv_has ls 4 [(3, .int x3), (0, .ref b), (1, .ref (adC 0)), (2, .ref (adR 0))]) (kk : ∀ (a : AS) (σC σR : S_) (H : Heap) (locs : List Loc), RC a σC → RR a σR → WI D cy adC adR s σC σR H → va_S (A0s s) s.heap H locs → W p l e room_1 s m #[Value.ref b] below meth c H locs (cells + 7) (slots + 21) (lw_Z below #[Value.ref b] s) (F0 m 1427 ls [])) : W p l e room_1 s m #[Value.ref b] below meth c H locs cells slots (lw_Z below #[Value.ref b] s) (F0 m 680 ls []) := by
  obtain ⟨hx, hb, hr, hml, hown, hts, hX, hbl, hlocks, hgv⟩ := C0
  have htsL : ∀ w ∈ wsL_law, w.before #[Value.ref b] s = true := fun w h => hts w (wsL_law_in w h)
  have hbA : ¬ A0s s b := Nat.not_le.mpr hbl
  refine lv_aload_n hx hb dL_law_680 rfl (lv_at hl 2 rfl) ?_
  refine lv_aload_n hx hb dL_law_681 rfl (lv_at hl 1 rfl) ?_
  refine lv_iload_n hx hb dL_law_682 rfl (lv_at hl 0 rfl) ?_
  refine lv_iconst (v := 1) hx hb dL_law_683 (by decide) ?_
  refine lv_iadd hx hb dL_law_684 ?_
  refine va_sld hx hb hX hbl hbA hS (hin 1 (by decide)) dL_law_685 ?_
  refine lv_aload_n hx hb dL_law_686 rfl (lv_at hl 1 rfl) ?_
  refine lv_iload_n hx hb dL_law_687 rfl (lv_at hl 0 rfl) ?_
  refine lv_iconst (v := 2) hx hb dL_law_688 (by decide) ?_
  refine lv_iadd hx hb dL_law_689 ?_
  refine va_sld hx hb hX hbl hbA hS (hin 2 (by decide)) dL_law_690 ?_
  refine kC_i (va_runV (As := [.int (xs (Int32.toNatClampNeg (x3 + 1))), .int (xs (Int32.toNatClampNeg (x3 + 2)))]) (rest := []) ⟨hx, hb, hml, hown, htsL⟩ (ct_X8_free l D cy adC (va_A (wC cy adC σC) H.size) (xs (Int32.toNatClampNeg (x3 + 1))) (xs (Int32.toNatClampNeg (x3 + 2))) a σC hRC) (cwV 2 htsL gL_law_X8_free rfl rfl rfl (by decide +kernel) ⟨Nat.le_of_ble_eq_true rfl, Nat.le_of_ble_eq_true rfl⟩) ⟨(fun a U g mk q => ⟨q.1, q.2.blind⟩), va_recv hK hW.1 (ci := 8) (q0 := 0) rfl (wC_0 cy adC σC), (fun U hU hWm => ⟨rfl, WdC.pre hW.1 hK hW.2.2.1.self hN hU hWm⟩)⟩ rfl rfl hl.1 rfl (lv_room (Nat.le_of_ble_eq_true rfl)) dL_law_691 ⟨by omega, by omega⟩) hS hW (fun r8 u8 H locs h8 hW hS => ?_)
  refine lv_aload_n hx hb dL_law_694 rfl (lv_at hl 3 rfl) ?_
  refine lv_aload_n hx hb dL_law_695 rfl (lv_at hl 1 rfl) ?_
  refine lv_iload_n hx hb dL_law_696 rfl (lv_at hl 0 rfl) ?_
  refine lv_iconst (v := 1) hx hb dL_law_697 (by decide) ?_
  refine lv_iadd hx hb dL_law_698 ?_
  refine va_sld hx hb hX hbl hbA hS (hin 1 (by decide)) dL_law_699 ?_
  refine lv_aload_n hx hb dL_law_700 rfl (lv_at hl 1 rfl) ?_
  refine lv_iload_n hx hb dL_law_701 rfl (lv_at hl 0 rfl) ?_
  refine lv_iconst (v := 2) hx hb dL_law_702 (by decide) ?_
  refine lv_iadd hx hb dL_law_703 ?_
  refine va_sld hx hb hX hbl hbA hS (hin 2 (by decide)) dL_law_704 ?_
  refine kR_i (va_runV (As := [.int (xs (Int32.toNatClampNeg (x3 + 1))), .int (xs (Int32.toNatClampNeg (x3 + 2)))]) (rest := [.int r8]) ⟨hx, hb, hml, hown, htsL⟩ (ct_X9_free l D cy adR (va_A (wR cy adR σR) H.size) (xs (Int32.toNatClampNeg (x3 + 1))) (xs (Int32.toNatClampNeg (x3 + 2))) a σR hRR) (cwV 2 htsL gL_law_X9_free rfl rfl rfl (by decide +kernel) ⟨Nat.le_of_ble_eq_true rfl, Nat.le_of_ble_eq_true rfl⟩) ⟨(fun a U g mk q => ⟨q.1, q.2.blind⟩), va_recv hK hW.2.1 (ci := 9) (q0 := 0) rfl (wR_0 cy adR σR), (fun U hU hWm => ⟨rfl, WdR.pre hW.2.1 hK hW.2.2.2.1.self hN hU hWm⟩)⟩ rfl rfl hl.1 rfl (lv_room (Nat.le_of_ble_eq_true rfl)) dL_law_705 ⟨by omega, by omega⟩) hS hW (fun r9 u9 H locs h9 hW hS => ?_)
  refine lv_icmp_eq (tgt := 1427) hx hb dL_law_708 (by decide) (fun _ => ?_) (fun z => absurd (h8.1.trans h9.1.symm) z)
  refine W.widen (k := cells + 7) (n := slots + 21) (by omega) (by omega) ?_
  exact kk _ _ _ _ _ h8.2 h9.2 hW hS
set_option maxHeartbeats 4000000 in
set_option maxRecDepth 100000 in
theorem law_c15 {p : Program} {e : Env} {s : State} {m : MethodId} {below : List Frame} {meth : Method} {c : Code} (l : Launch) {b L : Nat} {xs : Nat → Int32} (C0 : lw_At p s m meth c b L xs) {D : va_G} {cy : Nat → ClassId} {adC adR : Nat → Nat} (hK : va_K D vwCl (tysK cy) s) (hN : NW s) (hCA : CA2 s) {x3 : Int32} (hin : ∀ j : Nat, j < 6 → vp_in (x3 + nI j) L) {cells slots : Nat} (hcl : cells + 7 ≤ room_1.cells) (hsl : slots + 21 ≤ room_1.slots) {a : AS} {σC σR : S_} {H : Heap} {locs : List Loc} {ls : Array Slot} (hRC : RC a σC) (hRR : RR a σR) (hW : WI D cy adC adR s σC σR H) (hS : va_S (A0s s) s.heap H locs) (hl : lv_has ls 4 [(3, .int x3), (0, .ref b), (1, .ref (adC 0)), (2, .ref (adR 0))]) (kk : ∀ (a : AS) (σC σR : S_) (H : Heap) (locs : List Loc), RC a σC → RR a σR → WI D cy adC adR s σC σR H → va_S (A0s s) s.heap H locs → W p l e room_1 s m #[Value.ref b] below meth c H locs (cells + 7) (slots + 21) (lw_Z below #[Value.ref b] s) (F0 m 1427 ls [])) : W p l e room_1 s m #[Value.ref b] below meth c H locs cells slots (lw_Z below #[Value.ref b] s) (F0 m 713 ls []) := by
  obtain ⟨hx, hb, hr, hml, hown, hts, hX, hbl, hlocks, hgv⟩ := C0
  have htsL : ∀ w ∈ wsL_law, w.before #[Value.ref b] s = true := fun w h => hts w (wsL_law_in w h)
  have hbA : ¬ A0s s b := Nat.not_le.mpr hbl
  refine lv_aload_n hx hb dL_law_713 rfl (lv_at hl 2 rfl) ?_
  refine lv_aload_n hx hb dL_law_714 rfl (lv_at hl 1 rfl) ?_
  refine lv_iload_n hx hb dL_law_715 rfl (lv_at hl 0 rfl) ?_
  refine lv_iconst (v := 1) hx hb dL_law_716 (by decide) ?_
  refine lv_iadd hx hb dL_law_717 ?_
  refine va_sld hx hb hX hbl hbA hS (hin 1 (by decide)) dL_law_718 ?_
  refine lv_aload_n hx hb dL_law_719 rfl (lv_at hl 1 rfl) ?_
  refine lv_iload_n hx hb dL_law_720 rfl (lv_at hl 0 rfl) ?_
  refine lv_iconst (v := 2) hx hb dL_law_721 (by decide) ?_
  refine lv_iadd hx hb dL_law_722 ?_
  refine va_sld hx hb hX hbl hbA hS (hin 2 (by decide)) dL_law_723 ?_
  refine kC_i (va_runV (As := [.int (xs (Int32.toNatClampNeg (x3 + 1))), .int (xs (Int32.toNatClampNeg (x3 + 2)))]) (rest := []) ⟨hx, hb, hml, hown, htsL⟩ (ct_X8_fewest l D cy adC (va_A (wC cy adC σC) H.size) (xs (Int32.toNatClampNeg (x3 + 1))) (xs (Int32.toNatClampNeg (x3 + 2))) a σC hRC) (cwV 2 htsL gL_law_X8_fewest rfl rfl rfl (by decide +kernel) ⟨Nat.le_of_ble_eq_true rfl, Nat.le_of_ble_eq_true rfl⟩) ⟨(fun a U g mk q => ⟨q.1, q.2.blind⟩), va_recv hK hW.1 (ci := 8) (q0 := 0) rfl (wC_0 cy adC σC), (fun U hU hWm => ⟨rfl, WdC.pre hW.1 hK hW.2.2.1.self hN hU hWm⟩)⟩ rfl rfl hl.1 rfl (lv_room (Nat.le_of_ble_eq_true rfl)) dL_law_724 ⟨by omega, by omega⟩) hS hW (fun r8 u8 H locs h8 hW hS => ?_)
  refine lv_aload_n hx hb dL_law_727 rfl (lv_at hl 3 rfl) ?_
  refine lv_aload_n hx hb dL_law_728 rfl (lv_at hl 1 rfl) ?_
  refine lv_iload_n hx hb dL_law_729 rfl (lv_at hl 0 rfl) ?_
  refine lv_iconst (v := 1) hx hb dL_law_730 (by decide) ?_
  refine lv_iadd hx hb dL_law_731 ?_
  refine va_sld hx hb hX hbl hbA hS (hin 1 (by decide)) dL_law_732 ?_
  refine lv_aload_n hx hb dL_law_733 rfl (lv_at hl 1 rfl) ?_
  refine lv_iload_n hx hb dL_law_734 rfl (lv_at hl 0 rfl) ?_
  refine lv_iconst (v := 2) hx hb dL_law_735 (by decide) ?_
  refine lv_iadd hx hb dL_law_736 ?_
  refine va_sld hx hb hX hbl hbA hS (hin 2 (by decide)) dL_law_737 ?_
  refine kR_i (va_runV (As := [.int (xs (Int32.toNatClampNeg (x3 + 1))), .int (xs (Int32.toNatClampNeg (x3 + 2)))]) (rest := [.int r8]) ⟨hx, hb, hml, hown, htsL⟩ (ct_X9_fewest l D cy adR (va_A (wR cy adR σR) H.size) (xs (Int32.toNatClampNeg (x3 + 1))) (xs (Int32.toNatClampNeg (x3 + 2))) a σR hRR) (cwV 2 htsL gL_law_X9_fewest rfl rfl rfl (by decide +kernel) ⟨Nat.le_of_ble_eq_true rfl, Nat.le_of_ble_eq_true rfl⟩) ⟨(fun a U g mk q => ⟨q.1, q.2.blind⟩), va_recv hK hW.2.1 (ci := 9) (q0 := 0) rfl (wR_0 cy adR σR), (fun U hU hWm => ⟨rfl, WdR.pre hW.2.1 hK hW.2.2.2.1.self hN hU hWm⟩)⟩ rfl rfl hl.1 rfl (lv_room (Nat.le_of_ble_eq_true rfl)) dL_law_738 ⟨by omega, by omega⟩) hS hW (fun r9 u9 H locs h9 hW hS => ?_)
  refine lv_icmp_eq (tgt := 1427) hx hb dL_law_741 (by decide) (fun _ => ?_) (fun z => absurd (h8.1.trans h9.1.symm) z)
  refine W.widen (k := cells + 7) (n := slots + 21) (by omega) (by omega) ?_
  exact kk _ _ _ _ _ h8.2 h9.2 hW hS
set_option maxHeartbeats 4000000 in
set_option maxRecDepth 100000 in
theorem law_c16 {p : Program} {e : Env} {s : State} {m : MethodId} {below : List Frame} {meth : Method} {c : Code} (l : Launch) {b L : Nat} {xs : Nat → Int32} (C0 : lw_At p s m meth c b L xs) {D : va_G} {cy : Nat → ClassId} {adC adR : Nat → Nat} (hK : va_K D vwCl (tysK cy) s) (hN : NW s) (hCA : CA2 s) {x3 : Int32} (hin : ∀ j : Nat, j < 6 → vp_in (x3 + nI j) L) {cells slots : Nat} (hcl : cells + 7 ≤ room_1.cells) (hsl : slots + 21 ≤ room_1.slots) {a : AS} {σC σR : S_} {H : Heap} {locs : List Loc} {ls : Array Slot} (hRC : RC a σC) (hRR : RR a σR) (hW : WI D cy adC adR s σC σR H) (hS : va_S (A0s s) s.heap H locs) (hl : lv_has ls 4 [(3, .int x3), (0, .ref b), (1, .ref (adC 0)), (2, .ref (adR 0))]) (kk : ∀ (a : AS) (σC σR : S_) (H : Heap) (locs : List Loc), RC a σC → RR a σR → WI D cy adC adR s σC σR H → va_S (A0s s) s.heap H locs → W p l e room_1 s m #[Value.ref b] below meth c H locs (cells + 7) (slots + 21) (lw_Z below #[Value.ref b] s) (F0 m 1427 ls [])) : W p l e room_1 s m #[Value.ref b] below meth c H locs cells slots (lw_Z below #[Value.ref b] s) (F0 m 746 ls []) := by
  obtain ⟨hx, hb, hr, hml, hown, hts, hX, hbl, hlocks, hgv⟩ := C0
  have htsL : ∀ w ∈ wsL_law, w.before #[Value.ref b] s = true := fun w h => hts w (wsL_law_in w h)
  have hbA : ¬ A0s s b := Nat.not_le.mpr hbl
  refine lv_aload_n hx hb dL_law_746 rfl (lv_at hl 2 rfl) ?_
  refine lv_aload_n hx hb dL_law_747 rfl (lv_at hl 1 rfl) ?_
  refine lv_iload_n hx hb dL_law_748 rfl (lv_at hl 0 rfl) ?_
  refine lv_iconst (v := 1) hx hb dL_law_749 (by decide) ?_
  refine lv_iadd hx hb dL_law_750 ?_
  refine va_sld hx hb hX hbl hbA hS (hin 1 (by decide)) dL_law_751 ?_
  refine lv_aload_n hx hb dL_law_752 rfl (lv_at hl 1 rfl) ?_
  refine lv_iload_n hx hb dL_law_753 rfl (lv_at hl 0 rfl) ?_
  refine lv_iconst (v := 2) hx hb dL_law_754 (by decide) ?_
  refine lv_iadd hx hb dL_law_755 ?_
  refine va_sld hx hb hX hbl hbA hS (hin 2 (by decide)) dL_law_756 ?_
  refine kC_i (va_runV (As := [.int (xs (Int32.toNatClampNeg (x3 + 1))), .int (xs (Int32.toNatClampNeg (x3 + 2)))]) (rest := []) ⟨hx, hb, hml, hown, htsL⟩ (ct_X8_longest l D cy adC (va_A (wC cy adC σC) H.size) (xs (Int32.toNatClampNeg (x3 + 1))) (xs (Int32.toNatClampNeg (x3 + 2))) a σC hRC) (cwV 2 htsL gL_law_X8_longest rfl rfl rfl (by decide +kernel) ⟨Nat.le_of_ble_eq_true rfl, Nat.le_of_ble_eq_true rfl⟩) ⟨(fun a U g mk q => ⟨q.1, q.2.blind⟩), va_recv hK hW.1 (ci := 8) (q0 := 0) rfl (wC_0 cy adC σC), (fun U hU hWm => ⟨rfl, WdC.pre hW.1 hK hW.2.2.1.self hN hU hWm⟩)⟩ rfl rfl hl.1 rfl (lv_room (Nat.le_of_ble_eq_true rfl)) dL_law_757 ⟨by omega, by omega⟩) hS hW (fun r8 u8 H locs h8 hW hS => ?_)
  refine lv_aload_n hx hb dL_law_760 rfl (lv_at hl 3 rfl) ?_
  refine lv_aload_n hx hb dL_law_761 rfl (lv_at hl 1 rfl) ?_
  refine lv_iload_n hx hb dL_law_762 rfl (lv_at hl 0 rfl) ?_
  refine lv_iconst (v := 1) hx hb dL_law_763 (by decide) ?_
  refine lv_iadd hx hb dL_law_764 ?_
  refine va_sld hx hb hX hbl hbA hS (hin 1 (by decide)) dL_law_765 ?_
  refine lv_aload_n hx hb dL_law_766 rfl (lv_at hl 1 rfl) ?_
  refine lv_iload_n hx hb dL_law_767 rfl (lv_at hl 0 rfl) ?_
  refine lv_iconst (v := 2) hx hb dL_law_768 (by decide) ?_
  refine lv_iadd hx hb dL_law_769 ?_
  refine va_sld hx hb hX hbl hbA hS (hin 2 (by decide)) dL_law_770 ?_
  refine kR_i (va_runV (As := [.int (xs (Int32.toNatClampNeg (x3 + 1))), .int (xs (Int32.toNatClampNeg (x3 + 2)))]) (rest := [.int r8]) ⟨hx, hb, hml, hown, htsL⟩ (ct_X9_longest l D cy adR (va_A (wR cy adR σR) H.size) (xs (Int32.toNatClampNeg (x3 + 1))) (xs (Int32.toNatClampNeg (x3 + 2))) a σR hRR) (cwV 2 htsL gL_law_X9_longest rfl rfl rfl (by decide +kernel) ⟨Nat.le_of_ble_eq_true rfl, Nat.le_of_ble_eq_true rfl⟩) ⟨(fun a U g mk q => ⟨q.1, q.2.blind⟩), va_recv hK hW.2.1 (ci := 9) (q0 := 0) rfl (wR_0 cy adR σR), (fun U hU hWm => ⟨rfl, WdR.pre hW.2.1 hK hW.2.2.2.1.self hN hU hWm⟩)⟩ rfl rfl hl.1 rfl (lv_room (Nat.le_of_ble_eq_true rfl)) dL_law_771 ⟨by omega, by omega⟩) hS hW (fun r9 u9 H locs h9 hW hS => ?_)
  refine lv_icmp_eq (tgt := 1427) hx hb dL_law_774 (by decide) (fun _ => ?_) (fun z => absurd (h8.1.trans h9.1.symm) z)
  refine W.widen (k := cells + 7) (n := slots + 21) (by omega) (by omega) ?_
  exact kk _ _ _ _ _ h8.2 h9.2 hW hS
set_option maxHeartbeats 4000000 in
set_option maxRecDepth 100000 in
theorem law_c17 {p : Program} {e : Env} {s : State} {m : MethodId} {below : List Frame} {meth : Method} {c : Code} (l : Launch) {b L : Nat} {xs : Nat → Int32} (C0 : lw_At p s m meth c b L xs) {D : va_G} {cy : Nat → ClassId} {adC adR : Nat → Nat} (hK : va_K D vwCl (tysK cy) s) (hN : NW s) (hCA : CA2 s) {x3 : Int32} (hin : ∀ j : Nat, j < 6 → vp_in (x3 + nI j) L) {cells slots : Nat} (hcl : cells + 7 ≤ room_1.cells) (hsl : slots + 21 ≤ room_1.slots) {a : AS} {σC σR : S_} {H : Heap} {locs : List Loc} {ls : Array Slot} (hRC : RC a σC) (hRR : RR a σR) (hW : WI D cy adC adR s σC σR H) (hS : va_S (A0s s) s.heap H locs) (hl : lv_has ls 4 [(3, .int x3), (0, .ref b), (1, .ref (adC 0)), (2, .ref (adR 0))]) (kk : ∀ (a : AS) (σC σR : S_) (H : Heap) (locs : List Loc), RC a σC → RR a σR → WI D cy adC adR s σC σR H → va_S (A0s s) s.heap H locs → W p l e room_1 s m #[Value.ref b] below meth c H locs (cells + 7) (slots + 21) (lw_Z below #[Value.ref b] s) (F0 m 1427 ls [])) : W p l e room_1 s m #[Value.ref b] below meth c H locs cells slots (lw_Z below #[Value.ref b] s) (F0 m 779 ls []) := by
  obtain ⟨hx, hb, hr, hml, hown, hts, hX, hbl, hlocks, hgv⟩ := C0
  have htsL : ∀ w ∈ wsL_law, w.before #[Value.ref b] s = true := fun w h => hts w (wsL_law_in w h)
  have hbA : ¬ A0s s b := Nat.not_le.mpr hbl
  refine lv_aload_n hx hb dL_law_779 rfl (lv_at hl 2 rfl) ?_
  refine lv_aload_n hx hb dL_law_780 rfl (lv_at hl 1 rfl) ?_
  refine lv_iload_n hx hb dL_law_781 rfl (lv_at hl 0 rfl) ?_
  refine lv_iconst (v := 1) hx hb dL_law_782 (by decide) ?_
  refine lv_iadd hx hb dL_law_783 ?_
  refine va_sld hx hb hX hbl hbA hS (hin 1 (by decide)) dL_law_784 ?_
  refine lv_aload_n hx hb dL_law_785 rfl (lv_at hl 1 rfl) ?_
  refine lv_iload_n hx hb dL_law_786 rfl (lv_at hl 0 rfl) ?_
  refine lv_iconst (v := 2) hx hb dL_law_787 (by decide) ?_
  refine lv_iadd hx hb dL_law_788 ?_
  refine va_sld hx hb hX hbl hbA hS (hin 2 (by decide)) dL_law_789 ?_
  refine kC_i (va_runV (As := [.int (xs (Int32.toNatClampNeg (x3 + 1))), .int (xs (Int32.toNatClampNeg (x3 + 2)))]) (rest := []) ⟨hx, hb, hml, hown, htsL⟩ (ct_X8_need l D cy adC (va_A (wC cy adC σC) H.size) (xs (Int32.toNatClampNeg (x3 + 1))) (xs (Int32.toNatClampNeg (x3 + 2))) a σC hRC) (cwV 2 htsL gL_law_X8_need rfl rfl rfl (by decide +kernel) ⟨Nat.le_of_ble_eq_true rfl, Nat.le_of_ble_eq_true rfl⟩) ⟨(fun a U g mk q => ⟨q.1, q.2.blind⟩), va_recv hK hW.1 (ci := 8) (q0 := 0) rfl (wC_0 cy adC σC), (fun U hU hWm => ⟨rfl, WdC.pre hW.1 hK hW.2.2.1.self hN hU hWm⟩)⟩ rfl rfl hl.1 rfl (lv_room (Nat.le_of_ble_eq_true rfl)) dL_law_790 ⟨by omega, by omega⟩) hS hW (fun r8 u8 H locs h8 hW hS => ?_)
  refine lv_aload_n hx hb dL_law_793 rfl (lv_at hl 3 rfl) ?_
  refine lv_aload_n hx hb dL_law_794 rfl (lv_at hl 1 rfl) ?_
  refine lv_iload_n hx hb dL_law_795 rfl (lv_at hl 0 rfl) ?_
  refine lv_iconst (v := 1) hx hb dL_law_796 (by decide) ?_
  refine lv_iadd hx hb dL_law_797 ?_
  refine va_sld hx hb hX hbl hbA hS (hin 1 (by decide)) dL_law_798 ?_
  refine lv_aload_n hx hb dL_law_799 rfl (lv_at hl 1 rfl) ?_
  refine lv_iload_n hx hb dL_law_800 rfl (lv_at hl 0 rfl) ?_
  refine lv_iconst (v := 2) hx hb dL_law_801 (by decide) ?_
  refine lv_iadd hx hb dL_law_802 ?_
  refine va_sld hx hb hX hbl hbA hS (hin 2 (by decide)) dL_law_803 ?_
  refine kR_i (va_runV (As := [.int (xs (Int32.toNatClampNeg (x3 + 1))), .int (xs (Int32.toNatClampNeg (x3 + 2)))]) (rest := [.int r8]) ⟨hx, hb, hml, hown, htsL⟩ (ct_X9_need l D cy adR (va_A (wR cy adR σR) H.size) (xs (Int32.toNatClampNeg (x3 + 1))) (xs (Int32.toNatClampNeg (x3 + 2))) a σR hRR) (cwV 2 htsL gL_law_X9_need rfl rfl rfl (by decide +kernel) ⟨Nat.le_of_ble_eq_true rfl, Nat.le_of_ble_eq_true rfl⟩) ⟨(fun a U g mk q => ⟨q.1, q.2.blind⟩), va_recv hK hW.2.1 (ci := 9) (q0 := 0) rfl (wR_0 cy adR σR), (fun U hU hWm => ⟨rfl, WdR.pre hW.2.1 hK hW.2.2.2.1.self hN hU hWm⟩)⟩ rfl rfl hl.1 rfl (lv_room (Nat.le_of_ble_eq_true rfl)) dL_law_804 ⟨by omega, by omega⟩) hS hW (fun r9 u9 H locs h9 hW hS => ?_)
  refine lv_icmp_eq (tgt := 1427) hx hb dL_law_807 (by decide) (fun _ => ?_) (fun z => absurd (h8.1.trans h9.1.symm) z)
  refine W.widen (k := cells + 7) (n := slots + 21) (by omega) (by omega) ?_
  exact kk _ _ _ _ _ h8.2 h9.2 hW hS
set_option maxHeartbeats 4000000 in
set_option maxRecDepth 100000 in
theorem law_c18 {p : Program} {e : Env} {s : State} {m : MethodId} {below : List Frame} {meth : Method} {c : Code} (l : Launch) {b L : Nat} {xs : Nat → Int32} (C0 : lw_At p s m meth c b L xs) {D : va_G} {cy : Nat → ClassId} {adC adR : Nat → Nat} (hK : va_K D vwCl (tysK cy) s) (hN : NW s) (hCA : CA2 s) {x3 : Int32} (hin : ∀ j : Nat, j < 6 → vp_in (x3 + nI j) L) {cells slots : Nat} (hcl : cells + 7 ≤ room_1.cells) (hsl : slots + 21 ≤ room_1.slots) {a : AS} {σC σR : S_} {H : Heap} {locs : List Loc} {ls : Array Slot} (hRC : RC a σC) (hRR : RR a σR) (hW : WI D cy adC adR s σC σR H) (hS : va_S (A0s s) s.heap H locs) (hl : lv_has ls 4 [(3, .int x3), (0, .ref b), (1, .ref (adC 0)), (2, .ref (adR 0))]) (kk : ∀ (a : AS) (σC σR : S_) (H : Heap) (locs : List Loc), RC a σC → RR a σR → WI D cy adC adR s σC σR H → va_S (A0s s) s.heap H locs → W p l e room_1 s m #[Value.ref b] below meth c H locs (cells + 7) (slots + 21) (lw_Z below #[Value.ref b] s) (F0 m 1427 ls [])) : W p l e room_1 s m #[Value.ref b] below meth c H locs cells slots (lw_Z below #[Value.ref b] s) (F0 m 812 ls []) := by
  obtain ⟨hx, hb, hr, hml, hown, hts, hX, hbl, hlocks, hgv⟩ := C0
  have htsL : ∀ w ∈ wsL_law, w.before #[Value.ref b] s = true := fun w h => hts w (wsL_law_in w h)
  have hbA : ¬ A0s s b := Nat.not_le.mpr hbl
  refine lv_aload_n hx hb dL_law_812 rfl (lv_at hl 2 rfl) ?_
  refine lv_aload_n hx hb dL_law_813 rfl (lv_at hl 1 rfl) ?_
  refine lv_iload_n hx hb dL_law_814 rfl (lv_at hl 0 rfl) ?_
  refine lv_iconst (v := 1) hx hb dL_law_815 (by decide) ?_
  refine lv_iadd hx hb dL_law_816 ?_
  refine va_sld hx hb hX hbl hbA hS (hin 1 (by decide)) dL_law_817 ?_
  refine kC_i (va_runV (As := [.int (xs (Int32.toNatClampNeg (x3 + 1)))]) (rest := []) ⟨hx, hb, hml, hown, htsL⟩ (ct_X8_clash l D cy adC (va_A (wC cy adC σC) H.size) (xs (Int32.toNatClampNeg (x3 + 1))) a σC hRC) (cwV 1 htsL gL_law_X8_clash rfl rfl rfl (by decide +kernel) ⟨Nat.le_of_ble_eq_true rfl, Nat.le_of_ble_eq_true rfl⟩) ⟨(fun a U g mk q => ⟨q.1, q.2.blind⟩), va_recv hK hW.1 (ci := 8) (q0 := 0) rfl (wC_0 cy adC σC), (fun U hU hWm => ⟨rfl, WdC.pre hW.1 hK hW.2.2.1.self hN hU hWm⟩)⟩ rfl rfl hl.1 rfl (lv_room (Nat.le_of_ble_eq_true rfl)) dL_law_818 ⟨by omega, by omega⟩) hS hW (fun r8 u8 H locs h8 hW hS => ?_)
  refine lv_aload_n hx hb dL_law_821 rfl (lv_at hl 3 rfl) ?_
  refine lv_aload_n hx hb dL_law_822 rfl (lv_at hl 1 rfl) ?_
  refine lv_iload_n hx hb dL_law_823 rfl (lv_at hl 0 rfl) ?_
  refine lv_iconst (v := 1) hx hb dL_law_824 (by decide) ?_
  refine lv_iadd hx hb dL_law_825 ?_
  refine va_sld hx hb hX hbl hbA hS (hin 1 (by decide)) dL_law_826 ?_
  refine kR_i (va_runV (As := [.int (xs (Int32.toNatClampNeg (x3 + 1)))]) (rest := [.int r8]) ⟨hx, hb, hml, hown, htsL⟩ (ct_X9_clash l D cy adR (va_A (wR cy adR σR) H.size) (xs (Int32.toNatClampNeg (x3 + 1))) a σR hRR) (cwV 1 htsL gL_law_X9_clash rfl rfl rfl (by decide +kernel) ⟨Nat.le_of_ble_eq_true rfl, Nat.le_of_ble_eq_true rfl⟩) ⟨(fun a U g mk q => ⟨q.1, q.2.blind⟩), va_recv hK hW.2.1 (ci := 9) (q0 := 0) rfl (wR_0 cy adR σR), (fun U hU hWm => ⟨rfl, WdR.pre hW.2.1 hK hW.2.2.2.1.self hN hU hWm⟩)⟩ rfl rfl hl.1 rfl (lv_room (Nat.le_of_ble_eq_true rfl)) dL_law_827 ⟨by omega, by omega⟩) hS hW (fun r9 u9 H locs h9 hW hS => ?_)
  refine lv_icmp_eq (tgt := 1427) hx hb dL_law_830 (by decide) (fun _ => ?_) (fun z => absurd (h8.1.trans h9.1.symm) z)
  refine W.widen (k := cells + 7) (n := slots + 21) (by omega) (by omega) ?_
  exact kk _ _ _ _ _ h8.2 h9.2 hW hS
set_option maxHeartbeats 4000000 in
set_option maxRecDepth 100000 in
theorem law_c19 {p : Program} {e : Env} {s : State} {m : MethodId} {below : List Frame} {meth : Method} {c : Code} (l : Launch) {b L : Nat} {xs : Nat → Int32} (C0 : lw_At p s m meth c b L xs) {D : va_G} {cy : Nat → ClassId} {adC adR : Nat → Nat} (hK : va_K D vwCl (tysK cy) s) (hN : NW s) (hCA : CA2 s) {x3 : Int32} (hin : ∀ j : Nat, j < 6 → vp_in (x3 + nI j) L) {cells slots : Nat} (hcl : cells + 7 ≤ room_1.cells) (hsl : slots + 21 ≤ room_1.slots) {a : AS} {σC σR : S_} {H : Heap} {locs : List Loc} {ls : Array Slot} (hRC : RC a σC) (hRR : RR a σR) (hW : WI D cy adC adR s σC σR H) (hS : va_S (A0s s) s.heap H locs) (hl : lv_has ls 4 [(3, .int x3), (0, .ref b), (1, .ref (adC 0)), (2, .ref (adR 0))]) (kk : ∀ (a : AS) (σC σR : S_) (H : Heap) (locs : List Loc), RC a σC → RR a σR → WI D cy adC adR s σC σR H → va_S (A0s s) s.heap H locs → W p l e room_1 s m #[Value.ref b] below meth c H locs (cells + 7) (slots + 21) (lw_Z below #[Value.ref b] s) (F0 m 1427 ls [])) : W p l e room_1 s m #[Value.ref b] below meth c H locs cells slots (lw_Z below #[Value.ref b] s) (F0 m 835 ls []) := by
  obtain ⟨hx, hb, hr, hml, hown, hts, hX, hbl, hlocks, hgv⟩ := C0
  have htsL : ∀ w ∈ wsL_law, w.before #[Value.ref b] s = true := fun w h => hts w (wsL_law_in w h)
  have hbA : ¬ A0s s b := Nat.not_le.mpr hbl
  refine lv_aload_n hx hb dL_law_835 rfl (lv_at hl 2 rfl) ?_
  refine lv_aload_n hx hb dL_law_836 rfl (lv_at hl 1 rfl) ?_
  refine lv_iload_n hx hb dL_law_837 rfl (lv_at hl 0 rfl) ?_
  refine lv_iconst (v := 1) hx hb dL_law_838 (by decide) ?_
  refine lv_iadd hx hb dL_law_839 ?_
  refine va_sld hx hb hX hbl hbA hS (hin 1 (by decide)) dL_law_840 ?_
  refine lv_aload_n hx hb dL_law_841 rfl (lv_at hl 1 rfl) ?_
  refine lv_iload_n hx hb dL_law_842 rfl (lv_at hl 0 rfl) ?_
  refine lv_iconst (v := 2) hx hb dL_law_843 (by decide) ?_
  refine lv_iadd hx hb dL_law_844 ?_
  refine va_sld hx hb hX hbl hbA hS (hin 2 (by decide)) dL_law_845 ?_
  refine lv_aload_n hx hb dL_law_846 rfl (lv_at hl 1 rfl) ?_
  refine lv_iload_n hx hb dL_law_847 rfl (lv_at hl 0 rfl) ?_
  refine lv_iconst (v := 3) hx hb dL_law_848 (by decide) ?_
  refine lv_iadd hx hb dL_law_849 ?_
  refine va_sld hx hb hX hbl hbA hS (hin 3 (by decide)) dL_law_850 ?_
  refine lv_aload_n hx hb dL_law_851 rfl (lv_at hl 1 rfl) ?_
  refine lv_iload_n hx hb dL_law_852 rfl (lv_at hl 0 rfl) ?_
  refine lv_iconst (v := 4) hx hb dL_law_853 (by decide) ?_
  refine lv_iadd hx hb dL_law_854 ?_
  refine va_sld hx hb hX hbl hbA hS (hin 4 (by decide)) dL_law_855 ?_
  refine lv_aload_n hx hb dL_law_856 rfl (lv_at hl 1 rfl) ?_
  refine lv_iload_n hx hb dL_law_857 rfl (lv_at hl 0 rfl) ?_
  refine lv_iconst (v := 5) hx hb dL_law_858 (by decide) ?_
  refine lv_iadd hx hb dL_law_859 ?_
  refine va_sld hx hb hX hbl hbA hS (hin 5 (by decide)) dL_law_860 ?_
  refine kC_i (va_runV (As := [.int (xs (Int32.toNatClampNeg (x3 + 1))), .int (xs (Int32.toNatClampNeg (x3 + 2))), .int (xs (Int32.toNatClampNeg (x3 + 3))), .int (xs (Int32.toNatClampNeg (x3 + 4))), .int (xs (Int32.toNatClampNeg (x3 + 5)))]) (rest := []) ⟨hx, hb, hml, hown, htsL⟩ (ct_X8_plan l D cy adC (va_A (wC cy adC σC) H.size) (xs (Int32.toNatClampNeg (x3 + 1))) (xs (Int32.toNatClampNeg (x3 + 2))) (xs (Int32.toNatClampNeg (x3 + 3))) (xs (Int32.toNatClampNeg (x3 + 4))) (xs (Int32.toNatClampNeg (x3 + 5))) a σC hRC) (cwV 5 htsL gL_law_X8_plan rfl rfl rfl (by decide +kernel) ⟨Nat.le_of_ble_eq_true rfl, Nat.le_of_ble_eq_true rfl⟩) ⟨(fun a U g mk q => ⟨q.1, q.2.blind⟩), va_recv hK hW.1 (ci := 8) (q0 := 0) rfl (wC_0 cy adC σC), (fun U hU hWm => ⟨rfl, WdC.pre hW.1 hK hW.2.2.1.self hN hU hWm⟩)⟩ rfl rfl hl.1 rfl (lv_room (Nat.le_of_ble_eq_true rfl)) dL_law_861 ⟨by omega, by omega⟩) hS hW (fun r8 u8 H locs h8 hW hS => ?_)
  refine lv_aload_n hx hb dL_law_864 rfl (lv_at hl 3 rfl) ?_
  refine lv_aload_n hx hb dL_law_865 rfl (lv_at hl 1 rfl) ?_
  refine lv_iload_n hx hb dL_law_866 rfl (lv_at hl 0 rfl) ?_
  refine lv_iconst (v := 1) hx hb dL_law_867 (by decide) ?_
  refine lv_iadd hx hb dL_law_868 ?_
  refine va_sld hx hb hX hbl hbA hS (hin 1 (by decide)) dL_law_869 ?_
  refine lv_aload_n hx hb dL_law_870 rfl (lv_at hl 1 rfl) ?_
  refine lv_iload_n hx hb dL_law_871 rfl (lv_at hl 0 rfl) ?_
  refine lv_iconst (v := 2) hx hb dL_law_872 (by decide) ?_
  refine lv_iadd hx hb dL_law_873 ?_
  refine va_sld hx hb hX hbl hbA hS (hin 2 (by decide)) dL_law_874 ?_
  refine lv_aload_n hx hb dL_law_875 rfl (lv_at hl 1 rfl) ?_
  refine lv_iload_n hx hb dL_law_876 rfl (lv_at hl 0 rfl) ?_
  refine lv_iconst (v := 3) hx hb dL_law_877 (by decide) ?_
  refine lv_iadd hx hb dL_law_878 ?_
  refine va_sld hx hb hX hbl hbA hS (hin 3 (by decide)) dL_law_879 ?_
  refine lv_aload_n hx hb dL_law_880 rfl (lv_at hl 1 rfl) ?_
  refine lv_iload_n hx hb dL_law_881 rfl (lv_at hl 0 rfl) ?_
  refine lv_iconst (v := 4) hx hb dL_law_882 (by decide) ?_
  refine lv_iadd hx hb dL_law_883 ?_
  refine va_sld hx hb hX hbl hbA hS (hin 4 (by decide)) dL_law_884 ?_
  refine lv_aload_n hx hb dL_law_885 rfl (lv_at hl 1 rfl) ?_
  refine lv_iload_n hx hb dL_law_886 rfl (lv_at hl 0 rfl) ?_
  refine lv_iconst (v := 5) hx hb dL_law_887 (by decide) ?_
  refine lv_iadd hx hb dL_law_888 ?_
  refine va_sld hx hb hX hbl hbA hS (hin 5 (by decide)) dL_law_889 ?_
  refine kR_i (va_runV (As := [.int (xs (Int32.toNatClampNeg (x3 + 1))), .int (xs (Int32.toNatClampNeg (x3 + 2))), .int (xs (Int32.toNatClampNeg (x3 + 3))), .int (xs (Int32.toNatClampNeg (x3 + 4))), .int (xs (Int32.toNatClampNeg (x3 + 5)))]) (rest := [.int r8]) ⟨hx, hb, hml, hown, htsL⟩ (ct_X9_plan l D cy adR (va_A (wR cy adR σR) H.size) (xs (Int32.toNatClampNeg (x3 + 1))) (xs (Int32.toNatClampNeg (x3 + 2))) (xs (Int32.toNatClampNeg (x3 + 3))) (xs (Int32.toNatClampNeg (x3 + 4))) (xs (Int32.toNatClampNeg (x3 + 5))) a σR hRR) (cwV 5 htsL gL_law_X9_plan rfl rfl rfl (by decide +kernel) ⟨Nat.le_of_ble_eq_true rfl, Nat.le_of_ble_eq_true rfl⟩) ⟨(fun a U g mk q => ⟨q.1, q.2.blind⟩), va_recv hK hW.2.1 (ci := 9) (q0 := 0) rfl (wR_0 cy adR σR), (fun U hU hWm => ⟨rfl, WdR.pre hW.2.1 hK hW.2.2.2.1.self hN hU hWm⟩)⟩ rfl rfl hl.1 rfl (lv_room (Nat.le_of_ble_eq_true rfl)) dL_law_890 ⟨by omega, by omega⟩) hS hW (fun r9 u9 H locs h9 hW hS => ?_)
  refine lv_icmp_eq (tgt := 1427) hx hb dL_law_893 (by decide) (fun _ => ?_) (fun z => absurd (h8.1.trans h9.1.symm) z)
  refine W.widen (k := cells + 7) (n := slots + 21) (by omega) (by omega) ?_
  exact kk _ _ _ _ _ h8.2 h9.2 hW hS
set_option maxHeartbeats 4000000 in
set_option maxRecDepth 100000 in
theorem law_c20 {p : Program} {e : Env} {s : State} {m : MethodId} {below : List Frame} {meth : Method} {c : Code} (l : Launch) {b L : Nat} {xs : Nat → Int32} (C0 : lw_At p s m meth c b L xs) {D : va_G} {cy : Nat → ClassId} {adC adR : Nat → Nat} (hK : va_K D vwCl (tysK cy) s) (hN : NW s) (hCA : CA2 s) {x3 : Int32} (hin : ∀ j : Nat, j < 6 → vp_in (x3 + nI j) L) {cells slots : Nat} (hcl : cells + 7 ≤ room_1.cells) (hsl : slots + 21 ≤ room_1.slots) {a : AS} {σC σR : S_} {H : Heap} {locs : List Loc} {ls : Array Slot} (hRC : RC a σC) (hRR : RR a σR) (hW : WI D cy adC adR s σC σR H) (hS : va_S (A0s s) s.heap H locs) (hl : lv_has ls 4 [(3, .int x3), (0, .ref b), (1, .ref (adC 0)), (2, .ref (adR 0))]) (kk : ∀ (a : AS) (σC σR : S_) (H : Heap) (locs : List Loc), RC a σC → RR a σR → WI D cy adC adR s σC σR H → va_S (A0s s) s.heap H locs → W p l e room_1 s m #[Value.ref b] below meth c H locs (cells + 7) (slots + 21) (lw_Z below #[Value.ref b] s) (F0 m 1427 ls [])) : W p l e room_1 s m #[Value.ref b] below meth c H locs cells slots (lw_Z below #[Value.ref b] s) (F0 m 898 ls []) := by
  obtain ⟨hx, hb, hr, hml, hown, hts, hX, hbl, hlocks, hgv⟩ := C0
  have htsL : ∀ w ∈ wsL_law, w.before #[Value.ref b] s = true := fun w h => hts w (wsL_law_in w h)
  have hbA : ¬ A0s s b := Nat.not_le.mpr hbl
  refine lv_aload_n hx hb dL_law_898 rfl (lv_at hl 2 rfl) ?_
  refine lv_aload_n hx hb dL_law_899 rfl (lv_at hl 1 rfl) ?_
  refine lv_iload_n hx hb dL_law_900 rfl (lv_at hl 0 rfl) ?_
  refine lv_iconst (v := 1) hx hb dL_law_901 (by decide) ?_
  refine lv_iadd hx hb dL_law_902 ?_
  refine va_sld hx hb hX hbl hbA hS (hin 1 (by decide)) dL_law_903 ?_
  refine lv_aload_n hx hb dL_law_904 rfl (lv_at hl 1 rfl) ?_
  refine lv_iload_n hx hb dL_law_905 rfl (lv_at hl 0 rfl) ?_
  refine lv_iconst (v := 2) hx hb dL_law_906 (by decide) ?_
  refine lv_iadd hx hb dL_law_907 ?_
  refine va_sld hx hb hX hbl hbA hS (hin 2 (by decide)) dL_law_908 ?_
  refine lv_aload_n hx hb dL_law_909 rfl (lv_at hl 1 rfl) ?_
  refine lv_iload_n hx hb dL_law_910 rfl (lv_at hl 0 rfl) ?_
  refine lv_iconst (v := 3) hx hb dL_law_911 (by decide) ?_
  refine lv_iadd hx hb dL_law_912 ?_
  refine va_sld hx hb hX hbl hbA hS (hin 3 (by decide)) dL_law_913 ?_
  refine lv_aload_n hx hb dL_law_914 rfl (lv_at hl 1 rfl) ?_
  refine lv_iload_n hx hb dL_law_915 rfl (lv_at hl 0 rfl) ?_
  refine lv_iconst (v := 4) hx hb dL_law_916 (by decide) ?_
  refine lv_iadd hx hb dL_law_917 ?_
  refine va_sld hx hb hX hbl hbA hS (hin 4 (by decide)) dL_law_918 ?_
  refine lv_if_eq (tgt := 926) hx hb dL_law_919 (by decide) (fun hz => ?_) (fun hz => ?_)
  · skip
    refine lv_iconst (v := 0) hx hb dL_law_926 (by decide) ?_
    refine kC_i (va_runV (As := [.int (xs (Int32.toNatClampNeg (x3 + 1))), .int (xs (Int32.toNatClampNeg (x3 + 2))), .int (xs (Int32.toNatClampNeg (x3 + 3))), .int 0]) (rest := []) ⟨hx, hb, hml, hown, htsL⟩ (ct_X8_reading l D cy adC (va_A (wC cy adC σC) H.size) (xs (Int32.toNatClampNeg (x3 + 1))) (xs (Int32.toNatClampNeg (x3 + 2))) (xs (Int32.toNatClampNeg (x3 + 3))) 0 a σC ⟨hRC, Or.inl rfl⟩) (cwV 4 htsL gL_law_X8_reading rfl rfl rfl (by decide +kernel) ⟨Nat.le_of_ble_eq_true rfl, Nat.le_of_ble_eq_true rfl⟩) ⟨(fun a U g mk q => ⟨q.1, q.2.blind⟩), va_recv hK hW.1 (ci := 8) (q0 := 0) rfl (wC_0 cy adC σC), (fun U hU hWm => ⟨rfl, WdC.pre hW.1 hK hW.2.2.1.self hN hU hWm⟩)⟩ rfl rfl hl.1 rfl (lv_room (Nat.le_of_ble_eq_true rfl)) dL_law_927 ⟨by omega, by omega⟩) hS hW (fun r8 u8 H locs h8 hW hS => ?_)
    refine lv_aload_n hx hb dL_law_930 rfl (lv_at hl 3 rfl) ?_
    refine lv_aload_n hx hb dL_law_931 rfl (lv_at hl 1 rfl) ?_
    refine lv_iload_n hx hb dL_law_932 rfl (lv_at hl 0 rfl) ?_
    refine lv_iconst (v := 1) hx hb dL_law_933 (by decide) ?_
    refine lv_iadd hx hb dL_law_934 ?_
    refine va_sld hx hb hX hbl hbA hS (hin 1 (by decide)) dL_law_935 ?_
    refine lv_aload_n hx hb dL_law_936 rfl (lv_at hl 1 rfl) ?_
    refine lv_iload_n hx hb dL_law_937 rfl (lv_at hl 0 rfl) ?_
    refine lv_iconst (v := 2) hx hb dL_law_938 (by decide) ?_
    refine lv_iadd hx hb dL_law_939 ?_
    refine va_sld hx hb hX hbl hbA hS (hin 2 (by decide)) dL_law_940 ?_
    refine lv_aload_n hx hb dL_law_941 rfl (lv_at hl 1 rfl) ?_
    refine lv_iload_n hx hb dL_law_942 rfl (lv_at hl 0 rfl) ?_
    refine lv_iconst (v := 3) hx hb dL_law_943 (by decide) ?_
    refine lv_iadd hx hb dL_law_944 ?_
    refine va_sld hx hb hX hbl hbA hS (hin 3 (by decide)) dL_law_945 ?_
    refine lv_aload_n hx hb dL_law_946 rfl (lv_at hl 1 rfl) ?_
    refine lv_iload_n hx hb dL_law_947 rfl (lv_at hl 0 rfl) ?_
    refine lv_iconst (v := 4) hx hb dL_law_948 (by decide) ?_
    refine lv_iadd hx hb dL_law_949 ?_
    refine va_sld hx hb hX hbl hbA hS (hin 4 (by decide)) dL_law_950 ?_
    refine lv_if_eq (tgt := 958) hx hb dL_law_951 (by decide) (fun _ => ?_) (fun z => absurd hz z)
    refine lv_iconst (v := 0) hx hb dL_law_958 (by decide) ?_
    refine kR_i (va_runV (As := [.int (xs (Int32.toNatClampNeg (x3 + 1))), .int (xs (Int32.toNatClampNeg (x3 + 2))), .int (xs (Int32.toNatClampNeg (x3 + 3))), .int 0]) (rest := [.int r8]) ⟨hx, hb, hml, hown, htsL⟩ (ct_X9_reading l D cy adR (va_A (wR cy adR σR) H.size) (xs (Int32.toNatClampNeg (x3 + 1))) (xs (Int32.toNatClampNeg (x3 + 2))) (xs (Int32.toNatClampNeg (x3 + 3))) 0 a σR ⟨hRR, Or.inl rfl⟩) (cwV 4 htsL gL_law_X9_reading rfl rfl rfl (by decide +kernel) ⟨Nat.le_of_ble_eq_true rfl, Nat.le_of_ble_eq_true rfl⟩) ⟨(fun a U g mk q => ⟨q.1, q.2.blind⟩), va_recv hK hW.2.1 (ci := 9) (q0 := 0) rfl (wR_0 cy adR σR), (fun U hU hWm => ⟨rfl, WdR.pre hW.2.1 hK hW.2.2.2.1.self hN hU hWm⟩)⟩ rfl rfl hl.1 rfl (lv_room (Nat.le_of_ble_eq_true rfl)) dL_law_959 ⟨by omega, by omega⟩) hS hW (fun r9 u9 H locs h9 hW hS => ?_)
    refine lv_icmp_eq (tgt := 1427) hx hb dL_law_962 (by decide) (fun _ => ?_) (fun z => absurd (h8.1.trans h9.1.symm) z)
    refine W.widen (k := cells + 7) (n := slots + 21) (by omega) (by omega) ?_
    exact kk _ _ _ _ _ h8.2 h9.2 hW hS
  · skip
    refine lv_iconst (v := 1) hx hb dL_law_922 (by decide) ?_
    refine lv_goto (tgt := 927) hx hb dL_law_923 (by decide) ?_
    refine kC_i (va_runV (As := [.int (xs (Int32.toNatClampNeg (x3 + 1))), .int (xs (Int32.toNatClampNeg (x3 + 2))), .int (xs (Int32.toNatClampNeg (x3 + 3))), .int 1]) (rest := []) ⟨hx, hb, hml, hown, htsL⟩ (ct_X8_reading l D cy adC (va_A (wC cy adC σC) H.size) (xs (Int32.toNatClampNeg (x3 + 1))) (xs (Int32.toNatClampNeg (x3 + 2))) (xs (Int32.toNatClampNeg (x3 + 3))) 1 a σC ⟨hRC, Or.inr rfl⟩) (cwV 4 htsL gL_law_X8_reading rfl rfl rfl (by decide +kernel) ⟨Nat.le_of_ble_eq_true rfl, Nat.le_of_ble_eq_true rfl⟩) ⟨(fun a U g mk q => ⟨q.1, q.2.blind⟩), va_recv hK hW.1 (ci := 8) (q0 := 0) rfl (wC_0 cy adC σC), (fun U hU hWm => ⟨rfl, WdC.pre hW.1 hK hW.2.2.1.self hN hU hWm⟩)⟩ rfl rfl hl.1 rfl (lv_room (Nat.le_of_ble_eq_true rfl)) dL_law_927 ⟨by omega, by omega⟩) hS hW (fun r8 u8 H locs h8 hW hS => ?_)
    refine lv_aload_n hx hb dL_law_930 rfl (lv_at hl 3 rfl) ?_
    refine lv_aload_n hx hb dL_law_931 rfl (lv_at hl 1 rfl) ?_
    refine lv_iload_n hx hb dL_law_932 rfl (lv_at hl 0 rfl) ?_
    refine lv_iconst (v := 1) hx hb dL_law_933 (by decide) ?_
    refine lv_iadd hx hb dL_law_934 ?_
    refine va_sld hx hb hX hbl hbA hS (hin 1 (by decide)) dL_law_935 ?_
    refine lv_aload_n hx hb dL_law_936 rfl (lv_at hl 1 rfl) ?_
    refine lv_iload_n hx hb dL_law_937 rfl (lv_at hl 0 rfl) ?_
    refine lv_iconst (v := 2) hx hb dL_law_938 (by decide) ?_
    refine lv_iadd hx hb dL_law_939 ?_
    refine va_sld hx hb hX hbl hbA hS (hin 2 (by decide)) dL_law_940 ?_
    refine lv_aload_n hx hb dL_law_941 rfl (lv_at hl 1 rfl) ?_
    refine lv_iload_n hx hb dL_law_942 rfl (lv_at hl 0 rfl) ?_
    refine lv_iconst (v := 3) hx hb dL_law_943 (by decide) ?_
    refine lv_iadd hx hb dL_law_944 ?_
    refine va_sld hx hb hX hbl hbA hS (hin 3 (by decide)) dL_law_945 ?_
    refine lv_aload_n hx hb dL_law_946 rfl (lv_at hl 1 rfl) ?_
    refine lv_iload_n hx hb dL_law_947 rfl (lv_at hl 0 rfl) ?_
    refine lv_iconst (v := 4) hx hb dL_law_948 (by decide) ?_
    refine lv_iadd hx hb dL_law_949 ?_
    refine va_sld hx hb hX hbl hbA hS (hin 4 (by decide)) dL_law_950 ?_
    refine lv_if_eq (tgt := 958) hx hb dL_law_951 (by decide) (fun z => absurd z hz) (fun _ => ?_)
    refine lv_iconst (v := 1) hx hb dL_law_954 (by decide) ?_
    refine lv_goto (tgt := 959) hx hb dL_law_955 (by decide) ?_
    refine kR_i (va_runV (As := [.int (xs (Int32.toNatClampNeg (x3 + 1))), .int (xs (Int32.toNatClampNeg (x3 + 2))), .int (xs (Int32.toNatClampNeg (x3 + 3))), .int 1]) (rest := [.int r8]) ⟨hx, hb, hml, hown, htsL⟩ (ct_X9_reading l D cy adR (va_A (wR cy adR σR) H.size) (xs (Int32.toNatClampNeg (x3 + 1))) (xs (Int32.toNatClampNeg (x3 + 2))) (xs (Int32.toNatClampNeg (x3 + 3))) 1 a σR ⟨hRR, Or.inr rfl⟩) (cwV 4 htsL gL_law_X9_reading rfl rfl rfl (by decide +kernel) ⟨Nat.le_of_ble_eq_true rfl, Nat.le_of_ble_eq_true rfl⟩) ⟨(fun a U g mk q => ⟨q.1, q.2.blind⟩), va_recv hK hW.2.1 (ci := 9) (q0 := 0) rfl (wR_0 cy adR σR), (fun U hU hWm => ⟨rfl, WdR.pre hW.2.1 hK hW.2.2.2.1.self hN hU hWm⟩)⟩ rfl rfl hl.1 rfl (lv_room (Nat.le_of_ble_eq_true rfl)) dL_law_959 ⟨by omega, by omega⟩) hS hW (fun r9 u9 H locs h9 hW hS => ?_)
    refine lv_icmp_eq (tgt := 1427) hx hb dL_law_962 (by decide) (fun _ => ?_) (fun z => absurd (h8.1.trans h9.1.symm) z)
    refine W.widen (k := cells + 7) (n := slots + 21) (by omega) (by omega) ?_
    exact kk _ _ _ _ _ h8.2 h9.2 hW hS
set_option maxHeartbeats 4000000 in
set_option maxRecDepth 100000 in
theorem law_c21 {p : Program} {e : Env} {s : State} {m : MethodId} {below : List Frame} {meth : Method} {c : Code} (l : Launch) {b L : Nat} {xs : Nat → Int32} (C0 : lw_At p s m meth c b L xs) {D : va_G} {cy : Nat → ClassId} {adC adR : Nat → Nat} (hK : va_K D vwCl (tysK cy) s) (hN : NW s) (hCA : CA2 s) {x3 : Int32} (hin : ∀ j : Nat, j < 6 → vp_in (x3 + nI j) L) {cells slots : Nat} (hcl : cells + 7 ≤ room_1.cells) (hsl : slots + 21 ≤ room_1.slots) {a : AS} {σC σR : S_} {H : Heap} {locs : List Loc} {ls : Array Slot} (hRC : RC a σC) (hRR : RR a σR) (hW : WI D cy adC adR s σC σR H) (hS : va_S (A0s s) s.heap H locs) (hl : lv_has ls 4 [(3, .int x3), (0, .ref b), (1, .ref (adC 0)), (2, .ref (adR 0))]) (kk : ∀ (a : AS) (σC σR : S_) (H : Heap) (locs : List Loc), RC a σC → RR a σR → WI D cy adC adR s σC σR H → va_S (A0s s) s.heap H locs → W p l e room_1 s m #[Value.ref b] below meth c H locs (cells + 7) (slots + 21) (lw_Z below #[Value.ref b] s) (F0 m 1427 ls [])) : W p l e room_1 s m #[Value.ref b] below meth c H locs cells slots (lw_Z below #[Value.ref b] s) (F0 m 967 ls []) := by
  obtain ⟨hx, hb, hr, hml, hown, hts, hX, hbl, hlocks, hgv⟩ := C0
  have htsL : ∀ w ∈ wsL_law, w.before #[Value.ref b] s = true := fun w h => hts w (wsL_law_in w h)
  have hbA : ¬ A0s s b := Nat.not_le.mpr hbl
  refine lv_aload_n hx hb dL_law_967 rfl (lv_at hl 2 rfl) ?_
  refine lv_aload_n hx hb dL_law_968 rfl (lv_at hl 1 rfl) ?_
  refine lv_iload_n hx hb dL_law_969 rfl (lv_at hl 0 rfl) ?_
  refine lv_iconst (v := 1) hx hb dL_law_970 (by decide) ?_
  refine lv_iadd hx hb dL_law_971 ?_
  refine va_sld hx hb hX hbl hbA hS (hin 1 (by decide)) dL_law_972 ?_
  refine kC_i (va_runV (As := [.int (xs (Int32.toNatClampNeg (x3 + 1)))]) (rest := []) ⟨hx, hb, hml, hown, htsL⟩ (ct_X8_back l D cy adC (va_A (wC cy adC σC) H.size) (xs (Int32.toNatClampNeg (x3 + 1))) a σC hRC) (cwV 1 htsL gL_law_X8_back rfl rfl rfl (by decide +kernel) ⟨Nat.le_of_ble_eq_true rfl, Nat.le_of_ble_eq_true rfl⟩) ⟨(fun a U g mk q => ⟨q.1, q.2.blind⟩), va_recv hK hW.1 (ci := 8) (q0 := 0) rfl (wC_0 cy adC σC), (fun U hU hWm => ⟨rfl, WdC.pre hW.1 hK hW.2.2.1.self hN hU hWm⟩)⟩ rfl rfl hl.1 rfl (lv_room (Nat.le_of_ble_eq_true rfl)) dL_law_973 ⟨by omega, by omega⟩) hS hW (fun r8 u8 H locs h8 hW hS => ?_)
  refine lv_aload_n hx hb dL_law_976 rfl (lv_at hl 3 rfl) ?_
  refine lv_aload_n hx hb dL_law_977 rfl (lv_at hl 1 rfl) ?_
  refine lv_iload_n hx hb dL_law_978 rfl (lv_at hl 0 rfl) ?_
  refine lv_iconst (v := 1) hx hb dL_law_979 (by decide) ?_
  refine lv_iadd hx hb dL_law_980 ?_
  refine va_sld hx hb hX hbl hbA hS (hin 1 (by decide)) dL_law_981 ?_
  refine kR_i (va_runV (As := [.int (xs (Int32.toNatClampNeg (x3 + 1)))]) (rest := [.int r8]) ⟨hx, hb, hml, hown, htsL⟩ (ct_X9_back l D cy adR (va_A (wR cy adR σR) H.size) (xs (Int32.toNatClampNeg (x3 + 1))) a σR hRR) (cwV 1 htsL gL_law_X9_back rfl rfl rfl (by decide +kernel) ⟨Nat.le_of_ble_eq_true rfl, Nat.le_of_ble_eq_true rfl⟩) ⟨(fun a U g mk q => ⟨q.1, q.2.blind⟩), va_recv hK hW.2.1 (ci := 9) (q0 := 0) rfl (wR_0 cy adR σR), (fun U hU hWm => ⟨rfl, WdR.pre hW.2.1 hK hW.2.2.2.1.self hN hU hWm⟩)⟩ rfl rfl hl.1 rfl (lv_room (Nat.le_of_ble_eq_true rfl)) dL_law_982 ⟨by omega, by omega⟩) hS hW (fun r9 u9 H locs h9 hW hS => ?_)
  refine lv_icmp_eq (tgt := 1427) hx hb dL_law_985 (by decide) (fun _ => ?_) (fun z => absurd (h8.1.trans h9.1.symm) z)
  refine W.widen (k := cells + 7) (n := slots + 21) (by omega) (by omega) ?_
  exact kk _ _ _ _ _ h8.2 h9.2 hW hS
set_option maxHeartbeats 4000000 in
set_option maxRecDepth 100000 in
theorem law_c22 {p : Program} {e : Env} {s : State} {m : MethodId} {below : List Frame} {meth : Method} {c : Code} (l : Launch) {b L : Nat} {xs : Nat → Int32} (C0 : lw_At p s m meth c b L xs) {D : va_G} {cy : Nat → ClassId} {adC adR : Nat → Nat} (hK : va_K D vwCl (tysK cy) s) (hN : NW s) (hCA : CA2 s) {x3 : Int32} (hin : ∀ j : Nat, j < 6 → vp_in (x3 + nI j) L) {cells slots : Nat} (hcl : cells + 7 ≤ room_1.cells) (hsl : slots + 21 ≤ room_1.slots) {a : AS} {σC σR : S_} {H : Heap} {locs : List Loc} {ls : Array Slot} (hRC : RC a σC) (hRR : RR a σR) (hW : WI D cy adC adR s σC σR H) (hS : va_S (A0s s) s.heap H locs) (hl : lv_has ls 4 [(3, .int x3), (0, .ref b), (1, .ref (adC 0)), (2, .ref (adR 0))]) (kk : ∀ (a : AS) (σC σR : S_) (H : Heap) (locs : List Loc), RC a σC → RR a σR → WI D cy adC adR s σC σR H → va_S (A0s s) s.heap H locs → W p l e room_1 s m #[Value.ref b] below meth c H locs (cells + 7) (slots + 21) (lw_Z below #[Value.ref b] s) (F0 m 1427 ls [])) : W p l e room_1 s m #[Value.ref b] below meth c H locs cells slots (lw_Z below #[Value.ref b] s) (F0 m 990 ls []) := by
  obtain ⟨hx, hb, hr, hml, hown, hts, hX, hbl, hlocks, hgv⟩ := C0
  have htsL : ∀ w ∈ wsL_law, w.before #[Value.ref b] s = true := fun w h => hts w (wsL_law_in w h)
  have hbA : ¬ A0s s b := Nat.not_le.mpr hbl
  refine lv_aload_n hx hb dL_law_990 rfl (lv_at hl 2 rfl) ?_
  refine lv_aload_n hx hb dL_law_991 rfl (lv_at hl 1 rfl) ?_
  refine lv_iload_n hx hb dL_law_992 rfl (lv_at hl 0 rfl) ?_
  refine lv_iconst (v := 1) hx hb dL_law_993 (by decide) ?_
  refine lv_iadd hx hb dL_law_994 ?_
  refine va_sld hx hb hX hbl hbA hS (hin 1 (by decide)) dL_law_995 ?_
  refine kC_i (va_runV (As := [.int (xs (Int32.toNatClampNeg (x3 + 1)))]) (rest := []) ⟨hx, hb, hml, hown, htsL⟩ (ct_X8_comes l D cy adC (va_A (wC cy adC σC) H.size) (xs (Int32.toNatClampNeg (x3 + 1))) a σC hRC) (cwV 1 htsL gL_law_X8_comes rfl rfl rfl (by decide +kernel) ⟨Nat.le_of_ble_eq_true rfl, Nat.le_of_ble_eq_true rfl⟩) ⟨(fun a U g mk q => ⟨q.1, q.2.blind⟩), va_recv hK hW.1 (ci := 8) (q0 := 0) rfl (wC_0 cy adC σC), (fun U hU hWm => ⟨rfl, WdC.pre hW.1 hK hW.2.2.1.self hN hU hWm⟩)⟩ rfl rfl hl.1 rfl (lv_room (Nat.le_of_ble_eq_true rfl)) dL_law_996 ⟨by omega, by omega⟩) hS hW (fun r8 u8 H locs h8 hW hS => ?_)
  refine lv_aload_n hx hb dL_law_999 rfl (lv_at hl 3 rfl) ?_
  refine lv_aload_n hx hb dL_law_1000 rfl (lv_at hl 1 rfl) ?_
  refine lv_iload_n hx hb dL_law_1001 rfl (lv_at hl 0 rfl) ?_
  refine lv_iconst (v := 1) hx hb dL_law_1002 (by decide) ?_
  refine lv_iadd hx hb dL_law_1003 ?_
  refine va_sld hx hb hX hbl hbA hS (hin 1 (by decide)) dL_law_1004 ?_
  refine kR_i (va_runV (As := [.int (xs (Int32.toNatClampNeg (x3 + 1)))]) (rest := [.int r8]) ⟨hx, hb, hml, hown, htsL⟩ (ct_X9_comes l D cy adR (va_A (wR cy adR σR) H.size) (xs (Int32.toNatClampNeg (x3 + 1))) a σR hRR) (cwV 1 htsL gL_law_X9_comes rfl rfl rfl (by decide +kernel) ⟨Nat.le_of_ble_eq_true rfl, Nat.le_of_ble_eq_true rfl⟩) ⟨(fun a U g mk q => ⟨q.1, q.2.blind⟩), va_recv hK hW.2.1 (ci := 9) (q0 := 0) rfl (wR_0 cy adR σR), (fun U hU hWm => ⟨rfl, WdR.pre hW.2.1 hK hW.2.2.2.1.self hN hU hWm⟩)⟩ rfl rfl hl.1 rfl (lv_room (Nat.le_of_ble_eq_true rfl)) dL_law_1005 ⟨by omega, by omega⟩) hS hW (fun r9 u9 H locs h9 hW hS => ?_)
  refine lv_icmp_eq (tgt := 1427) hx hb dL_law_1008 (by decide) (fun _ => ?_) (fun z => absurd (h8.1.trans h9.1.symm) z)
  refine W.widen (k := cells + 7) (n := slots + 21) (by omega) (by omega) ?_
  exact kk _ _ _ _ _ h8.2 h9.2 hW hS
set_option maxHeartbeats 4000000 in
set_option maxRecDepth 100000 in
theorem law_c23 {p : Program} {e : Env} {s : State} {m : MethodId} {below : List Frame} {meth : Method} {c : Code} (l : Launch) {b L : Nat} {xs : Nat → Int32} (C0 : lw_At p s m meth c b L xs) {D : va_G} {cy : Nat → ClassId} {adC adR : Nat → Nat} (hK : va_K D vwCl (tysK cy) s) (hN : NW s) (hCA : CA2 s) {x3 : Int32} (hin : ∀ j : Nat, j < 6 → vp_in (x3 + nI j) L) {cells slots : Nat} (hcl : cells + 7 ≤ room_1.cells) (hsl : slots + 21 ≤ room_1.slots) {a : AS} {σC σR : S_} {H : Heap} {locs : List Loc} {ls : Array Slot} (hRC : RC a σC) (hRR : RR a σR) (hW : WI D cy adC adR s σC σR H) (hS : va_S (A0s s) s.heap H locs) (hl : lv_has ls 4 [(3, .int x3), (0, .ref b), (1, .ref (adC 0)), (2, .ref (adR 0))]) (kk : ∀ (a : AS) (σC σR : S_) (H : Heap) (locs : List Loc), RC a σC → RR a σR → WI D cy adC adR s σC σR H → va_S (A0s s) s.heap H locs → W p l e room_1 s m #[Value.ref b] below meth c H locs (cells + 7) (slots + 21) (lw_Z below #[Value.ref b] s) (F0 m 1427 ls [])) : W p l e room_1 s m #[Value.ref b] below meth c H locs cells slots (lw_Z below #[Value.ref b] s) (F0 m 1013 ls []) := by
  obtain ⟨hx, hb, hr, hml, hown, hts, hX, hbl, hlocks, hgv⟩ := C0
  have htsL : ∀ w ∈ wsL_law, w.before #[Value.ref b] s = true := fun w h => hts w (wsL_law_in w h)
  have hbA : ¬ A0s s b := Nat.not_le.mpr hbl
  refine lv_aload_n hx hb dL_law_1013 rfl (lv_at hl 2 rfl) ?_
  refine kC_i (va_runV (As := []) (rest := []) ⟨hx, hb, hml, hown, htsL⟩ (ct_X8_paid l D cy adC (va_A (wC cy adC σC) H.size) a σC hRC) (cwV 0 htsL gL_law_X8_paid rfl rfl rfl (by decide +kernel) ⟨Nat.le_of_ble_eq_true rfl, Nat.le_of_ble_eq_true rfl⟩) ⟨(fun a U g mk q => ⟨q.1, q.2.blind⟩), va_recv hK hW.1 (ci := 8) (q0 := 0) rfl (wC_0 cy adC σC), (fun U hU hWm => ⟨rfl, WdC.pre hW.1 hK hW.2.2.1.self hN hU hWm⟩)⟩ rfl rfl hl.1 rfl (lv_room (Nat.le_of_ble_eq_true rfl)) dL_law_1014 ⟨by omega, by omega⟩) hS hW (fun r8 u8 H locs h8 hW hS => ?_)
  refine lv_aload_n hx hb dL_law_1017 rfl (lv_at hl 3 rfl) ?_
  refine kR_i (va_runV (As := []) (rest := [.int r8]) ⟨hx, hb, hml, hown, htsL⟩ (ct_X9_paid l D cy adR (va_A (wR cy adR σR) H.size) a σR hRR) (cwV 0 htsL gL_law_X9_paid rfl rfl rfl (by decide +kernel) ⟨Nat.le_of_ble_eq_true rfl, Nat.le_of_ble_eq_true rfl⟩) ⟨(fun a U g mk q => ⟨q.1, q.2.blind⟩), va_recv hK hW.2.1 (ci := 9) (q0 := 0) rfl (wR_0 cy adR σR), (fun U hU hWm => ⟨rfl, WdR.pre hW.2.1 hK hW.2.2.2.1.self hN hU hWm⟩)⟩ rfl rfl hl.1 rfl (lv_room (Nat.le_of_ble_eq_true rfl)) dL_law_1018 ⟨by omega, by omega⟩) hS hW (fun r9 u9 H locs h9 hW hS => ?_)
  refine lv_icmp_eq (tgt := 1427) hx hb dL_law_1021 (by decide) (fun _ => ?_) (fun z => absurd (h8.1.trans h9.1.symm) z)
  refine W.widen (k := cells + 7) (n := slots + 21) (by omega) (by omega) ?_
  exact kk _ _ _ _ _ h8.2 h9.2 hW hS
set_option maxHeartbeats 4000000 in
set_option maxRecDepth 100000 in
theorem law_c24 {p : Program} {e : Env} {s : State} {m : MethodId} {below : List Frame} {meth : Method} {c : Code} (l : Launch) {b L : Nat} {xs : Nat → Int32} (C0 : lw_At p s m meth c b L xs) {D : va_G} {cy : Nat → ClassId} {adC adR : Nat → Nat} (hK : va_K D vwCl (tysK cy) s) (hN : NW s) (hCA : CA2 s) {x3 : Int32} (hin : ∀ j : Nat, j < 6 → vp_in (x3 + nI j) L) {cells slots : Nat} (hcl : cells + 7 ≤ room_1.cells) (hsl : slots + 21 ≤ room_1.slots) {a : AS} {σC σR : S_} {H : Heap} {locs : List Loc} {ls : Array Slot} (hRC : RC a σC) (hRR : RR a σR) (hW : WI D cy adC adR s σC σR H) (hS : va_S (A0s s) s.heap H locs) (hl : lv_has ls 4 [(3, .int x3), (0, .ref b), (1, .ref (adC 0)), (2, .ref (adR 0))]) (kk : ∀ (a : AS) (σC σR : S_) (H : Heap) (locs : List Loc), RC a σC → RR a σR → WI D cy adC adR s σC σR H → va_S (A0s s) s.heap H locs → W p l e room_1 s m #[Value.ref b] below meth c H locs (cells + 7) (slots + 21) (lw_Z below #[Value.ref b] s) (F0 m 1427 ls [])) : W p l e room_1 s m #[Value.ref b] below meth c H locs cells slots (lw_Z below #[Value.ref b] s) (F0 m 1026 ls []) := by
  obtain ⟨hx, hb, hr, hml, hown, hts, hX, hbl, hlocks, hgv⟩ := C0
  have htsL : ∀ w ∈ wsL_law, w.before #[Value.ref b] s = true := fun w h => hts w (wsL_law_in w h)
  have hbA : ¬ A0s s b := Nat.not_le.mpr hbl
  refine lv_aload_n hx hb dL_law_1026 rfl (lv_at hl 2 rfl) ?_
  refine kC_i (va_runV (As := []) (rest := []) ⟨hx, hb, hml, hown, htsL⟩ (ct_X8_laws l D cy adC (va_A (wC cy adC σC) H.size) a σC hRC) (cwV 0 htsL gL_law_X8_laws rfl rfl rfl (by decide +kernel) ⟨Nat.le_of_ble_eq_true rfl, Nat.le_of_ble_eq_true rfl⟩) ⟨(fun a U g mk q => ⟨q.1, q.2.blind⟩), va_recv hK hW.1 (ci := 8) (q0 := 0) rfl (wC_0 cy adC σC), (fun U hU hWm => ⟨rfl, WdC.pre hW.1 hK hW.2.2.1.self hN hU hWm⟩)⟩ rfl rfl hl.1 rfl (lv_room (Nat.le_of_ble_eq_true rfl)) dL_law_1027 ⟨by omega, by omega⟩) hS hW (fun r8 u8 H locs h8 hW hS => ?_)
  refine lv_aload_n hx hb dL_law_1030 rfl (lv_at hl 3 rfl) ?_
  refine kR_i (va_runV (As := []) (rest := [.int r8]) ⟨hx, hb, hml, hown, htsL⟩ (ct_X9_laws l D cy adR (va_A (wR cy adR σR) H.size) a σR hRR) (cwV 0 htsL gL_law_X9_laws rfl rfl rfl (by decide +kernel) ⟨Nat.le_of_ble_eq_true rfl, Nat.le_of_ble_eq_true rfl⟩) ⟨(fun a U g mk q => ⟨q.1, q.2.blind⟩), va_recv hK hW.2.1 (ci := 9) (q0 := 0) rfl (wR_0 cy adR σR), (fun U hU hWm => ⟨rfl, WdR.pre hW.2.1 hK hW.2.2.2.1.self hN hU hWm⟩)⟩ rfl rfl hl.1 rfl (lv_room (Nat.le_of_ble_eq_true rfl)) dL_law_1031 ⟨by omega, by omega⟩) hS hW (fun r9 u9 H locs h9 hW hS => ?_)
  refine lv_icmp_eq (tgt := 1427) hx hb dL_law_1034 (by decide) (fun _ => ?_) (fun z => absurd (h8.1.trans h9.1.symm) z)
  refine W.widen (k := cells + 7) (n := slots + 21) (by omega) (by omega) ?_
  exact kk _ _ _ _ _ h8.2 h9.2 hW hS
set_option maxHeartbeats 4000000 in
set_option maxRecDepth 100000 in
theorem law_c25 {p : Program} {e : Env} {s : State} {m : MethodId} {below : List Frame} {meth : Method} {c : Code} (l : Launch) {b L : Nat} {xs : Nat → Int32} (C0 : lw_At p s m meth c b L xs) {D : va_G} {cy : Nat → ClassId} {adC adR : Nat → Nat} (hK : va_K D vwCl (tysK cy) s) (hN : NW s) (hCA : CA2 s) {x3 : Int32} (hin : ∀ j : Nat, j < 6 → vp_in (x3 + nI j) L) {cells slots : Nat} (hcl : cells + 7 ≤ room_1.cells) (hsl : slots + 21 ≤ room_1.slots) {a : AS} {σC σR : S_} {H : Heap} {locs : List Loc} {ls : Array Slot} (hRC : RC a σC) (hRR : RR a σR) (hW : WI D cy adC adR s σC σR H) (hS : va_S (A0s s) s.heap H locs) (hl : lv_has ls 4 [(3, .int x3), (0, .ref b), (1, .ref (adC 0)), (2, .ref (adR 0))]) (kk : ∀ (a : AS) (σC σR : S_) (H : Heap) (locs : List Loc), RC a σC → RR a σR → WI D cy adC adR s σC σR H → va_S (A0s s) s.heap H locs → W p l e room_1 s m #[Value.ref b] below meth c H locs (cells + 7) (slots + 21) (lw_Z below #[Value.ref b] s) (F0 m 1427 ls [])) : W p l e room_1 s m #[Value.ref b] below meth c H locs cells slots (lw_Z below #[Value.ref b] s) (F0 m 1039 ls []) := by
  obtain ⟨hx, hb, hr, hml, hown, hts, hX, hbl, hlocks, hgv⟩ := C0
  have htsL : ∀ w ∈ wsL_law, w.before #[Value.ref b] s = true := fun w h => hts w (wsL_law_in w h)
  have hbA : ¬ A0s s b := Nat.not_le.mpr hbl
  refine lv_aload_n hx hb dL_law_1039 rfl (lv_at hl 2 rfl) ?_
  refine lv_aload_n hx hb dL_law_1040 rfl (lv_at hl 1 rfl) ?_
  refine lv_iload_n hx hb dL_law_1041 rfl (lv_at hl 0 rfl) ?_
  refine lv_iconst (v := 1) hx hb dL_law_1042 (by decide) ?_
  refine lv_iadd hx hb dL_law_1043 ?_
  refine va_sld hx hb hX hbl hbA hS (hin 1 (by decide)) dL_law_1044 ?_
  refine lv_aload_n hx hb dL_law_1045 rfl (lv_at hl 1 rfl) ?_
  refine lv_iload_n hx hb dL_law_1046 rfl (lv_at hl 0 rfl) ?_
  refine lv_iconst (v := 2) hx hb dL_law_1047 (by decide) ?_
  refine lv_iadd hx hb dL_law_1048 ?_
  refine va_sld hx hb hX hbl hbA hS (hin 2 (by decide)) dL_law_1049 ?_
  refine lv_aload_n hx hb dL_law_1050 rfl (lv_at hl 1 rfl) ?_
  refine lv_iload_n hx hb dL_law_1051 rfl (lv_at hl 0 rfl) ?_
  refine lv_iconst (v := 3) hx hb dL_law_1052 (by decide) ?_
  refine lv_iadd hx hb dL_law_1053 ?_
  refine va_sld hx hb hX hbl hbA hS (hin 3 (by decide)) dL_law_1054 ?_
  refine kC_l (va_runV (As := [.int (xs (Int32.toNatClampNeg (x3 + 1))), .int (xs (Int32.toNatClampNeg (x3 + 2))), .int (xs (Int32.toNatClampNeg (x3 + 3)))]) (rest := []) ⟨hx, hb, hml, hown, htsL⟩ (ct_X8_odds l D cy adC (va_A (wC cy adC σC) H.size) (xs (Int32.toNatClampNeg (x3 + 1))) (xs (Int32.toNatClampNeg (x3 + 2))) (xs (Int32.toNatClampNeg (x3 + 3))) a σC hRC) (cwV 3 htsL gL_law_X8_odds rfl rfl rfl (by decide +kernel) ⟨Nat.le_of_ble_eq_true rfl, Nat.le_of_ble_eq_true rfl⟩) ⟨(fun a U g mk q => ⟨q.1, q.2.blind⟩), va_recv hK hW.1 (ci := 8) (q0 := 0) rfl (wC_0 cy adC σC), (fun U hU hWm => ⟨rfl, WdC.pre hW.1 hK hW.2.2.1.self hN hU hWm⟩)⟩ rfl rfl hl.1 rfl (lv_room (Nat.le_of_ble_eq_true rfl)) dL_law_1055 ⟨by omega, by omega⟩) hS hW (fun r8 u8 H locs h8 hW hS => ?_)
  refine lv_aload_n hx hb dL_law_1058 rfl (lv_at hl 3 rfl) ?_
  refine lv_aload_n hx hb dL_law_1059 rfl (lv_at hl 1 rfl) ?_
  refine lv_iload_n hx hb dL_law_1060 rfl (lv_at hl 0 rfl) ?_
  refine lv_iconst (v := 1) hx hb dL_law_1061 (by decide) ?_
  refine lv_iadd hx hb dL_law_1062 ?_
  refine va_sld hx hb hX hbl hbA hS (hin 1 (by decide)) dL_law_1063 ?_
  refine lv_aload_n hx hb dL_law_1064 rfl (lv_at hl 1 rfl) ?_
  refine lv_iload_n hx hb dL_law_1065 rfl (lv_at hl 0 rfl) ?_
  refine lv_iconst (v := 2) hx hb dL_law_1066 (by decide) ?_
  refine lv_iadd hx hb dL_law_1067 ?_
  refine va_sld hx hb hX hbl hbA hS (hin 2 (by decide)) dL_law_1068 ?_
  refine lv_aload_n hx hb dL_law_1069 rfl (lv_at hl 1 rfl) ?_
  refine lv_iload_n hx hb dL_law_1070 rfl (lv_at hl 0 rfl) ?_
  refine lv_iconst (v := 3) hx hb dL_law_1071 (by decide) ?_
  refine lv_iadd hx hb dL_law_1072 ?_
  refine va_sld hx hb hX hbl hbA hS (hin 3 (by decide)) dL_law_1073 ?_
  refine kR_l (va_runV (As := [.int (xs (Int32.toNatClampNeg (x3 + 1))), .int (xs (Int32.toNatClampNeg (x3 + 2))), .int (xs (Int32.toNatClampNeg (x3 + 3)))]) (rest := [.long r8]) ⟨hx, hb, hml, hown, htsL⟩ (ct_X9_odds l D cy adR (va_A (wR cy adR σR) H.size) (xs (Int32.toNatClampNeg (x3 + 1))) (xs (Int32.toNatClampNeg (x3 + 2))) (xs (Int32.toNatClampNeg (x3 + 3))) a σR hRR) (cwV 3 htsL gL_law_X9_odds rfl rfl rfl (by decide +kernel) ⟨Nat.le_of_ble_eq_true rfl, Nat.le_of_ble_eq_true rfl⟩) ⟨(fun a U g mk q => ⟨q.1, q.2.blind⟩), va_recv hK hW.2.1 (ci := 9) (q0 := 0) rfl (wR_0 cy adR σR), (fun U hU hWm => ⟨rfl, WdR.pre hW.2.1 hK hW.2.2.2.1.self hN hU hWm⟩)⟩ rfl rfl hl.1 rfl (lv_room (Nat.le_of_ble_eq_true rfl)) dL_law_1074 ⟨by omega, by omega⟩) hS hW (fun r9 u9 H locs h9 hW hS => ?_)
  refine W.lcmp hx hb dL_law_1077 ?_
  refine lv_if_eq (tgt := 1427) hx hb dL_law_1078 (by decide) (fun _ => ?_) (fun z => absurd (lg_refl (h8.1.trans h9.1.symm)) z)
  refine W.widen (k := cells + 7) (n := slots + 21) (by omega) (by omega) ?_
  exact kk _ _ _ _ _ h8.2 h9.2 hW hS
set_option maxHeartbeats 4000000 in
set_option maxRecDepth 100000 in
theorem law_c26 {p : Program} {e : Env} {s : State} {m : MethodId} {below : List Frame} {meth : Method} {c : Code} (l : Launch) {b L : Nat} {xs : Nat → Int32} (C0 : lw_At p s m meth c b L xs) {D : va_G} {cy : Nat → ClassId} {adC adR : Nat → Nat} (hK : va_K D vwCl (tysK cy) s) (hN : NW s) (hCA : CA2 s) {x3 : Int32} (hin : ∀ j : Nat, j < 6 → vp_in (x3 + nI j) L) {cells slots : Nat} (hcl : cells + 7 ≤ room_1.cells) (hsl : slots + 21 ≤ room_1.slots) {a : AS} {σC σR : S_} {H : Heap} {locs : List Loc} {ls : Array Slot} (hRC : RC a σC) (hRR : RR a σR) (hW : WI D cy adC adR s σC σR H) (hS : va_S (A0s s) s.heap H locs) (hl : lv_has ls 4 [(3, .int x3), (0, .ref b), (1, .ref (adC 0)), (2, .ref (adR 0))]) (kk : ∀ (a : AS) (σC σR : S_) (H : Heap) (locs : List Loc), RC a σC → RR a σR → WI D cy adC adR s σC σR H → va_S (A0s s) s.heap H locs → W p l e room_1 s m #[Value.ref b] below meth c H locs (cells + 7) (slots + 21) (lw_Z below #[Value.ref b] s) (F0 m 1427 ls [])) : W p l e room_1 s m #[Value.ref b] below meth c H locs cells slots (lw_Z below #[Value.ref b] s) (F0 m 1083 ls []) := by
  obtain ⟨hx, hb, hr, hml, hown, hts, hX, hbl, hlocks, hgv⟩ := C0
  have htsL : ∀ w ∈ wsL_law, w.before #[Value.ref b] s = true := fun w h => hts w (wsL_law_in w h)
  have hbA : ¬ A0s s b := Nat.not_le.mpr hbl
  refine lv_aload_n hx hb dL_law_1083 rfl (lv_at hl 2 rfl) ?_
  refine lv_aload_n hx hb dL_law_1084 rfl (lv_at hl 1 rfl) ?_
  refine lv_iload_n hx hb dL_law_1085 rfl (lv_at hl 0 rfl) ?_
  refine lv_iconst (v := 1) hx hb dL_law_1086 (by decide) ?_
  refine lv_iadd hx hb dL_law_1087 ?_
  refine va_sld hx hb hX hbl hbA hS (hin 1 (by decide)) dL_law_1088 ?_
  refine lv_aload_n hx hb dL_law_1089 rfl (lv_at hl 1 rfl) ?_
  refine lv_iload_n hx hb dL_law_1090 rfl (lv_at hl 0 rfl) ?_
  refine lv_iconst (v := 2) hx hb dL_law_1091 (by decide) ?_
  refine lv_iadd hx hb dL_law_1092 ?_
  refine va_sld hx hb hX hbl hbA hS (hin 2 (by decide)) dL_law_1093 ?_
  refine lv_aload_n hx hb dL_law_1094 rfl (lv_at hl 1 rfl) ?_
  refine lv_iload_n hx hb dL_law_1095 rfl (lv_at hl 0 rfl) ?_
  refine lv_iconst (v := 3) hx hb dL_law_1096 (by decide) ?_
  refine lv_iadd hx hb dL_law_1097 ?_
  refine va_sld hx hb hX hbl hbA hS (hin 3 (by decide)) dL_law_1098 ?_
  refine kC_i (va_runV (As := [.int (xs (Int32.toNatClampNeg (x3 + 1))), .int (xs (Int32.toNatClampNeg (x3 + 2))), .int (xs (Int32.toNatClampNeg (x3 + 3)))]) (rest := []) ⟨hx, hb, hml, hown, htsL⟩ (ct_X8_sheet l D cy adC (va_A (wC cy adC σC) H.size) (xs (Int32.toNatClampNeg (x3 + 1))) (xs (Int32.toNatClampNeg (x3 + 2))) (xs (Int32.toNatClampNeg (x3 + 3))) a σC hRC) (cwV 3 htsL gL_law_X8_sheet rfl rfl rfl (by decide +kernel) ⟨Nat.le_of_ble_eq_true rfl, Nat.le_of_ble_eq_true rfl⟩) ⟨(fun a U g mk q => ⟨q.1, q.2.blind⟩), va_recv hK hW.1 (ci := 8) (q0 := 0) rfl (wC_0 cy adC σC), (fun U hU hWm => ⟨rfl, WdC.pre hW.1 hK hW.2.2.1.self hN hU hWm⟩)⟩ rfl rfl hl.1 rfl (lv_room (Nat.le_of_ble_eq_true rfl)) dL_law_1099 ⟨by omega, by omega⟩) hS hW (fun r8 u8 H locs h8 hW hS => ?_)
  refine lv_aload_n hx hb dL_law_1102 rfl (lv_at hl 3 rfl) ?_
  refine lv_aload_n hx hb dL_law_1103 rfl (lv_at hl 1 rfl) ?_
  refine lv_iload_n hx hb dL_law_1104 rfl (lv_at hl 0 rfl) ?_
  refine lv_iconst (v := 1) hx hb dL_law_1105 (by decide) ?_
  refine lv_iadd hx hb dL_law_1106 ?_
  refine va_sld hx hb hX hbl hbA hS (hin 1 (by decide)) dL_law_1107 ?_
  refine lv_aload_n hx hb dL_law_1108 rfl (lv_at hl 1 rfl) ?_
  refine lv_iload_n hx hb dL_law_1109 rfl (lv_at hl 0 rfl) ?_
  refine lv_iconst (v := 2) hx hb dL_law_1110 (by decide) ?_
  refine lv_iadd hx hb dL_law_1111 ?_
  refine va_sld hx hb hX hbl hbA hS (hin 2 (by decide)) dL_law_1112 ?_
  refine lv_aload_n hx hb dL_law_1113 rfl (lv_at hl 1 rfl) ?_
  refine lv_iload_n hx hb dL_law_1114 rfl (lv_at hl 0 rfl) ?_
  refine lv_iconst (v := 3) hx hb dL_law_1115 (by decide) ?_
  refine lv_iadd hx hb dL_law_1116 ?_
  refine va_sld hx hb hX hbl hbA hS (hin 3 (by decide)) dL_law_1117 ?_
  refine kR_i (va_runV (As := [.int (xs (Int32.toNatClampNeg (x3 + 1))), .int (xs (Int32.toNatClampNeg (x3 + 2))), .int (xs (Int32.toNatClampNeg (x3 + 3)))]) (rest := [.int r8]) ⟨hx, hb, hml, hown, htsL⟩ (ct_X9_sheet l D cy adR (va_A (wR cy adR σR) H.size) (xs (Int32.toNatClampNeg (x3 + 1))) (xs (Int32.toNatClampNeg (x3 + 2))) (xs (Int32.toNatClampNeg (x3 + 3))) a σR hRR) (cwV 3 htsL gL_law_X9_sheet rfl rfl rfl (by decide +kernel) ⟨Nat.le_of_ble_eq_true rfl, Nat.le_of_ble_eq_true rfl⟩) ⟨(fun a U g mk q => ⟨q.1, q.2.blind⟩), va_recv hK hW.2.1 (ci := 9) (q0 := 0) rfl (wR_0 cy adR σR), (fun U hU hWm => ⟨rfl, WdR.pre hW.2.1 hK hW.2.2.2.1.self hN hU hWm⟩)⟩ rfl rfl hl.1 rfl (lv_room (Nat.le_of_ble_eq_true rfl)) dL_law_1118 ⟨by omega, by omega⟩) hS hW (fun r9 u9 H locs h9 hW hS => ?_)
  refine lv_icmp_eq (tgt := 1427) hx hb dL_law_1121 (by decide) (fun _ => ?_) (fun z => absurd (h8.1.trans h9.1.symm) z)
  refine W.widen (k := cells + 7) (n := slots + 21) (by omega) (by omega) ?_
  exact kk _ _ _ _ _ h8.2 h9.2 hW hS
