set_option maxHeartbeats 4000000 in
set_option maxRecDepth 100000 in
theorem wk_X3_has (l : Launch) (sp : Sp_X3_has) : Ct_X3_has l := by
  intro D cy ad A j_ k_  σ0 hj_j_ hpre
  refine Met.ofW (cc := cX3_has) (maxL := 2) (ret := (some .boolean)) (by decide) rfl ?_
  intro p e s m args below meth c s₁ B hml hv0
  obtain ⟨rfl, hP, hK, hD, hN⟩ := hv0
  have hx := B.exec
  have hb := B.bytes
  have hr := B.returns
  have hts := atoms_spec (ws := wsX3_has) B.pre
  have hown : s.vm.findClass RX3 = some m.cls := findClass_of_methodNamed B.named
  have hlocks := B.notSynchronized
  have hv := sp j_ k_  σ0 hpre
  have hl := lv_entry ([.ref (ad (13 + 2 * j_)), .int k_]) (n := 2) (Nat.le_of_ble_eq_true rfl)
  rw [lg_entry_eq]
  generalize (lg_sl ([.ref (ad (13 + 2 * j_)), .int k_]) ++ List.replicate (2 - (lg_sl ([.ref (ad (13 + 2 * j_)), .int k_])).length) Slot.unset).toArray = ls at hl ⊢
  have hl : lv_has ls 2 [(0, .ref (ad (13 + 2 * j_))), (1, .int k_)] := hl
  refine W_gen (fun R Z H locs hR hZ hH hlo => ?_)
  have hRf : R.frames = 0 := by rw [hR]; rfl
  have hRl : R.locals = 0 := by rw [hR]; rfl
  have hRc : R.cells = 0 := by rw [hR]; rfl
  have hRs : R.slots = 0 := by rw [hR]; rfl
  have hS : va_S A s.heap H locs := by rw [hH, hlo]; exact va_S.rf
  rw [← hH] at hP
  obtain ⟨Q, hQ⟩ : ∃ q : Int32 → Prop, q = (fun r => r = fn_X3_has j_ k_ σ0) := ⟨_, rfl⟩
  rw [← hQ] at hv
  have hinX3 : ∀ w ∈ wsX30, w ∈ wsX3_has := by decide +kernel
  refine lv_iload_n hx hb dX3_has_0 rfl (lv_at hl 1 rfl) ?_
  refine lv_if_lt (tgt := 16) hx hb dX3_has_1 (by decide) (fun c2 => ?_) (fun c2 => ?_)
  · have hv := hv.1 c2
    refine lv_iconst (v := 0) hx hb dX3_has_16 (by decide) ?_
    rw [hZ]; rw [hQ] at hv
    exact W.zret (v := 0) hx hb hr rfl (fun t ht hW => ⟨⟨0, (), rfl, hv, (P_of ht hP)⟩, hS.F ht⟩) hS.2.2 dX3_has_17
  · have hv := hv.2 c2
    refine lv_iload_n hx hb dX3_has_4 rfl (lv_at hl 1 rfl) ?_
    refine lv_aload_n hx hb dX3_has_5 rfl (lv_at hl 0 rfl) ?_
    refine va_get (ci := 3) (v := .int (rdI σ0 (5 + j_))) (C := RX3) (T := TX3) (N := 3) hx hb hts hinX3 hown hK hP (13 + 2 * j_) (wC_le cy ad σ0 hj_j_) rfl 2 (by decide) (hts (.fieldLink RX3 19 "TaleBans$Ledger" "count" "I") (List.mem_of_getElem? (i := 1) rfl)) (fun x h => h) rfl dX3_has_6 ?_
    refine lv_icmp_ge (tgt := 16) hx hb dX3_has_9 (by decide) (fun c1 => ?_) (fun c1 => ?_)
    · have hv := hv.1 c1
      refine lv_iconst (v := 0) hx hb dX3_has_16 (by decide) ?_
      rw [hZ]; rw [hQ] at hv
      exact W.zret (v := 0) hx hb hr rfl (fun t ht hW => ⟨⟨0, (), rfl, hv, (P_of ht hP)⟩, hS.F ht⟩) hS.2.2 dX3_has_17
    · have hv := hv.2 c1
      refine lv_iconst (v := 1) hx hb dX3_has_12 (by decide) ?_
      refine lv_goto (tgt := 17) hx hb dX3_has_13 (by decide) ?_
      rw [hZ]; rw [hQ] at hv
      exact W.zret (v := 1) hx hb hr rfl (fun t ht hW => ⟨⟨1, (), rfl, hv, (P_of ht hP)⟩, hS.F ht⟩) hS.2.2 dX3_has_17
set_option maxHeartbeats 4000000 in
set_option maxRecDepth 100000 in
theorem wk_X3_at (l : Launch) (h_X3_has : Ct_X3_has l) (h_X8_isOneOf : Ct_X8_isOneOf l) (sp : Sp_X3_at) : Ct_X3_at l := by
  intro D cy ad A j_ k_ col_  σ0 hj_j_ hpre
  refine Met.ofW (cc := cX3_at) (maxL := 3) (ret := (some .int)) (by decide) rfl ?_
  intro p e s m args below meth c s₁ B hml hv0
  obtain ⟨rfl, hP, hK, hD, hN⟩ := hv0
  have hx := B.exec
  have hb := B.bytes
  have hr := B.returns
  have hts := atoms_spec (ws := wsX3_at) B.pre
  have hown : s.vm.findClass RX3 = some m.cls := findClass_of_methodNamed B.named
  have hlocks := B.notSynchronized
  have hv := sp j_ k_ col_  σ0 hpre
  have hl := lv_entry ([.ref (ad (13 + 2 * j_)), .int k_, .int col_]) (n := 3) (Nat.le_of_ble_eq_true rfl)
  rw [lg_entry_eq]
  generalize (lg_sl ([.ref (ad (13 + 2 * j_)), .int k_, .int col_]) ++ List.replicate (3 - (lg_sl ([.ref (ad (13 + 2 * j_)), .int k_, .int col_])).length) Slot.unset).toArray = ls at hl ⊢
  have hl : lv_has ls 3 [(0, .ref (ad (13 + 2 * j_))), (1, .int k_), (2, .int col_)] := hl
  refine W_gen (fun R Z H locs hR hZ hH hlo => ?_)
  have hRf : R.frames = 1 := by rw [hR]; rfl
  have hRl : R.locals = 21 := by rw [hR]; rfl
  have hRc : R.cells = 0 := by rw [hR]; rfl
  have hRs : R.slots = 0 := by rw [hR]; rfl
  have hS : va_S A s.heap H locs := by rw [hH, hlo]; exact va_S.rf
  rw [← hH] at hP
  obtain ⟨Q, hQ⟩ : ∃ q : Int32 → Prop, q = (fun r => r = fn_X3_at j_ k_ col_ σ0) := ⟨_, rfl⟩
  rw [← hQ] at hv
  have hinX3 : ∀ w ∈ wsX30, w ∈ wsX3_at := by decide +kernel
  refine lv_aload_n hx hb dX3_at_0 rfl (lv_at hl 0 rfl) ?_
  refine lv_iload_n hx hb dX3_at_1 rfl (lv_at hl 1 rfl) ?_
  have hp := True.intro
  refine k_read_i (w := wC cy ad) (va_runV (As := [.int k_]) (rest := []) ⟨hx, hb, hml, hown, hts⟩ (h_X3_has D cy ad A j_ k_ σ0 hj_j_ hp) (cwV 1 hts gX3_at_X3_has rfl rfl rfl (by decide +kernel) ⟨le_R hRf (Nat.le_of_ble_eq_true rfl), le_R hRl (Nat.le_of_ble_eq_true rfl)⟩) ⟨(fun a U g mk q => ⟨q.1, q.2.blind⟩), va_recv hK hP (ci := 3) (q0 := (13 + 2 * j_)) rfl (wC_le cy ad σ0 hj_j_), (fun U hU hW => ⟨rfl, WdC.pre hP hK hD hN hU hW⟩)⟩ rfl rfl hl.1 rfl (lv_room (Nat.le_of_ble_eq_true rfl)) dX3_at_2 ⟨le_R hRc (Nat.le_refl 0), le_R hRs (Nat.le_refl 0)⟩) hS (fun r H locs hr1 hP hS => ?_)
  subst hr1
  refine lv_if_eq (tgt := 29) hx hb dX3_at_5 (by decide) (fun c2 => ?_) (fun c2 => ?_)
  · have hv := hv.1 c2
    refine lv_bipush (v := (-9)) hx hb dX3_at_29 (by decide) ?_
    rw [hZ]; rw [hQ] at hv
    exact W.iret (v := (-9)) hx hb hr (fun t ht hW => ⟨⟨(-9), (), rfl, hv, (P_of ht hP)⟩, hS.F ht⟩) hS.2.2 dX3_at_31
  · have hv := hv.2 c2
    refine lv_iload_n hx hb dX3_at_8 rfl (lv_at hl 2 rfl) ?_
    refine lv_iconst (v := 4) hx hb dX3_at_9 (by decide) ?_
    refine k_pure_i (va_runSN (As := [.int col_, .int 4]) (rest := []) ⟨hx, hb, hml, hown, hts⟩ (h_X8_isOneOf col_ 4) ⟨va_cnB 2 hts gX3_at_X8_isOneOf_n26 rfl rfl rfl (nwm_39 hN) (hts (.initialized RX8) (List.mem_of_getElem? (i := 9) rfl)) (by decide +kernel) ⟨le_R hRf (Nat.le_of_ble_eq_true rfl), le_R hRl (Nat.le_of_ble_eq_true rfl)⟩, (hts (.static yX8_isOneOf) (List.mem_of_getElem? (i := 8) rfl)), trivial⟩ ⟨(fun a U g mk q => ⟨q.1, trivial⟩), (fun U hU hW => ⟨rfl, trivial⟩)⟩ rfl rfl hl.1 rfl (lv_room (Nat.le_of_ble_eq_true rfl)) dX3_at_10 ⟨le_R hRc (Nat.le_refl 0), le_R hRs (Nat.le_refl 0)⟩) hS hP (fun r H locs hr1 hP hS => ?_)
    subst hr1
    refine lv_if_eq (tgt := 29) hx hb dX3_at_13 (by decide) (fun c1 => ?_) (fun c1 => ?_)
    · have hv := hv.1 c1
      refine lv_bipush (v := (-9)) hx hb dX3_at_29 (by decide) ?_
      rw [hZ]; rw [hQ] at hv
      exact W.iret (v := (-9)) hx hb hr (fun t ht hW => ⟨⟨(-9), (), rfl, hv, (P_of ht hP)⟩, hS.F ht⟩) hS.2.2 dX3_at_31
    · have hv := hv.2 c1
      refine lv_aload_n hx hb dX3_at_16 rfl (lv_at hl 0 rfl) ?_
      refine va_get (ci := 3) (v := .ref (ad (14 + 2 * j_))) (C := RX3) (T := TX3) (N := 3) hx hb hts hinX3 hown hK hP (13 + 2 * j_) (wC_le cy ad σ0 hj_j_) rfl 1 (by decide) (hts (.fieldLink RX3 15 "TaleBans$Ledger" "cells" "[I") (List.mem_of_getElem? (i := 1) rfl)) (fun x h => h) rfl dX3_at_17 ?_
      refine lv_iload_n hx hb dX3_at_20 rfl (lv_at hl 1 rfl) ?_
      refine lv_iconst (v := 4) hx hb dX3_at_21 (by decide) ?_
      refine lv_imul hx hb dX3_at_22 ?_
      refine lv_iload_n hx hb dX3_at_23 rfl (lv_at hl 2 rfl) ?_
      refine lv_iadd hx hb dX3_at_24 ?_
      obtain ⟨hi, hv⟩ := hv
      refine va_iald hx hb hK hP (14 + 2 * j_) 0 (wC_leA cy ad σ0 hj_j_) rfl hi dX3_at_25 ?_
      refine lv_goto (tgt := 31) hx hb dX3_at_26 (by decide) ?_
      rw [hZ]; rw [hQ] at hv
      exact W.iret (v := (rdA σ0 (4 + j_) (Int32.toNatClampNeg ((k_ * 4) + col_)))) hx hb hr (fun t ht hW => ⟨⟨(rdA σ0 (4 + j_) (Int32.toNatClampNeg ((k_ * 4) + col_))), (), rfl, hv, (P_of ht hP)⟩, hS.F ht⟩) hS.2.2 dX3_at_31
set_option maxHeartbeats 4000000 in
set_option maxRecDepth 100000 in
theorem wk_X3_set (l : Launch) (h_X3_has : Ct_X3_has l) (h_X8_isOneOf : Ct_X8_isOneOf l) (sp : Sp_X3_set) : Ct_X3_set l := by
  intro D cy ad A j_ k_ col_ v_  σ0 hj_j_ hpre
  refine Met.ofW (cc := cX3_set) (maxL := 4) (ret := none) (by decide) rfl ?_
  intro p e s m args below meth c s₁ B hml hv0
  obtain ⟨rfl, hP, hK, hD, hN⟩ := hv0
  have hx := B.exec
  have hb := B.bytes
  have hr := B.returns
  have hts := atoms_spec (ws := wsX3_set) B.pre
  have hown : s.vm.findClass RX3 = some m.cls := findClass_of_methodNamed B.named
  have hlocks := B.notSynchronized
  have hv := sp j_ k_ col_ v_  σ0 hpre
  have hl := lv_entry ([.ref (ad (13 + 2 * j_)), .int k_, .int col_, .int v_]) (n := 4) (Nat.le_of_ble_eq_true rfl)
  rw [lg_entry_eq]
  generalize (lg_sl ([.ref (ad (13 + 2 * j_)), .int k_, .int col_, .int v_]) ++ List.replicate (4 - (lg_sl ([.ref (ad (13 + 2 * j_)), .int k_, .int col_, .int v_])).length) Slot.unset).toArray = ls at hl ⊢
  have hl : lv_has ls 4 [(0, .ref (ad (13 + 2 * j_))), (1, .int k_), (2, .int col_), (3, .int v_)] := hl
  refine W_gen (fun R Z H locs hR hZ hH hlo => ?_)
  have hRf : R.frames = 1 := by rw [hR]; rfl
  have hRl : R.locals = 21 := by rw [hR]; rfl
  have hRc : R.cells = 0 := by rw [hR]; rfl
  have hRs : R.slots = 0 := by rw [hR]; rfl
  have hS : va_S A s.heap H locs := by rw [hH, hlo]; exact va_S.rf
  rw [← hH] at hP
  obtain ⟨Q, hQ⟩ : ∃ q : S_ → Prop, q = (post_X3_set j_ k_ col_ v_  σ0) := ⟨_, rfl⟩
  rw [← hQ] at hv
  have hinX3 : ∀ w ∈ wsX30, w ∈ wsX3_set := by decide +kernel
  refine lv_aload_n hx hb dX3_set_0 rfl (lv_at hl 0 rfl) ?_
  refine lv_iload_n hx hb dX3_set_1 rfl (lv_at hl 1 rfl) ?_
  have hp := True.intro
  refine k_read_i (w := wC cy ad) (va_runV (As := [.int k_]) (rest := []) ⟨hx, hb, hml, hown, hts⟩ (h_X3_has D cy ad A j_ k_ σ0 hj_j_ hp) (cwV 1 hts gX3_set_X3_has rfl rfl rfl (by decide +kernel) ⟨le_R hRf (Nat.le_of_ble_eq_true rfl), le_R hRl (Nat.le_of_ble_eq_true rfl)⟩) ⟨(fun a U g mk q => ⟨q.1, q.2.blind⟩), va_recv hK hP (ci := 3) (q0 := (13 + 2 * j_)) rfl (wC_le cy ad σ0 hj_j_), (fun U hU hW => ⟨rfl, WdC.pre hP hK hD hN hU hW⟩)⟩ rfl rfl hl.1 rfl (lv_room (Nat.le_of_ble_eq_true rfl)) dX3_set_2 ⟨le_R hRc (Nat.le_refl 0), le_R hRs (Nat.le_refl 0)⟩) hS (fun r H locs hr1 hP hS => ?_)
  subst hr1
  refine lv_if_eq (tgt := 27) hx hb dX3_set_5 (by decide) (fun c4 => ?_) (fun c4 => ?_)
  · have hv := hv.1 c4
    rw [hZ]; rw [hQ] at hv
    exact W.vret hx hb hr (fun t ht hW => ⟨⟨σ0, rfl, hv, ⟨P_of ht hP, hD⟩⟩, hS.F ht⟩) hS.2.2 dX3_set_27
  · have hv := hv.2 c4
    refine lv_iload_n hx hb dX3_set_8 rfl (lv_at hl 2 rfl) ?_
    refine lv_iconst (v := 4) hx hb dX3_set_9 (by decide) ?_
    refine k_pure_i (va_runSN (As := [.int col_, .int 4]) (rest := []) ⟨hx, hb, hml, hown, hts⟩ (h_X8_isOneOf col_ 4) ⟨va_cnB 2 hts gX3_set_X8_isOneOf_n26 rfl rfl rfl (nwm_39 hN) (hts (.initialized RX8) (List.mem_of_getElem? (i := 9) rfl)) (by decide +kernel) ⟨le_R hRf (Nat.le_of_ble_eq_true rfl), le_R hRl (Nat.le_of_ble_eq_true rfl)⟩, (hts (.static yX8_isOneOf) (List.mem_of_getElem? (i := 8) rfl)), trivial⟩ ⟨(fun a U g mk q => ⟨q.1, trivial⟩), (fun U hU hW => ⟨rfl, trivial⟩)⟩ rfl rfl hl.1 rfl (lv_room (Nat.le_of_ble_eq_true rfl)) dX3_set_10 ⟨le_R hRc (Nat.le_refl 0), le_R hRs (Nat.le_refl 0)⟩) hS hP (fun r H locs hr1 hP hS => ?_)
    subst hr1
    refine lv_if_eq (tgt := 27) hx hb dX3_set_13 (by decide) (fun c3 => ?_) (fun c3 => ?_)
    · have hv := hv.1 c3
      rw [hZ]; rw [hQ] at hv
      exact W.vret hx hb hr (fun t ht hW => ⟨⟨σ0, rfl, hv, ⟨P_of ht hP, hD⟩⟩, hS.F ht⟩) hS.2.2 dX3_set_27
    · have hv := hv.2 c3
      refine lv_aload_n hx hb dX3_set_16 rfl (lv_at hl 0 rfl) ?_
      refine va_get (ci := 3) (v := .ref (ad (14 + 2 * j_))) (C := RX3) (T := TX3) (N := 3) hx hb hts hinX3 hown hK hP (13 + 2 * j_) (wC_le cy ad σ0 hj_j_) rfl 1 (by decide) (hts (.fieldLink RX3 15 "TaleBans$Ledger" "cells" "[I") (List.mem_of_getElem? (i := 1) rfl)) (fun x h => h) rfl dX3_set_17 ?_
      refine lv_iload_n hx hb dX3_set_20 rfl (lv_at hl 1 rfl) ?_
      refine lv_iconst (v := 4) hx hb dX3_set_21 (by decide) ?_
      refine lv_imul hx hb dX3_set_22 ?_
      refine lv_iload_n hx hb dX3_set_23 rfl (lv_at hl 2 rfl) ?_
      refine lv_iadd hx hb dX3_set_24 ?_
      refine lv_iload_n hx hb dX3_set_25 rfl (lv_at hl 3 rfl) ?_
      obtain ⟨hi, hv⟩ := hv
      refine va_iast hx hb hK hP hD hS (14 + 2 * j_) 0 (wC_leA cy ad σ0 hj_j_) rfl hi dX3_set_26 (fun H locs hP hD hS => ?_)
      obtain ⟨σ1, e2⟩ : ∃ y : S_, y = wr2 σ0 (4 + j_) (Int32.toNatClampNeg ((k_ * 4) + col_)) v_ := ⟨_, rfl⟩
      have hP : va_P D vwCl (wC cy ad σ1) H := by rw [e2]; exact (wC_leA_set cy ad σ0 hj_j_ (upd (rdA σ0 (4 + j_)) (Int32.toNatClampNeg ((k_ * 4) + col_)) v_)) ▸ hP
      have hD : va_D A (wC cy ad σ1) := by rw [e2]; exact (wC_leA_set cy ad σ0 hj_j_ (upd (rdA σ0 (4 + j_)) (Int32.toNatClampNeg ((k_ * 4) + col_)) v_)) ▸ hD
      have hv := hv σ1 e2
      rw [hZ]; rw [hQ] at hv
      exact W.vret hx hb hr (fun t ht hW => ⟨⟨σ1, rfl, hv, ⟨P_of ht hP, hD⟩⟩, hS.F ht⟩) hS.2.2 dX3_set_27
set_option maxHeartbeats 4000000 in
set_option maxRecDepth 100000 in
theorem wk_X3_add (l : Launch) (h_X3_set : Ct_X3_set l) (sp : Sp_X3_add) : Ct_X3_add l := by
  intro D cy ad A j_ c0_ c1_ c2_ c3_  σ0 hj_j_ hpre
  refine Met.ofW (cc := cX3_add) (maxL := 5) (ret := (some .int)) (by decide) rfl ?_
  intro p e s m args below meth c s₁ B hml hv0
  obtain ⟨rfl, hP, hK, hD, hN⟩ := hv0
  have hx := B.exec
  have hb := B.bytes
  have hr := B.returns
  have hts := atoms_spec (ws := wsX3_add) B.pre
  have hown : s.vm.findClass RX3 = some m.cls := findClass_of_methodNamed B.named
  have hlocks := B.notSynchronized
  have hv := sp j_ c0_ c1_ c2_ c3_  σ0 hpre
  have hl := lv_entry ([.ref (ad (13 + 2 * j_)), .int c0_, .int c1_, .int c2_, .int c3_]) (n := 5) (Nat.le_of_ble_eq_true rfl)
  rw [lg_entry_eq]
  generalize (lg_sl ([.ref (ad (13 + 2 * j_)), .int c0_, .int c1_, .int c2_, .int c3_]) ++ List.replicate (5 - (lg_sl ([.ref (ad (13 + 2 * j_)), .int c0_, .int c1_, .int c2_, .int c3_])).length) Slot.unset).toArray = ls at hl ⊢
  have hl : lv_has ls 5 [(0, .ref (ad (13 + 2 * j_))), (1, .int c0_), (2, .int c1_), (3, .int c2_), (4, .int c3_)] := hl
  refine W_gen (fun R Z H locs hR hZ hH hlo => ?_)
  have hRf : R.frames = 2 := by rw [hR]; rfl
  have hRl : R.locals = 44 := by rw [hR]; rfl
  have hRc : R.cells = 0 := by rw [hR]; rfl
  have hRs : R.slots = 0 := by rw [hR]; rfl
  have hS : va_S A s.heap H locs := by rw [hH, hlo]; exact va_S.rf
  rw [← hH] at hP
  obtain ⟨Q, hQ⟩ : ∃ q : Int32 → S_ → Prop, q = (post_X3_add j_ c0_ c1_ c2_ c3_  σ0) := ⟨_, rfl⟩
  rw [← hQ] at hv
  have hinX3 : ∀ w ∈ wsX30, w ∈ wsX3_add := by decide +kernel
  refine lv_aload_n hx hb dX3_add_0 rfl (lv_at hl 0 rfl) ?_
  refine va_get (ci := 3) (v := .int (rdI σ0 (5 + j_))) (C := RX3) (T := TX3) (N := 3) hx hb hts hinX3 hown hK hP (13 + 2 * j_) (wC_le cy ad σ0 hj_j_) rfl 2 (by decide) (hts (.fieldLink RX3 19 "TaleBans$Ledger" "count" "I") (List.mem_of_getElem? (i := 1) rfl)) (fun x h => h) rfl dX3_add_1 ?_
  refine lv_aload_n hx hb dX3_add_4 rfl (lv_at hl 0 rfl) ?_
  refine va_get (ci := 3) (v := .int (nI (limN j_))) (C := RX3) (T := TX3) (N := 3) hx hb hts hinX3 hown hK hP (13 + 2 * j_) (wC_le cy ad σ0 hj_j_) rfl 0 (by decide) (hts (.fieldLink RX3 9 "TaleBans$Ledger" "limit" "I") (List.mem_of_getElem? (i := 2) rfl)) (fun x h => h) rfl dX3_add_5 ?_
  refine lv_icmp_lt (tgt := 14) hx hb dX3_add_8 (by decide) (fun c7 => ?_) (fun c7 => ?_)
  · have hv := hv.1 c7
    refine lv_aload_n hx hb dX3_add_14 rfl (lv_at hl 0 rfl) ?_
    refine lv_dup hx hb dX3_add_15 rfl ?_
    refine va_get (ci := 3) (v := .int (rdI σ0 (5 + j_))) (C := RX3) (T := TX3) (N := 3) hx hb hts hinX3 hown hK hP (13 + 2 * j_) (wC_le cy ad σ0 hj_j_) rfl 2 (by decide) (hts (.fieldLink RX3 19 "TaleBans$Ledger" "count" "I") (List.mem_of_getElem? (i := 1) rfl)) (fun x h => h) rfl dX3_add_16 ?_
    refine lv_iconst (v := 1) hx hb dX3_add_19 (by decide) ?_
    refine lv_iadd hx hb dX3_add_20 ?_
    refine va_put (ci := 3) (v := .int ((rdI σ0 (5 + j_)) + 1)) (ty := .int) (C := RX3) (T := TX3) (N := 3) hx hb hts hinX3 tyX3 tyX3_ok nmX3 hown hK hP hD hS (13 + 2 * j_) (wC_le cy ad σ0 hj_j_) rfl 2 (by decide) (hts (.fieldLink RX3 19 "TaleBans$Ledger" "count" "I") (List.mem_of_getElem? (i := 1) rfl)) (fun x h => h) rfl (by decide +kernel) rfl rfl (Nat.le_of_ble_eq_true rfl) dX3_add_21 (fun H locs hP hD hS => ?_)
    obtain ⟨σ1, e2⟩ : ∃ y : S_, y = wrI σ0 (5 + j_) ((rdI σ0 (5 + j_)) + 1) := ⟨_, rfl⟩
    have hP : va_P D vwCl (wC cy ad σ1) H := by rw [e2]; exact (wC_le_cnt cy ad σ0 hj_j_ ((rdI σ0 (5 + j_)) + 1)) ▸ hP
    have hD : va_D A (wC cy ad σ1) := by rw [e2]; exact (wC_le_cnt cy ad σ0 hj_j_ ((rdI σ0 (5 + j_)) + 1)) ▸ hD
    have hv := hv σ1 e2
    refine lv_aload_n hx hb dX3_add_24 rfl (lv_at hl 0 rfl) ?_
    refine lv_aload_n hx hb dX3_add_25 rfl (lv_at hl 0 rfl) ?_
    refine va_get (ci := 3) (v := .int (rdI σ1 (5 + j_))) (C := RX3) (T := TX3) (N := 3) hx hb hts hinX3 hown hK hP (13 + 2 * j_) (wC_le cy ad σ1 hj_j_) rfl 2 (by decide) (hts (.fieldLink RX3 19 "TaleBans$Ledger" "count" "I") (List.mem_of_getElem? (i := 1) rfl)) (fun x h => h) rfl dX3_add_26 ?_
    refine lv_iconst (v := 1) hx hb dX3_add_29 (by decide) ?_
    refine lv_isub hx hb dX3_add_30 ?_
    refine lv_iconst (v := 0) hx hb dX3_add_31 (by decide) ?_
    refine lv_iload_n hx hb dX3_add_32 rfl (lv_at hl 1 rfl) ?_
    obtain ⟨hp, hv⟩ := hv
    refine k_rel_v (w := wC cy ad) (va_runV (As := [.int ((rdI σ1 (5 + j_)) - 1), .int 0, .int c0_]) (rest := []) ⟨hx, hb, hml, hown, hts⟩ (h_X3_set D cy ad A j_ ((rdI σ1 (5 + j_)) - 1) 0 c0_ σ1 hj_j_ hp) (cwV 3 hts gX3_add_X3_set rfl rfl rfl (by decide +kernel) ⟨le_R hRf (Nat.le_of_ble_eq_true rfl), le_R hRl (Nat.le_of_ble_eq_true rfl)⟩) ⟨(fun a U g mk q => ⟨q.1, q.2.blind⟩), va_recv hK hP (ci := 3) (q0 := (13 + 2 * j_)) rfl (wC_le cy ad σ1 hj_j_), (fun U hU hW => ⟨rfl, WdC.pre hP hK hD hN hU hW⟩)⟩ rfl rfl hl.1 rfl (lv_room (Nat.le_of_ble_eq_true rfl)) dX3_add_33 ⟨le_R hRc (Nat.le_refl 0), le_R hRs (Nat.le_refl 0)⟩) hS (fun σ3 H locs hr1 hP hD hS => ?_)
    have hv := hv σ3 hr1
    refine lv_aload_n hx hb dX3_add_36 rfl (lv_at hl 0 rfl) ?_
    refine lv_aload_n hx hb dX3_add_37 rfl (lv_at hl 0 rfl) ?_
    refine va_get (ci := 3) (v := .int (rdI σ3 (5 + j_))) (C := RX3) (T := TX3) (N := 3) hx hb hts hinX3 hown hK hP (13 + 2 * j_) (wC_le cy ad σ3 hj_j_) rfl 2 (by decide) (hts (.fieldLink RX3 19 "TaleBans$Ledger" "count" "I") (List.mem_of_getElem? (i := 1) rfl)) (fun x h => h) rfl dX3_add_38 ?_
    refine lv_iconst (v := 1) hx hb dX3_add_41 (by decide) ?_
    refine lv_isub hx hb dX3_add_42 ?_
    refine lv_iconst (v := 1) hx hb dX3_add_43 (by decide) ?_
    refine lv_iload_n hx hb dX3_add_44 rfl (lv_at hl 2 rfl) ?_
    obtain ⟨hp, hv⟩ := hv
    refine k_rel_v (w := wC cy ad) (va_runV (As := [.int ((rdI σ3 (5 + j_)) - 1), .int 1, .int c1_]) (rest := []) ⟨hx, hb, hml, hown, hts⟩ (h_X3_set D cy ad A j_ ((rdI σ3 (5 + j_)) - 1) 1 c1_ σ3 hj_j_ hp) (cwV 3 hts gX3_add_X3_set rfl rfl rfl (by decide +kernel) ⟨le_R hRf (Nat.le_of_ble_eq_true rfl), le_R hRl (Nat.le_of_ble_eq_true rfl)⟩) ⟨(fun a U g mk q => ⟨q.1, q.2.blind⟩), va_recv hK hP (ci := 3) (q0 := (13 + 2 * j_)) rfl (wC_le cy ad σ3 hj_j_), (fun U hU hW => ⟨rfl, WdC.pre hP hK hD hN hU hW⟩)⟩ rfl rfl hl.1 rfl (lv_room (Nat.le_of_ble_eq_true rfl)) dX3_add_45 ⟨le_R hRc (Nat.le_refl 0), le_R hRs (Nat.le_refl 0)⟩) hS (fun σ4 H locs hr1 hP hD hS => ?_)
    have hv := hv σ4 hr1
    refine lv_aload_n hx hb dX3_add_48 rfl (lv_at hl 0 rfl) ?_
    refine lv_aload_n hx hb dX3_add_49 rfl (lv_at hl 0 rfl) ?_
    refine va_get (ci := 3) (v := .int (rdI σ4 (5 + j_))) (C := RX3) (T := TX3) (N := 3) hx hb hts hinX3 hown hK hP (13 + 2 * j_) (wC_le cy ad σ4 hj_j_) rfl 2 (by decide) (hts (.fieldLink RX3 19 "TaleBans$Ledger" "count" "I") (List.mem_of_getElem? (i := 1) rfl)) (fun x h => h) rfl dX3_add_50 ?_
    refine lv_iconst (v := 1) hx hb dX3_add_53 (by decide) ?_
    refine lv_isub hx hb dX3_add_54 ?_
    refine lv_iconst (v := 2) hx hb dX3_add_55 (by decide) ?_
    refine lv_iload_n hx hb dX3_add_56 rfl (lv_at hl 3 rfl) ?_
    obtain ⟨hp, hv⟩ := hv
    refine k_rel_v (w := wC cy ad) (va_runV (As := [.int ((rdI σ4 (5 + j_)) - 1), .int 2, .int c2_]) (rest := []) ⟨hx, hb, hml, hown, hts⟩ (h_X3_set D cy ad A j_ ((rdI σ4 (5 + j_)) - 1) 2 c2_ σ4 hj_j_ hp) (cwV 3 hts gX3_add_X3_set rfl rfl rfl (by decide +kernel) ⟨le_R hRf (Nat.le_of_ble_eq_true rfl), le_R hRl (Nat.le_of_ble_eq_true rfl)⟩) ⟨(fun a U g mk q => ⟨q.1, q.2.blind⟩), va_recv hK hP (ci := 3) (q0 := (13 + 2 * j_)) rfl (wC_le cy ad σ4 hj_j_), (fun U hU hW => ⟨rfl, WdC.pre hP hK hD hN hU hW⟩)⟩ rfl rfl hl.1 rfl (lv_room (Nat.le_of_ble_eq_true rfl)) dX3_add_57 ⟨le_R hRc (Nat.le_refl 0), le_R hRs (Nat.le_refl 0)⟩) hS (fun σ5 H locs hr1 hP hD hS => ?_)
    have hv := hv σ5 hr1
    refine lv_aload_n hx hb dX3_add_60 rfl (lv_at hl 0 rfl) ?_
    refine lv_aload_n hx hb dX3_add_61 rfl (lv_at hl 0 rfl) ?_
    refine va_get (ci := 3) (v := .int (rdI σ5 (5 + j_))) (C := RX3) (T := TX3) (N := 3) hx hb hts hinX3 hown hK hP (13 + 2 * j_) (wC_le cy ad σ5 hj_j_) rfl 2 (by decide) (hts (.fieldLink RX3 19 "TaleBans$Ledger" "count" "I") (List.mem_of_getElem? (i := 1) rfl)) (fun x h => h) rfl dX3_add_62 ?_
    refine lv_iconst (v := 1) hx hb dX3_add_65 (by decide) ?_
    refine lv_isub hx hb dX3_add_66 ?_
    refine lv_iconst (v := 3) hx hb dX3_add_67 (by decide) ?_
    refine lv_iload hx hb dX3_add_68 (lv_at hl 4 rfl) ?_
    obtain ⟨hp, hv⟩ := hv
    refine k_rel_v (w := wC cy ad) (va_runV (As := [.int ((rdI σ5 (5 + j_)) - 1), .int 3, .int c3_]) (rest := []) ⟨hx, hb, hml, hown, hts⟩ (h_X3_set D cy ad A j_ ((rdI σ5 (5 + j_)) - 1) 3 c3_ σ5 hj_j_ hp) (cwV 3 hts gX3_add_X3_set rfl rfl rfl (by decide +kernel) ⟨le_R hRf (Nat.le_of_ble_eq_true rfl), le_R hRl (Nat.le_of_ble_eq_true rfl)⟩) ⟨(fun a U g mk q => ⟨q.1, q.2.blind⟩), va_recv hK hP (ci := 3) (q0 := (13 + 2 * j_)) rfl (wC_le cy ad σ5 hj_j_), (fun U hU hW => ⟨rfl, WdC.pre hP hK hD hN hU hW⟩)⟩ rfl rfl hl.1 rfl (lv_room (Nat.le_of_ble_eq_true rfl)) dX3_add_70 ⟨le_R hRc (Nat.le_refl 0), le_R hRs (Nat.le_refl 0)⟩) hS (fun σ6 H locs hr1 hP hD hS => ?_)
    have hv := hv σ6 hr1
    refine lv_aload_n hx hb dX3_add_73 rfl (lv_at hl 0 rfl) ?_
    refine va_get (ci := 3) (v := .int (rdI σ6 (5 + j_))) (C := RX3) (T := TX3) (N := 3) hx hb hts hinX3 hown hK hP (13 + 2 * j_) (wC_le cy ad σ6 hj_j_) rfl 2 (by decide) (hts (.fieldLink RX3 19 "TaleBans$Ledger" "count" "I") (List.mem_of_getElem? (i := 1) rfl)) (fun x h => h) rfl dX3_add_74 ?_
    refine lv_iconst (v := 1) hx hb dX3_add_77 (by decide) ?_
    refine lv_isub hx hb dX3_add_78 ?_
    rw [hZ]; rw [hQ] at hv
    exact W.iret (v := ((rdI σ6 (5 + j_)) - 1)) hx hb hr (fun t ht hW => ⟨⟨((rdI σ6 (5 + j_)) - 1), σ6, rfl, hv, ⟨P_of ht hP, hD⟩⟩, hS.F ht⟩) hS.2.2 dX3_add_79
  · have hv := hv.2 c7
    refine lv_bipush (v := (-4)) hx hb dX3_add_11 (by decide) ?_
    rw [hZ]; rw [hQ] at hv
    exact W.iret (v := (-4)) hx hb hr (fun t ht hW => ⟨⟨(-4), σ0, rfl, hv, ⟨P_of ht hP, hD⟩⟩, hS.F ht⟩) hS.2.2 dX3_add_13
set_option maxHeartbeats 4000000 in
set_option maxRecDepth 100000 in
theorem wk_X3_takeBack (l : Launch) (sp : Sp_X3_takeBack) : Ct_X3_takeBack l := by
  intro D cy ad A j_ k_  σ0 hj_j_ hpre
  refine Met.ofW (cc := cX3_takeBack) (maxL := 2) (ret := (some .int)) (by decide) rfl ?_
  intro p e s m args below meth c s₁ B hml hv0
  obtain ⟨rfl, hP, hK, hD, hN⟩ := hv0
  have hx := B.exec
  have hb := B.bytes
  have hr := B.returns
  have hts := atoms_spec (ws := wsX3_takeBack) B.pre
  have hown : s.vm.findClass RX3 = some m.cls := findClass_of_methodNamed B.named
  have hlocks := B.notSynchronized
  have hv := sp j_ k_  σ0 hpre
  have hl := lv_entry ([.ref (ad (13 + 2 * j_)), .int k_]) (n := 2) (Nat.le_of_ble_eq_true rfl)
  rw [lg_entry_eq]
  generalize (lg_sl ([.ref (ad (13 + 2 * j_)), .int k_]) ++ List.replicate (2 - (lg_sl ([.ref (ad (13 + 2 * j_)), .int k_])).length) Slot.unset).toArray = ls at hl ⊢
  have hl : lv_has ls 2 [(0, .ref (ad (13 + 2 * j_))), (1, .int k_)] := hl
  refine W_gen (fun R Z H locs hR hZ hH hlo => ?_)
  have hRf : R.frames = 0 := by rw [hR]; rfl
  have hRl : R.locals = 0 := by rw [hR]; rfl
  have hRc : R.cells = 0 := by rw [hR]; rfl
  have hRs : R.slots = 0 := by rw [hR]; rfl
  have hS : va_S A s.heap H locs := by rw [hH, hlo]; exact va_S.rf
  rw [← hH] at hP
  obtain ⟨Q, hQ⟩ : ∃ q : Int32 → S_ → Prop, q = (post_X3_takeBack j_ k_  σ0) := ⟨_, rfl⟩
  rw [← hQ] at hv
  have hinX3 : ∀ w ∈ wsX30, w ∈ wsX3_takeBack := by decide +kernel
  refine lv_iload_n hx hb dX3_takeBack_0 rfl (lv_at hl 1 rfl) ?_
  refine lv_if_lt (tgt := 12) hx hb dX3_takeBack_1 (by decide) (fun c4 => ?_) (fun c4 => ?_)
  · have hv := hv.1 c4
    refine lv_bipush (v := (-2)) hx hb dX3_takeBack_12 (by decide) ?_
    rw [hZ]; rw [hQ] at hv
    exact W.iret (v := (-2)) hx hb hr (fun t ht hW => ⟨⟨(-2), σ0, rfl, hv, ⟨P_of ht hP, hD⟩⟩, hS.F ht⟩) hS.2.2 dX3_takeBack_14
  · have hv := hv.2 c4
    refine lv_iload_n hx hb dX3_takeBack_4 rfl (lv_at hl 1 rfl) ?_
    refine lv_aload_n hx hb dX3_takeBack_5 rfl (lv_at hl 0 rfl) ?_
    refine va_get (ci := 3) (v := .int (rdI σ0 (5 + j_))) (C := RX3) (T := TX3) (N := 3) hx hb hts hinX3 hown hK hP (13 + 2 * j_) (wC_le cy ad σ0 hj_j_) rfl 2 (by decide) (hts (.fieldLink RX3 19 "TaleBans$Ledger" "count" "I") (List.mem_of_getElem? (i := 1) rfl)) (fun x h => h) rfl dX3_takeBack_6 ?_
    refine lv_icmp_le (tgt := 15) hx hb dX3_takeBack_9 (by decide) (fun c3 => ?_) (fun c3 => ?_)
    · have hv := hv.1 c3
      refine lv_aload_n hx hb dX3_takeBack_15 rfl (lv_at hl 0 rfl) ?_
      refine lv_dup hx hb dX3_takeBack_16 rfl ?_
      refine va_get (ci := 3) (v := .int (rdI σ0 (5 + j_))) (C := RX3) (T := TX3) (N := 3) hx hb hts hinX3 hown hK hP (13 + 2 * j_) (wC_le cy ad σ0 hj_j_) rfl 2 (by decide) (hts (.fieldLink RX3 19 "TaleBans$Ledger" "count" "I") (List.mem_of_getElem? (i := 1) rfl)) (fun x h => h) rfl dX3_takeBack_17 ?_
      refine lv_iload_n hx hb dX3_takeBack_20 rfl (lv_at hl 1 rfl) ?_
      refine lv_isub hx hb dX3_takeBack_21 ?_
      refine va_put (ci := 3) (v := .int ((rdI σ0 (5 + j_)) - k_)) (ty := .int) (C := RX3) (T := TX3) (N := 3) hx hb hts hinX3 tyX3 tyX3_ok nmX3 hown hK hP hD hS (13 + 2 * j_) (wC_le cy ad σ0 hj_j_) rfl 2 (by decide) (hts (.fieldLink RX3 19 "TaleBans$Ledger" "count" "I") (List.mem_of_getElem? (i := 1) rfl)) (fun x h => h) rfl (by decide +kernel) rfl rfl (Nat.le_of_ble_eq_true rfl) dX3_takeBack_22 (fun H locs hP hD hS => ?_)
      obtain ⟨σ1, e2⟩ : ∃ y : S_, y = wrI σ0 (5 + j_) ((rdI σ0 (5 + j_)) - k_) := ⟨_, rfl⟩
      have hP : va_P D vwCl (wC cy ad σ1) H := by rw [e2]; exact (wC_le_cnt cy ad σ0 hj_j_ ((rdI σ0 (5 + j_)) - k_)) ▸ hP
      have hD : va_D A (wC cy ad σ1) := by rw [e2]; exact (wC_le_cnt cy ad σ0 hj_j_ ((rdI σ0 (5 + j_)) - k_)) ▸ hD
      have hv := hv σ1 e2
      refine lv_aload_n hx hb dX3_takeBack_25 rfl (lv_at hl 0 rfl) ?_
      refine va_get (ci := 3) (v := .int (rdI σ1 (5 + j_))) (C := RX3) (T := TX3) (N := 3) hx hb hts hinX3 hown hK hP (13 + 2 * j_) (wC_le cy ad σ1 hj_j_) rfl 2 (by decide) (hts (.fieldLink RX3 19 "TaleBans$Ledger" "count" "I") (List.mem_of_getElem? (i := 1) rfl)) (fun x h => h) rfl dX3_takeBack_26 ?_
      rw [hZ]; rw [hQ] at hv
      exact W.iret (v := (rdI σ1 (5 + j_))) hx hb hr (fun t ht hW => ⟨⟨(rdI σ1 (5 + j_)), σ1, rfl, hv, ⟨P_of ht hP, hD⟩⟩, hS.F ht⟩) hS.2.2 dX3_takeBack_29
    · have hv := hv.2 c3
      refine lv_bipush (v := (-2)) hx hb dX3_takeBack_12 (by decide) ?_
      rw [hZ]; rw [hQ] at hv
      exact W.iret (v := (-2)) hx hb hr (fun t ht hW => ⟨⟨(-2), σ0, rfl, hv, ⟨P_of ht hP, hD⟩⟩, hS.F ht⟩) hS.2.2 dX3_takeBack_14
set_option maxHeartbeats 4000000 in
set_option maxRecDepth 100000 in
theorem wk_X3_keepBelow (l : Launch) (h_X3_at : Ct_X3_at l) (sp : Sp_X3_keepBelow) : Ct_X3_keepBelow l := by
  intro D cy ad A j_ col_ bound_ c1g σ0 hj_j_ hpre
  refine Met.ofW (cc := cX3_keepBelow) (maxL := 5) (ret := none) (by decide) rfl ?_
  intro p e s m args below meth c s₁ B hml hv0
  obtain ⟨rfl, hP, hK, hD, hN⟩ := hv0
  have hx := B.exec
  have hb := B.bytes
  have hr := B.returns
  have hts := atoms_spec (ws := wsX3_keepBelow) B.pre
  have hown : s.vm.findClass RX3 = some m.cls := findClass_of_methodNamed B.named
  have hlocks := B.notSynchronized
  have hv := sp j_ col_ bound_ c1g σ0 hpre
  have hl := lv_entry ([.ref (ad (13 + 2 * j_)), .int col_, .int bound_]) (n := 5) (Nat.le_of_ble_eq_true rfl)
  rw [lg_entry_eq]
  generalize (lg_sl ([.ref (ad (13 + 2 * j_)), .int col_, .int bound_]) ++ List.replicate (5 - (lg_sl ([.ref (ad (13 + 2 * j_)), .int col_, .int bound_])).length) Slot.unset).toArray = ls at hl ⊢
  have hl : lv_has ls 5 [(0, .ref (ad (13 + 2 * j_))), (1, .int col_), (2, .int bound_)] := hl
  refine W_gen (fun R Z H locs hR hZ hH hlo => ?_)
  have hRf : R.frames = 2 := by rw [hR]; rfl
  have hRl : R.locals = 91 := by rw [hR]; rfl
  have hRc : R.cells = 0 := by rw [hR]; rfl
  have hRs : R.slots = 0 := by rw [hR]; rfl
  have hS : va_S A s.heap H locs := by rw [hH, hlo]; exact va_S.rf
  rw [← hH] at hP
  obtain ⟨Q, hQ⟩ : ∃ q : S_ → Prop, q = (post_X3_keepBelow j_ col_ bound_ c1g σ0) := ⟨_, rfl⟩
  rw [← hQ] at hv
  have hinX3 : ∀ w ∈ wsX30, w ∈ wsX3_keepBelow := by decide +kernel
  refine lv_iconst (v := 0) hx hb dX3_keepBelow_0 (by decide) ?_
  refine lv_istore_n (lv' := [(3, .int 0), (0, .ref (ad (13 + 2 * j_))), (1, .int col_), (2, .int bound_)]) hx hb dX3_keepBelow_1 rfl hl (by decide) rfl (fun ls hl => ?_)
  refine lv_iconst (v := 0) hx hb dX3_keepBelow_2 (by decide) ?_
  refine lv_istore (lv' := [(4, .int 0), (3, .int 0), (0, .ref (ad (13 + 2 * j_))), (1, .int col_), (2, .int bound_)]) hx hb dX3_keepBelow_3 hl (by decide) rfl (fun ls hl => ?_)
  obtain ⟨n5, hv⟩ := hv
  have lp5 : ∀ (nn5 : Nat) (x1 : Int32) (x2 : Int32) (σ3 : S_) (H : Heap) (locs : List Loc) (ls : Array Slot), vl_X3_keepBelow_5 j_ col_ bound_ Q nn5 x1 x2 σ3 → va_P D vwCl (wC cy ad σ3) H → va_D A (wC cy ad σ3) → va_S A s.heap H locs → lv_has ls 5 [(0, .ref (ad (13 + 2 * j_))), (1, .int col_), (2, .int bound_), (3, .int x1), (4, .int x2)] → W p l e R s m ([.ref (ad (13 + 2 * j_)), .int col_, .int bound_] : List Value).toArray  below meth c H locs 0 0 Z (F0 m 5 ls []) := by
    intro nn5
    induction nn5 with
    | zero => intro x1 x2 σ3 H locs ls hv; exact absurd hv id
    | succ mm5 ih5 =>
      intro x1 x2 σ3 H locs ls hv hP hD hS hl
      refine lv_iload hx hb dX3_keepBelow_5 (lv_at hl 4 rfl) ?_
      refine lv_aload_n hx hb dX3_keepBelow_7 rfl (lv_at hl 0 rfl) ?_
      refine va_get (ci := 3) (v := .int (rdI σ3 (5 + j_))) (C := RX3) (T := TX3) (N := 3) hx hb hts hinX3 hown hK hP (13 + 2 * j_) (wC_le cy ad σ3 hj_j_) rfl 2 (by decide) (hts (.fieldLink RX3 19 "TaleBans$Ledger" "count" "I") (List.mem_of_getElem? (i := 1) rfl)) (fun x h => h) rfl dX3_keepBelow_8 ?_
      refine lv_icmp_ge (tgt := 53) hx hb dX3_keepBelow_11 (by decide) (fun c9 => ?_) (fun c9 => ?_)
      · have hv := hv.1 c9
        refine lv_aload_n hx hb dX3_keepBelow_53 rfl (lv_at hl 0 rfl) ?_
        refine lv_iload_n hx hb dX3_keepBelow_54 rfl (lv_at hl 3 rfl) ?_
        refine va_put (ci := 3) (v := .int x1) (ty := .int) (C := RX3) (T := TX3) (N := 3) hx hb hts hinX3 tyX3 tyX3_ok nmX3 hown hK hP hD hS (13 + 2 * j_) (wC_le cy ad σ3 hj_j_) rfl 2 (by decide) (hts (.fieldLink RX3 19 "TaleBans$Ledger" "count" "I") (List.mem_of_getElem? (i := 1) rfl)) (fun x h => h) rfl (by decide +kernel) rfl rfl (Nat.le_of_ble_eq_true rfl) dX3_keepBelow_55 (fun H locs hP hD hS => ?_)
        obtain ⟨σ4, e5⟩ : ∃ y : S_, y = wrI σ3 (5 + j_) x1 := ⟨_, rfl⟩
        have hP : va_P D vwCl (wC cy ad σ4) H := by rw [e5]; exact (wC_le_cnt cy ad σ3 hj_j_ x1) ▸ hP
        have hD : va_D A (wC cy ad σ4) := by rw [e5]; exact (wC_le_cnt cy ad σ3 hj_j_ x1) ▸ hD
        have hv := hv σ4 e5
        rw [hZ]; rw [hQ] at hv
        exact W.vret hx hb hr (fun t ht hW => ⟨⟨σ4, rfl, hv, ⟨P_of ht hP, hD⟩⟩, hS.F ht⟩) hS.2.2 dX3_keepBelow_58
      · have hv := hv.2 c9
        refine lv_aload_n hx hb dX3_keepBelow_14 rfl (lv_at hl 0 rfl) ?_
        refine lv_iload hx hb dX3_keepBelow_15 (lv_at hl 4 rfl) ?_
        refine lv_iload_n hx hb dX3_keepBelow_17 rfl (lv_at hl 1 rfl) ?_
        obtain ⟨hp, hv⟩ := hv
        refine k_read_i (w := wC cy ad) (va_runV (As := [.int x2, .int col_]) (rest := []) ⟨hx, hb, hml, hown, hts⟩ (h_X3_at D cy ad A j_ x2 col_ σ3 hj_j_ hp) (cwV 2 hts gX3_keepBelow_X3_at rfl rfl rfl (by decide +kernel) ⟨le_R hRf (Nat.le_of_ble_eq_true rfl), le_R hRl (Nat.le_of_ble_eq_true rfl)⟩) ⟨(fun a U g mk q => ⟨q.1, q.2.blind⟩), va_recv hK hP (ci := 3) (q0 := (13 + 2 * j_)) rfl (wC_le cy ad σ3 hj_j_), (fun U hU hW => ⟨rfl, WdC.pre hP hK hD hN hU hW⟩)⟩ rfl rfl hl.1 rfl (lv_room (Nat.le_of_ble_eq_true rfl)) dX3_keepBelow_18 ⟨le_R hRc (Nat.le_refl 0), le_R hRs (Nat.le_refl 0)⟩) hS (fun r H locs hr1 hP hS => ?_)
        subst hr1
        refine lv_iload_n hx hb dX3_keepBelow_21 rfl (lv_at hl 2 rfl) ?_
        refine lv_icmp_ge (tgt := 47) hx hb dX3_keepBelow_22 (by decide) (fun c8 => ?_) (fun c8 => ?_)
        · have hv := hv.1 c8
          refine lv_iinc (v := (x2 + 1)) (lv' := [(4, .int (x2 + 1)), (0, .ref (ad (13 + 2 * j_))), (1, .int col_), (2, .int bound_), (3, .int x1)]) hx hb dX3_keepBelow_47 hl (k := 4) rfl rfl (by decide) rfl (fun ls hl => ?_)
          refine lv_goto (tgt := 5) hx hb dX3_keepBelow_50 (by decide) ?_
          exact ih5 x1 (x2 + 1) σ3 _ _ _ hv hP hD hS (lv_sub hl [1, 2, 3, 4, 0] rfl)
        · have hv := hv.2 c8
          refine lv_aload_n hx hb dX3_keepBelow_25 rfl (lv_at hl 0 rfl) ?_
          refine va_get (ci := 3) (v := .ref (ad (14 + 2 * j_))) (C := RX3) (T := TX3) (N := 3) hx hb hts hinX3 hown hK hP (13 + 2 * j_) (wC_le cy ad σ3 hj_j_) rfl 1 (by decide) (hts (.fieldLink RX3 15 "TaleBans$Ledger" "cells" "[I") (List.mem_of_getElem? (i := 2) rfl)) (fun x h => h) rfl dX3_keepBelow_26 ?_
          refine lv_iload hx hb dX3_keepBelow_29 (lv_at hl 4 rfl) ?_
          refine lv_iconst (v := 4) hx hb dX3_keepBelow_31 (by decide) ?_
          refine lv_imul hx hb dX3_keepBelow_32 ?_
          refine lv_aload_n hx hb dX3_keepBelow_33 rfl (lv_at hl 0 rfl) ?_
          refine va_get (ci := 3) (v := .ref (ad (14 + 2 * j_))) (C := RX3) (T := TX3) (N := 3) hx hb hts hinX3 hown hK hP (13 + 2 * j_) (wC_le cy ad σ3 hj_j_) rfl 1 (by decide) (hts (.fieldLink RX3 15 "TaleBans$Ledger" "cells" "[I") (List.mem_of_getElem? (i := 2) rfl)) (fun x h => h) rfl dX3_keepBelow_34 ?_
          refine lv_iload_n hx hb dX3_keepBelow_37 rfl (lv_at hl 3 rfl) ?_
          refine lv_iconst (v := 4) hx hb dX3_keepBelow_38 (by decide) ?_
          refine lv_imul hx hb dX3_keepBelow_39 ?_
          refine lv_iconst (v := 4) hx hb dX3_keepBelow_40 (by decide) ?_
          obtain ⟨⟨h1, h2, h3, h4, h5⟩, hv⟩ := hv
          refine va_copyi hx hb (hml.trans hl.1.symm) hown (hts (.methodLink RX3 38 arraycopyName) (List.mem_of_getElem? (i := 3) rfl)) (hts (.native arraycopyName) (List.mem_of_getElem? (i := 4) rfl)) (hts (.static arraycopyName) (List.mem_of_getElem? (i := 5) rfl)) (hts (.initialized "java/lang/System") (List.mem_of_getElem? (i := 6) rfl)) hK hP hD hS (14 + 2 * j_) (14 + 2 * j_) 0 0 (wC_leA cy ad σ3 hj_j_) (wC_leA cy ad σ3 hj_j_) rfl rfl rfl h1 h2 h3 h4 h5 (fun i hi => rfl) (le_R hRf (Nat.le_of_ble_eq_true rfl)) (le_R hRl (Nat.le_of_ble_eq_true rfl)) dX3_keepBelow_41 (fun H locs hP hD hS => ?_)
          obtain ⟨σ6, e7⟩ : ∃ y : S_, y = wrA σ3 (4 + j_) (va_cpy (rdA σ3 (4 + j_)) (rdA σ3 (4 + j_)) (Int32.toNatClampNeg (x2 * 4)) (Int32.toNatClampNeg (x1 * 4)) (Int32.toNatClampNeg 4)) := ⟨_, rfl⟩
          have hP : va_P D vwCl (wC cy ad σ6) H := by rw [e7]; exact (wC_leA_set cy ad σ3 hj_j_ (va_cpy (rdA σ3 (4 + j_)) (rdA σ3 (4 + j_)) (Int32.toNatClampNeg (x2 * 4)) (Int32.toNatClampNeg (x1 * 4)) (Int32.toNatClampNeg 4))) ▸ hP
          have hD : va_D A (wC cy ad σ6) := by rw [e7]; exact (wC_leA_set cy ad σ3 hj_j_ (va_cpy (rdA σ3 (4 + j_)) (rdA σ3 (4 + j_)) (Int32.toNatClampNeg (x2 * 4)) (Int32.toNatClampNeg (x1 * 4)) (Int32.toNatClampNeg 4))) ▸ hD
          have hv := hv σ6 e7
          refine lv_iinc (v := (x1 + 1)) (lv' := [(3, .int (x1 + 1)), (0, .ref (ad (13 + 2 * j_))), (1, .int col_), (2, .int bound_), (4, .int x2)]) hx hb dX3_keepBelow_44 hl (k := 3) rfl rfl (by decide) rfl (fun ls hl => ?_)
          refine lv_iinc (v := (x2 + 1)) (lv' := [(4, .int (x2 + 1)), (3, .int (x1 + 1)), (0, .ref (ad (13 + 2 * j_))), (1, .int col_), (2, .int bound_)]) hx hb dX3_keepBelow_47 hl (k := 4) rfl rfl (by decide) rfl (fun ls hl => ?_)
          refine lv_goto (tgt := 5) hx hb dX3_keepBelow_50 (by decide) ?_
          exact ih5 (x1 + 1) (x2 + 1) σ6 _ _ _ hv hP hD hS (lv_sub hl [2, 3, 4, 1, 0] rfl)
  exact lp5 n5 0 0 σ0 _ _ _ hv hP hD hS (lv_sub hl [2, 3, 4, 1, 0] rfl)
set_option maxHeartbeats 4000000 in
set_option maxRecDepth 100000 in
theorem wk_X3_clear (l : Launch) (sp : Sp_X3_clear) : Ct_X3_clear l := by
  intro D cy ad A j_  σ0 hj_j_ hpre
  refine Met.ofW (cc := cX3_clear) (maxL := 1) (ret := none) (by decide) rfl ?_
  intro p e s m args below meth c s₁ B hml hv0
  obtain ⟨rfl, hP, hK, hD, hN⟩ := hv0
  have hx := B.exec
  have hb := B.bytes
  have hr := B.returns
  have hts := atoms_spec (ws := wsX3_clear) B.pre
  have hown : s.vm.findClass RX3 = some m.cls := findClass_of_methodNamed B.named
  have hlocks := B.notSynchronized
  have hv := sp j_  σ0 hpre
  have hl := lv_entry ([.ref (ad (13 + 2 * j_))]) (n := 1) (Nat.le_of_ble_eq_true rfl)
  rw [lg_entry_eq]
  generalize (lg_sl ([.ref (ad (13 + 2 * j_))]) ++ List.replicate (1 - (lg_sl ([.ref (ad (13 + 2 * j_))])).length) Slot.unset).toArray = ls at hl ⊢
  have hl : lv_has ls 1 [(0, .ref (ad (13 + 2 * j_)))] := hl
  refine W_gen (fun R Z H locs hR hZ hH hlo => ?_)
  have hRf : R.frames = 0 := by rw [hR]; rfl
  have hRl : R.locals = 0 := by rw [hR]; rfl
  have hRc : R.cells = 0 := by rw [hR]; rfl
  have hRs : R.slots = 0 := by rw [hR]; rfl
  have hS : va_S A s.heap H locs := by rw [hH, hlo]; exact va_S.rf
  rw [← hH] at hP
  obtain ⟨Q, hQ⟩ : ∃ q : S_ → Prop, q = (post_X3_clear j_  σ0) := ⟨_, rfl⟩
  rw [← hQ] at hv
  have hinX3 : ∀ w ∈ wsX30, w ∈ wsX3_clear := by decide +kernel
  refine lv_aload_n hx hb dX3_clear_0 rfl (lv_at hl 0 rfl) ?_
  refine lv_iconst (v := 0) hx hb dX3_clear_1 (by decide) ?_
  refine va_put (ci := 3) (v := .int 0) (ty := .int) (C := RX3) (T := TX3) (N := 3) hx hb hts hinX3 tyX3 tyX3_ok nmX3 hown hK hP hD hS (13 + 2 * j_) (wC_le cy ad σ0 hj_j_) rfl 2 (by decide) (hts (.fieldLink RX3 19 "TaleBans$Ledger" "count" "I") (List.mem_of_getElem? (i := 1) rfl)) (fun x h => h) rfl (by decide +kernel) rfl rfl (Nat.le_of_ble_eq_true rfl) dX3_clear_2 (fun H locs hP hD hS => ?_)
  obtain ⟨σ1, e2⟩ : ∃ y : S_, y = wrI σ0 (5 + j_) 0 := ⟨_, rfl⟩
  have hP : va_P D vwCl (wC cy ad σ1) H := by rw [e2]; exact (wC_le_cnt cy ad σ0 hj_j_ 0) ▸ hP
  have hD : va_D A (wC cy ad σ1) := by rw [e2]; exact (wC_le_cnt cy ad σ0 hj_j_ 0) ▸ hD
  have hv := hv σ1 e2
  rw [hZ]; rw [hQ] at hv
  exact W.vret hx hb hr (fun t ht hW => ⟨⟨σ1, rfl, hv, ⟨P_of ht hP, hD⟩⟩, hS.F ht⟩) hS.2.2 dX3_clear_5
