set_option maxHeartbeats 4000000 in
set_option maxRecDepth 100000 in
theorem wk_X4_isRather (l : Launch) (sp : Sp_X4_isRather) : Ct_X4_isRather l := by
  intro D cy ad A h_ t_ b_ ag rg Sg h1g t1g b1g σ0  hpre
  refine Met.ofW (cc := cX4_isRather) (maxL := 4) (ret := (some .boolean)) (by decide) rfl ?_
  intro p e s m args below meth c s₁ B hml hv0
  obtain ⟨rfl, hP, hK, hD, hN⟩ := hv0
  have hx := B.exec
  have hb := B.bytes
  have hr := B.returns
  have hts := atoms_spec (ws := wsX4_isRather) B.pre
  have hown : s.vm.findClass RX4 = some m.cls := findClass_of_methodNamed B.named
  have hlocks := B.notSynchronized
  have hv := sp h_ t_ b_ ag rg Sg h1g t1g b1g σ0 hpre
  have hl := lv_entry ([.ref (ad 21), .int h_, .int t_, .int b_]) (n := 4) (Nat.le_of_ble_eq_true rfl)
  rw [lg_entry_eq]
  generalize (lg_sl ([.ref (ad 21), .int h_, .int t_, .int b_]) ++ List.replicate (4 - (lg_sl ([.ref (ad 21), .int h_, .int t_, .int b_])).length) Slot.unset).toArray = ls at hl ⊢
  have hl : lv_has ls 4 [(0, .ref (ad 21)), (1, .int h_), (2, .int t_), (3, .int b_)] := hl
  refine W_gen (fun R Z H locs hR hZ hH hlo => ?_)
  have hRf : R.frames = 0 := by rw [hR]; rfl
  have hRl : R.locals = 0 := by rw [hR]; rfl
  have hRc : R.cells = 0 := by rw [hR]; rfl
  have hRs : R.slots = 0 := by rw [hR]; rfl
  have hS : va_S A s.heap H locs := by rw [hH, hlo]; exact va_S.rf
  rw [← hH] at hP
  obtain ⟨Q, hQ⟩ : ∃ q : Int32 → Prop, q = (fun r => post_X4_isRather h_ t_ b_ ag rg Sg h1g t1g b1g σ0 r) := ⟨_, rfl⟩
  rw [← hQ] at hv
  have hinX4 : ∀ w ∈ wsX40, w ∈ wsX4_isRather := by decide +kernel
  refine lv_aload_n hx hb dX4_isRather_0 rfl (lv_at hl 0 rfl) ?_
  refine va_get (ci := 4) (v := .int (rdI σ0 10)) (C := RX4) (T := TX4) (N := 10) hx hb hts hinX4 hown hK hP 21 (wC_21 cy ad σ0) rfl 8 (by decide) (hts (.fieldLink RX4 38 "TaleBans$Seasons" "law" "I") (List.mem_of_getElem? (i := 1) rfl)) (fun x h => h) rfl dX4_isRather_1 ?_
  refine lv_iconst (v := 2) hx hb dX4_isRather_4 (by decide) ?_
  refine lv_icmp_ne (tgt := 39) hx hb dX4_isRather_5 (by decide) (fun c3 => ?_) (fun c3 => ?_)
  · have hv := hv.1 c3
    refine lv_aload_n hx hb dX4_isRather_39 rfl (lv_at hl 0 rfl) ?_
    refine va_get (ci := 4) (v := .int (rdI σ0 10)) (C := RX4) (T := TX4) (N := 10) hx hb hts hinX4 hown hK hP 21 (wC_21 cy ad σ0) rfl 8 (by decide) (hts (.fieldLink RX4 38 "TaleBans$Seasons" "law" "I") (List.mem_of_getElem? (i := 1) rfl)) (fun x h => h) rfl dX4_isRather_40 ?_
    refine lv_if_ne (tgt := 50) hx hb dX4_isRather_43 (by decide) (fun c1 => ?_) (fun c1 => ?_)
    · have hv := hv.1 c1
      refine lv_iconst (v := 0) hx hb dX4_isRather_50 (by decide) ?_
      rw [hZ]; rw [hQ] at hv
      exact W.zret (v := 0) hx hb hr rfl (fun t ht hW => ⟨⟨0, (), rfl, hv, (P_of ht hP)⟩, hS.F ht⟩) hS.2.2 dX4_isRather_51
    · have hv := hv.2 c1
      refine lv_iconst (v := 1) hx hb dX4_isRather_46 (by decide) ?_
      refine lv_goto (tgt := 51) hx hb dX4_isRather_47 (by decide) ?_
      rw [hZ]; rw [hQ] at hv
      exact W.zret (v := 1) hx hb hr rfl (fun t ht hW => ⟨⟨1, (), rfl, hv, (P_of ht hP)⟩, hS.F ht⟩) hS.2.2 dX4_isRather_51
  · have hv := hv.2 c3
    refine lv_aload_n hx hb dX4_isRather_8 rfl (lv_at hl 0 rfl) ?_
    refine va_get (ci := 4) (v := .ref (ad (26))) (C := RX4) (T := TX4) (N := 10) hx hb hts hinX4 hown hK hP 21 (wC_21 cy ad σ0) rfl 5 (by decide) (hts (.fieldLink RX4 24 "TaleBans$Seasons" "lastTold" "[I") (List.mem_of_getElem? (i := 2) rfl)) (fun x h => h) rfl dX4_isRather_9 ?_
    refine lv_iload_n hx hb dX4_isRather_12 rfl (lv_at hl 1 rfl) ?_
    refine lv_bipush (v := 6) hx hb dX4_isRather_13 (by decide) ?_
    refine lv_imul hx hb dX4_isRather_15 ?_
    refine lv_iload_n hx hb dX4_isRather_16 rfl (lv_at hl 2 rfl) ?_
    refine lv_iadd hx hb dX4_isRather_17 ?_
    obtain ⟨hi, hv⟩ := hv
    refine va_iald hx hb hK hP 26 0 (wC_26 cy ad σ0) rfl hi dX4_isRather_18 ?_
    refine lv_aload_n hx hb dX4_isRather_19 rfl (lv_at hl 0 rfl) ?_
    refine va_get (ci := 4) (v := .ref (ad (26))) (C := RX4) (T := TX4) (N := 10) hx hb hts hinX4 hown hK hP 21 (wC_21 cy ad σ0) rfl 5 (by decide) (hts (.fieldLink RX4 24 "TaleBans$Seasons" "lastTold" "[I") (List.mem_of_getElem? (i := 2) rfl)) (fun x h => h) rfl dX4_isRather_20 ?_
    refine lv_iload_n hx hb dX4_isRather_23 rfl (lv_at hl 1 rfl) ?_
    refine lv_bipush (v := 6) hx hb dX4_isRather_24 (by decide) ?_
    refine lv_imul hx hb dX4_isRather_26 ?_
    refine lv_iload_n hx hb dX4_isRather_27 rfl (lv_at hl 3 rfl) ?_
    refine lv_iadd hx hb dX4_isRather_28 ?_
    obtain ⟨hi, hv⟩ := hv
    refine va_iald hx hb hK hP 26 0 (wC_26 cy ad σ0) rfl hi dX4_isRather_29 ?_
    refine lv_icmp_ge (tgt := 37) hx hb dX4_isRather_30 (by decide) (fun c2 => ?_) (fun c2 => ?_)
    · have hv := hv.1 c2
      refine lv_iconst (v := 0) hx hb dX4_isRather_37 (by decide) ?_
      rw [hZ]; rw [hQ] at hv
      exact W.zret (v := 0) hx hb hr rfl (fun t ht hW => ⟨⟨0, (), rfl, hv, (P_of ht hP)⟩, hS.F ht⟩) hS.2.2 dX4_isRather_38
    · have hv := hv.2 c2
      refine lv_iconst (v := 1) hx hb dX4_isRather_33 (by decide) ?_
      refine lv_goto (tgt := 38) hx hb dX4_isRather_34 (by decide) ?_
      rw [hZ]; rw [hQ] at hv
      exact W.zret (v := 1) hx hb hr rfl (fun t ht hW => ⟨⟨1, (), rfl, hv, (P_of ht hP)⟩, hS.F ht⟩) hS.2.2 dX4_isRather_38
set_option maxHeartbeats 4000000 in
set_option maxRecDepth 100000 in
theorem wk_X4_talesOf (l : Launch) (h_X8_isOneOf : Ct_X8_isOneOf l) (sp : Sp_X4_talesOf) : Ct_X4_talesOf l := by
  intro D cy ad A p_ ag rg Sg p1g σ0  hpre
  refine Met.ofW (cc := cX4_talesOf) (maxL := 2) (ret := (some .int)) (by decide) rfl ?_
  intro p e s m args below meth c s₁ B hml hv0
  obtain ⟨rfl, hP, hK, hD, hN⟩ := hv0
  have hx := B.exec
  have hb := B.bytes
  have hr := B.returns
  have hts := atoms_spec (ws := wsX4_talesOf) B.pre
  have hown : s.vm.findClass RX4 = some m.cls := findClass_of_methodNamed B.named
  have hlocks := B.notSynchronized
  have hv := sp p_ ag rg Sg p1g σ0 hpre
  have hl := lv_entry ([.ref (ad 21), .int p_]) (n := 2) (Nat.le_of_ble_eq_true rfl)
  rw [lg_entry_eq]
  generalize (lg_sl ([.ref (ad 21), .int p_]) ++ List.replicate (2 - (lg_sl ([.ref (ad 21), .int p_])).length) Slot.unset).toArray = ls at hl ⊢
  have hl : lv_has ls 2 [(0, .ref (ad 21)), (1, .int p_)] := hl
  refine W_gen (fun R Z H locs hR hZ hH hlo => ?_)
  have hRf : R.frames = 1 := by rw [hR]; rfl
  have hRl : R.locals = 21 := by rw [hR]; rfl
  have hRc : R.cells = 0 := by rw [hR]; rfl
  have hRs : R.slots = 0 := by rw [hR]; rfl
  have hS : va_S A s.heap H locs := by rw [hH, hlo]; exact va_S.rf
  rw [← hH] at hP
  obtain ⟨Q, hQ⟩ : ∃ q : Int32 → Prop, q = (fun r => post_X4_talesOf p_ ag rg Sg p1g σ0 r) := ⟨_, rfl⟩
  rw [← hQ] at hv
  have hinX4 : ∀ w ∈ wsX40, w ∈ wsX4_talesOf := by decide +kernel
  refine lv_iload_n hx hb dX4_talesOf_0 rfl (lv_at hl 1 rfl) ?_
  refine lv_bipush (v := 6) hx hb dX4_talesOf_1 (by decide) ?_
  refine k_pure_i (va_runSN (As := [.int p_, .int 6]) (rest := []) ⟨hx, hb, hml, hown, hts⟩ (h_X8_isOneOf p_ 6) ⟨va_cnB 2 hts gX4_talesOf_X8_isOneOf_n97 rfl rfl rfl (nwm_49 hN) (hts (.initialized RX8) (List.mem_of_getElem? (i := 3) rfl)) (by decide +kernel) ⟨le_R hRf (Nat.le_of_ble_eq_true rfl), le_R hRl (Nat.le_of_ble_eq_true rfl)⟩, (hts (.static yX8_isOneOf) (List.mem_of_getElem? (i := 2) rfl)), trivial⟩ ⟨(fun a U g mk q => ⟨q.1, trivial⟩), (fun U hU hW => ⟨rfl, trivial⟩)⟩ rfl rfl hl.1 rfl (lv_room (Nat.le_of_ble_eq_true rfl)) dX4_talesOf_3 ⟨le_R hRc (Nat.le_refl 0), le_R hRs (Nat.le_refl 0)⟩) hS hP (fun r H locs hr1 hP hS => ?_)
  subst hr1
  refine lv_if_eq (tgt := 18) hx hb dX4_talesOf_6 (by decide) (fun c1 => ?_) (fun c1 => ?_)
  · have hv := hv.1 c1
    refine lv_iconst (v := 0) hx hb dX4_talesOf_18 (by decide) ?_
    rw [hZ]; rw [hQ] at hv
    exact W.iret (v := 0) hx hb hr (fun t ht hW => ⟨⟨0, (), rfl, hv, (P_of ht hP)⟩, hS.F ht⟩) hS.2.2 dX4_talesOf_19
  · have hv := hv.2 c1
    refine lv_aload_n hx hb dX4_talesOf_9 rfl (lv_at hl 0 rfl) ?_
    refine va_get (ci := 4) (v := .ref (ad (24))) (C := RX4) (T := TX4) (N := 10) hx hb hts hinX4 hown hK hP 21 (wC_21 cy ad σ0) rfl 3 (by decide) (hts (.fieldLink RX4 18 "TaleBans$Seasons" "known" "[I") (List.mem_of_getElem? (i := 1) rfl)) (fun x h => h) rfl dX4_talesOf_10 ?_
    refine lv_iload_n hx hb dX4_talesOf_13 rfl (lv_at hl 1 rfl) ?_
    obtain ⟨hi, hv⟩ := hv
    refine va_iald hx hb hK hP 24 0 (wC_24 cy ad σ0) rfl hi dX4_talesOf_14 ?_
    refine lv_goto (tgt := 19) hx hb dX4_talesOf_15 (by decide) ?_
    rw [hZ]; rw [hQ] at hv
    exact W.iret (v := (rdA σ0 10 (Int32.toNatClampNeg p_))) hx hb hr (fun t ht hW => ⟨⟨(rdA σ0 10 (Int32.toNatClampNeg p_)), (), rfl, hv, (P_of ht hP)⟩, hS.F ht⟩) hS.2.2 dX4_talesOf_19
set_option maxHeartbeats 4000000 in
set_option maxRecDepth 100000 in
theorem wk_X4_placeOf (l : Launch) (h_X8_isOneOf : Ct_X8_isOneOf l) (sp : Sp_X4_placeOf) : Ct_X4_placeOf l := by
  intro D cy ad A p_ ag rg Sg p1g σ0  hpre
  refine Met.ofW (cc := cX4_placeOf) (maxL := 2) (ret := (some .int)) (by decide) rfl ?_
  intro p e s m args below meth c s₁ B hml hv0
  obtain ⟨rfl, hP, hK, hD, hN⟩ := hv0
  have hx := B.exec
  have hb := B.bytes
  have hr := B.returns
  have hts := atoms_spec (ws := wsX4_placeOf) B.pre
  have hown : s.vm.findClass RX4 = some m.cls := findClass_of_methodNamed B.named
  have hlocks := B.notSynchronized
  have hv := sp p_ ag rg Sg p1g σ0 hpre
  have hl := lv_entry ([.ref (ad 21), .int p_]) (n := 2) (Nat.le_of_ble_eq_true rfl)
  rw [lg_entry_eq]
  generalize (lg_sl ([.ref (ad 21), .int p_]) ++ List.replicate (2 - (lg_sl ([.ref (ad 21), .int p_])).length) Slot.unset).toArray = ls at hl ⊢
  have hl : lv_has ls 2 [(0, .ref (ad 21)), (1, .int p_)] := hl
  refine W_gen (fun R Z H locs hR hZ hH hlo => ?_)
  have hRf : R.frames = 1 := by rw [hR]; rfl
  have hRl : R.locals = 21 := by rw [hR]; rfl
  have hRc : R.cells = 0 := by rw [hR]; rfl
  have hRs : R.slots = 0 := by rw [hR]; rfl
  have hS : va_S A s.heap H locs := by rw [hH, hlo]; exact va_S.rf
  rw [← hH] at hP
  obtain ⟨Q, hQ⟩ : ∃ q : Int32 → Prop, q = (fun r => post_X4_placeOf p_ ag rg Sg p1g σ0 r) := ⟨_, rfl⟩
  rw [← hQ] at hv
  have hinX4 : ∀ w ∈ wsX40, w ∈ wsX4_placeOf := by decide +kernel
  refine lv_iload_n hx hb dX4_placeOf_0 rfl (lv_at hl 1 rfl) ?_
  refine lv_bipush (v := 6) hx hb dX4_placeOf_1 (by decide) ?_
  refine k_pure_i (va_runSN (As := [.int p_, .int 6]) (rest := []) ⟨hx, hb, hml, hown, hts⟩ (h_X8_isOneOf p_ 6) ⟨va_cnB 2 hts gX4_placeOf_X8_isOneOf_n97 rfl rfl rfl (nwm_49 hN) (hts (.initialized RX8) (List.mem_of_getElem? (i := 3) rfl)) (by decide +kernel) ⟨le_R hRf (Nat.le_of_ble_eq_true rfl), le_R hRl (Nat.le_of_ble_eq_true rfl)⟩, (hts (.static yX8_isOneOf) (List.mem_of_getElem? (i := 2) rfl)), trivial⟩ ⟨(fun a U g mk q => ⟨q.1, trivial⟩), (fun U hU hW => ⟨rfl, trivial⟩)⟩ rfl rfl hl.1 rfl (lv_room (Nat.le_of_ble_eq_true rfl)) dX4_placeOf_3 ⟨le_R hRc (Nat.le_refl 0), le_R hRs (Nat.le_refl 0)⟩) hS hP (fun r H locs hr1 hP hS => ?_)
  subst hr1
  refine lv_if_eq (tgt := 18) hx hb dX4_placeOf_6 (by decide) (fun c1 => ?_) (fun c1 => ?_)
  · have hv := hv.1 c1
    refine lv_bipush (v := (-9)) hx hb dX4_placeOf_18 (by decide) ?_
    rw [hZ]; rw [hQ] at hv
    exact W.iret (v := (-9)) hx hb hr (fun t ht hW => ⟨⟨(-9), (), rfl, hv, (P_of ht hP)⟩, hS.F ht⟩) hS.2.2 dX4_placeOf_20
  · have hv := hv.2 c1
    refine lv_aload_n hx hb dX4_placeOf_9 rfl (lv_at hl 0 rfl) ?_
    refine va_get (ci := 4) (v := .ref (ad (22))) (C := RX4) (T := TX4) (N := 10) hx hb hts hinX4 hown hK hP 21 (wC_21 cy ad σ0) rfl 1 (by decide) (hts (.fieldLink RX4 9 "TaleBans$Seasons" "places" "[I") (List.mem_of_getElem? (i := 1) rfl)) (fun x h => h) rfl dX4_placeOf_10 ?_
    refine lv_iload_n hx hb dX4_placeOf_13 rfl (lv_at hl 1 rfl) ?_
    obtain ⟨hi, hv⟩ := hv
    refine va_iald hx hb hK hP 22 0 (wC_22 cy ad σ0) rfl hi dX4_placeOf_14 ?_
    refine lv_goto (tgt := 20) hx hb dX4_placeOf_15 (by decide) ?_
    rw [hZ]; rw [hQ] at hv
    exact W.iret (v := (rdA σ0 8 (Int32.toNatClampNeg p_))) hx hb hr (fun t ht hW => ⟨⟨(rdA σ0 8 (Int32.toNatClampNeg p_)), (), rfl, hv, (P_of ht hP)⟩, hS.F ht⟩) hS.2.2 dX4_placeOf_20
set_option maxHeartbeats 4000000 in
set_option maxRecDepth 100000 in
theorem wk_X4_taleAt (l : Launch) (h_X8_isOneOf : Ct_X8_isOneOf l) (sp : Sp_X4_taleAt) : Ct_X4_taleAt l := by
  intro D cy ad A h_ ag rg Sg h1g σ0  hpre
  refine Met.ofW (cc := cX4_taleAt) (maxL := 2) (ret := (some .int)) (by decide) rfl ?_
  intro p e s m args below meth c s₁ B hml hv0
  obtain ⟨rfl, hP, hK, hD, hN⟩ := hv0
  have hx := B.exec
  have hb := B.bytes
  have hr := B.returns
  have hts := atoms_spec (ws := wsX4_taleAt) B.pre
  have hown : s.vm.findClass RX4 = some m.cls := findClass_of_methodNamed B.named
  have hlocks := B.notSynchronized
  have hv := sp h_ ag rg Sg h1g σ0 hpre
  have hl := lv_entry ([.ref (ad 21), .int h_]) (n := 2) (Nat.le_of_ble_eq_true rfl)
  rw [lg_entry_eq]
  generalize (lg_sl ([.ref (ad 21), .int h_]) ++ List.replicate (2 - (lg_sl ([.ref (ad 21), .int h_])).length) Slot.unset).toArray = ls at hl ⊢
  have hl : lv_has ls 2 [(0, .ref (ad 21)), (1, .int h_)] := hl
  refine W_gen (fun R Z H locs hR hZ hH hlo => ?_)
  have hRf : R.frames = 1 := by rw [hR]; rfl
  have hRl : R.locals = 21 := by rw [hR]; rfl
  have hRc : R.cells = 0 := by rw [hR]; rfl
  have hRs : R.slots = 0 := by rw [hR]; rfl
  have hS : va_S A s.heap H locs := by rw [hH, hlo]; exact va_S.rf
  rw [← hH] at hP
  obtain ⟨Q, hQ⟩ : ∃ q : Int32 → Prop, q = (fun r => post_X4_taleAt h_ ag rg Sg h1g σ0 r) := ⟨_, rfl⟩
  rw [← hQ] at hv
  have hinX4 : ∀ w ∈ wsX40, w ∈ wsX4_taleAt := by decide +kernel
  refine lv_iload_n hx hb dX4_taleAt_0 rfl (lv_at hl 1 rfl) ?_
  refine lv_iconst (v := 3) hx hb dX4_taleAt_1 (by decide) ?_
  refine k_pure_i (va_runSN (As := [.int h_, .int 3]) (rest := []) ⟨hx, hb, hml, hown, hts⟩ (h_X8_isOneOf h_ 3) ⟨va_cnB 2 hts gX4_taleAt_X8_isOneOf_n97 rfl rfl rfl (nwm_49 hN) (hts (.initialized RX8) (List.mem_of_getElem? (i := 3) rfl)) (by decide +kernel) ⟨le_R hRf (Nat.le_of_ble_eq_true rfl), le_R hRl (Nat.le_of_ble_eq_true rfl)⟩, (hts (.static yX8_isOneOf) (List.mem_of_getElem? (i := 2) rfl)), trivial⟩ ⟨(fun a U g mk q => ⟨q.1, trivial⟩), (fun U hU hW => ⟨rfl, trivial⟩)⟩ rfl rfl hl.1 rfl (lv_room (Nat.le_of_ble_eq_true rfl)) dX4_taleAt_2 ⟨le_R hRc (Nat.le_refl 0), le_R hRs (Nat.le_refl 0)⟩) hS hP (fun r H locs hr1 hP hS => ?_)
  subst hr1
  refine lv_if_eq (tgt := 17) hx hb dX4_taleAt_5 (by decide) (fun c1 => ?_) (fun c1 => ?_)
  · have hv := hv.1 c1
    refine lv_bipush (v := (-9)) hx hb dX4_taleAt_17 (by decide) ?_
    rw [hZ]; rw [hQ] at hv
    exact W.iret (v := (-9)) hx hb hr (fun t ht hW => ⟨⟨(-9), (), rfl, hv, (P_of ht hP)⟩, hS.F ht⟩) hS.2.2 dX4_taleAt_19
  · have hv := hv.2 c1
    refine lv_aload_n hx hb dX4_taleAt_8 rfl (lv_at hl 0 rfl) ?_
    refine va_get (ci := 4) (v := .ref (ad (27))) (C := RX4) (T := TX4) (N := 10) hx hb hts hinX4 hown hK hP 21 (wC_21 cy ad σ0) rfl 6 (by decide) (hts (.fieldLink RX4 27 "TaleBans$Seasons" "toldNow" "[I") (List.mem_of_getElem? (i := 1) rfl)) (fun x h => h) rfl dX4_taleAt_9 ?_
    refine lv_iload_n hx hb dX4_taleAt_12 rfl (lv_at hl 1 rfl) ?_
    obtain ⟨hi, hv⟩ := hv
    refine va_iald hx hb hK hP 27 0 (wC_27 cy ad σ0) rfl hi dX4_taleAt_13 ?_
    refine lv_goto (tgt := 19) hx hb dX4_taleAt_14 (by decide) ?_
    rw [hZ]; rw [hQ] at hv
    exact W.iret (v := (rdA σ0 13 (Int32.toNatClampNeg h_))) hx hb hr (fun t ht hW => ⟨⟨(rdA σ0 13 (Int32.toNatClampNeg h_)), (), rfl, hv, (P_of ht hP)⟩, hS.F ht⟩) hS.2.2 dX4_taleAt_19
set_option maxHeartbeats 4000000 in
set_option maxRecDepth 100000 in
theorem wk_X4_knownAt (l : Launch) (sp : Sp_X4_knownAt) : Ct_X4_knownAt l := by
  intro D cy ad A h_ ag rg Sg h1g σ0  hpre
  refine Met.ofW (cc := cX4_knownAt) (maxL := 4) (ret := (some .int)) (by decide) rfl ?_
  intro p e s m args below meth c s₁ B hml hv0
  obtain ⟨rfl, hP, hK, hD, hN⟩ := hv0
  have hx := B.exec
  have hb := B.bytes
  have hr := B.returns
  have hts := atoms_spec (ws := wsX4_knownAt) B.pre
  have hown : s.vm.findClass RX4 = some m.cls := findClass_of_methodNamed B.named
  have hlocks := B.notSynchronized
  have hv := sp h_ ag rg Sg h1g σ0 hpre
  have hl := lv_entry ([.ref (ad 21), .int h_]) (n := 4) (Nat.le_of_ble_eq_true rfl)
  rw [lg_entry_eq]
  generalize (lg_sl ([.ref (ad 21), .int h_]) ++ List.replicate (4 - (lg_sl ([.ref (ad 21), .int h_])).length) Slot.unset).toArray = ls at hl ⊢
  have hl : lv_has ls 4 [(0, .ref (ad 21)), (1, .int h_)] := hl
  refine W_gen (fun R Z H locs hR hZ hH hlo => ?_)
  have hRf : R.frames = 0 := by rw [hR]; rfl
  have hRl : R.locals = 0 := by rw [hR]; rfl
  have hRc : R.cells = 0 := by rw [hR]; rfl
  have hRs : R.slots = 0 := by rw [hR]; rfl
  have hS : va_S A s.heap H locs := by rw [hH, hlo]; exact va_S.rf
  rw [← hH] at hP
  obtain ⟨Q, hQ⟩ : ∃ q : Int32 → Prop, q = (fun r => post_X4_knownAt h_ ag rg Sg h1g σ0 r) := ⟨_, rfl⟩
  rw [← hQ] at hv
  have hinX4 : ∀ w ∈ wsX40, w ∈ wsX4_knownAt := by decide +kernel
  have hinX6 : ∀ w ∈ wsX60, w ∈ wsX4_knownAt := by decide +kernel
  refine lv_iconst (v := 0) hx hb dX4_knownAt_0 (by decide) ?_
  refine lv_istore_n (lv' := [(2, .int 0), (0, .ref (ad 21)), (1, .int h_)]) hx hb dX4_knownAt_1 rfl hl (by decide) rfl (fun ls hl => ?_)
  refine lv_iconst (v := 0) hx hb dX4_knownAt_2 (by decide) ?_
  refine lv_istore_n (lv' := [(3, .int 0), (2, .int 0), (0, .ref (ad 21)), (1, .int h_)]) hx hb dX4_knownAt_3 rfl hl (by decide) rfl (fun ls hl => ?_)
  obtain ⟨n4, hv⟩ := hv
  have lp4 : ∀ (nn4 : Nat) (x1 : Int32) (x2 : Int32) (H : Heap) (locs : List Loc) (ls : Array Slot), vl_X4_knownAt_4 h_ σ0 Q nn4 x1 x2 → va_P D vwCl (wC cy ad σ0) H → va_D A (wC cy ad σ0) → va_S A s.heap H locs → lv_has ls 4 [(0, .ref (ad 21)), (1, .int h_), (2, .int x1), (3, .int x2)] → W p l e R s m ([.ref (ad 21), .int h_] : List Value).toArray  below meth c H locs 0 0 Z (F0 m 4 ls []) := by
    intro nn4
    induction nn4 with
    | zero => intro x1 x2 H locs ls hv; exact absurd hv id
    | succ mm4 ih4 =>
      intro x1 x2 H locs ls hv hP hD hS hl
      refine lv_iload_n hx hb dX4_knownAt_4 rfl (lv_at hl 3 rfl) ?_
      refine lv_aload_n hx hb dX4_knownAt_5 rfl (lv_at hl 0 rfl) ?_
      refine va_get (ci := 4) (v := .ref (ad 11)) (C := RX4) (T := TX4) (N := 10) hx hb hts hinX4 hown hK hP 21 (wC_21 cy ad σ0) rfl 0 (by decide) (hts (.fieldLink RX4 30 "TaleBans$Seasons" "land" "LTaleBans$Steppe;") (List.mem_of_getElem? (i := 1) rfl)) (fun x h => h) rfl dX4_knownAt_6 ?_
      refine va_getN (ci := 6) (v := .int (rdI σ0 2)) (C := RX6) (T := TX6) (N := 8) hx hb hts hinX6 hown hK hP 11 (wC_11 cy ad σ0) rfl 5 (by decide) (nw_10 hN) (fun x h => h) rfl dX4_knownAt_9 ?_
      refine lv_icmp_ge (tgt := 40) hx hb dX4_knownAt_12 (by decide) (fun c4 => ?_) (fun c4 => ?_)
      · have hv := hv.1 c4
        refine lv_iload_n hx hb dX4_knownAt_40 rfl (lv_at hl 2 rfl) ?_
        rw [hZ]; rw [hQ] at hv
        exact W.iret (v := x1) hx hb hr (fun t ht hW => ⟨⟨x1, (), rfl, hv, (P_of ht hP)⟩, hS.F ht⟩) hS.2.2 dX4_knownAt_41
      · have hv := hv.2 c4
        refine lv_aload_n hx hb dX4_knownAt_15 rfl (lv_at hl 0 rfl) ?_
        refine va_get (ci := 4) (v := .ref (ad (22))) (C := RX4) (T := TX4) (N := 10) hx hb hts hinX4 hown hK hP 21 (wC_21 cy ad σ0) rfl 1 (by decide) (hts (.fieldLink RX4 9 "TaleBans$Seasons" "places" "[I") (List.mem_of_getElem? (i := 2) rfl)) (fun x h => h) rfl dX4_knownAt_16 ?_
        refine lv_iload_n hx hb dX4_knownAt_19 rfl (lv_at hl 3 rfl) ?_
        obtain ⟨hi, hv⟩ := hv
        refine va_iald hx hb hK hP 22 0 (wC_22 cy ad σ0) rfl hi dX4_knownAt_20 ?_
        refine lv_iload_n hx hb dX4_knownAt_21 rfl (lv_at hl 1 rfl) ?_
        refine lv_icmp_ne (tgt := 34) hx hb dX4_knownAt_22 (by decide) (fun c3 => ?_) (fun c3 => ?_)
        · have hv := hv.1 c3
          refine lv_iinc (v := (x2 + 1)) (lv' := [(3, .int (x2 + 1)), (0, .ref (ad 21)), (1, .int h_), (2, .int x1)]) hx hb dX4_knownAt_34 hl (k := 3) rfl rfl (by decide) rfl (fun ls hl => ?_)
          refine lv_goto (tgt := 4) hx hb dX4_knownAt_37 (by decide) ?_
          exact ih4 x1 (x2 + 1) _ _ _ hv hP hD hS (lv_sub hl [1, 2, 3, 0] rfl)
        · have hv := hv.2 c3
          refine lv_iload_n hx hb dX4_knownAt_25 rfl (lv_at hl 2 rfl) ?_
          refine lv_aload_n hx hb dX4_knownAt_26 rfl (lv_at hl 0 rfl) ?_
          refine va_get (ci := 4) (v := .ref (ad (24))) (C := RX4) (T := TX4) (N := 10) hx hb hts hinX4 hown hK hP 21 (wC_21 cy ad σ0) rfl 3 (by decide) (hts (.fieldLink RX4 18 "TaleBans$Seasons" "known" "[I") (List.mem_of_getElem? (i := 3) rfl)) (fun x h => h) rfl dX4_knownAt_27 ?_
          refine lv_iload_n hx hb dX4_knownAt_30 rfl (lv_at hl 3 rfl) ?_
          obtain ⟨hi, hv⟩ := hv
          refine va_iald hx hb hK hP 24 0 (wC_24 cy ad σ0) rfl hi dX4_knownAt_31 ?_
          refine lv_ior hx hb dX4_knownAt_32 ?_
          refine lv_istore_n (lv' := [(2, .int (x1 ||| (rdA σ0 10 (Int32.toNatClampNeg x2)))), (0, .ref (ad 21)), (1, .int h_), (3, .int x2)]) hx hb dX4_knownAt_33 rfl hl (by decide) rfl (fun ls hl => ?_)
          refine lv_iinc (v := (x2 + 1)) (lv' := [(3, .int (x2 + 1)), (2, .int (x1 ||| (rdA σ0 10 (Int32.toNatClampNeg x2)))), (0, .ref (ad 21)), (1, .int h_)]) hx hb dX4_knownAt_34 hl (k := 3) rfl rfl (by decide) rfl (fun ls hl => ?_)
          refine lv_goto (tgt := 4) hx hb dX4_knownAt_37 (by decide) ?_
          exact ih4 (x1 ||| (rdA σ0 10 (Int32.toNatClampNeg x2))) (x2 + 1) _ _ _ hv hP hD hS (lv_sub hl [2, 3, 1, 0] rfl)
  exact lp4 n4 0 0 _ _ _ hv hP hD hS (lv_sub hl [2, 3, 1, 0] rfl)
set_option maxHeartbeats 4000000 in
set_option maxRecDepth 100000 in
theorem wk_X4_chosen (l : Launch) (h_X4_isRather : Ct_X4_isRather l) (h_X8_isIn : Ct_X8_isIn l) (sp : Sp_X4_chosen) : Ct_X4_chosen l := by
  intro D cy ad A h_ set_ ag rg Sg h1g σ0  hpre
  refine Met.ofW (cc := cX4_chosen) (maxL := 5) (ret := (some .int)) (by decide) rfl ?_
  intro p e s m args below meth c s₁ B hml hv0
  obtain ⟨rfl, hP, hK, hD, hN⟩ := hv0
  have hx := B.exec
  have hb := B.bytes
  have hr := B.returns
  have hts := atoms_spec (ws := wsX4_chosen) B.pre
  have hown : s.vm.findClass RX4 = some m.cls := findClass_of_methodNamed B.named
  have hlocks := B.notSynchronized
  have hv := sp h_ set_ ag rg Sg h1g σ0 hpre
  have hl := lv_entry ([.ref (ad 21), .int h_, .int set_]) (n := 5) (Nat.le_of_ble_eq_true rfl)
  rw [lg_entry_eq]
  generalize (lg_sl ([.ref (ad 21), .int h_, .int set_]) ++ List.replicate (5 - (lg_sl ([.ref (ad 21), .int h_, .int set_])).length) Slot.unset).toArray = ls at hl ⊢
  have hl : lv_has ls 5 [(0, .ref (ad 21)), (1, .int h_), (2, .int set_)] := hl
  refine W_gen (fun R Z H locs hR hZ hH hlo => ?_)
  have hRf : R.frames = 1 := by rw [hR]; rfl
  have hRl : R.locals = 23 := by rw [hR]; rfl
  have hRc : R.cells = 0 := by rw [hR]; rfl
  have hRs : R.slots = 0 := by rw [hR]; rfl
  have hS : va_S A s.heap H locs := by rw [hH, hlo]; exact va_S.rf
  rw [← hH] at hP
  obtain ⟨Q, hQ⟩ : ∃ q : Int32 → Prop, q = (fun r => post_X4_chosen h_ set_ ag rg Sg h1g σ0 r) := ⟨_, rfl⟩
  rw [← hQ] at hv
  have hinX3 : ∀ w ∈ wsX30, w ∈ wsX4_chosen := by decide +kernel
  have hinX4 : ∀ w ∈ wsX40, w ∈ wsX4_chosen := by decide +kernel
  have hinX6 : ∀ w ∈ wsX60, w ∈ wsX4_chosen := by decide +kernel
  refine lv_bipush (v := (-9)) hx hb dX4_chosen_0 (by decide) ?_
  refine lv_istore_n (lv' := [(3, .int (-9)), (0, .ref (ad 21)), (1, .int h_), (2, .int set_)]) hx hb dX4_chosen_2 rfl hl (by decide) rfl (fun ls hl => ?_)
  refine lv_iconst (v := 0) hx hb dX4_chosen_3 (by decide) ?_
  refine lv_istore (lv' := [(4, .int 0), (3, .int (-9)), (0, .ref (ad 21)), (1, .int h_), (2, .int set_)]) hx hb dX4_chosen_4 hl (by decide) rfl (fun ls hl => ?_)
  obtain ⟨n6, hv⟩ := hv
  have lp6 : ∀ (nn6 : Nat) (x1 : Int32) (x2 : Int32) (H : Heap) (locs : List Loc) (ls : Array Slot), vl_X4_chosen_6 h_ set_ σ0 Q nn6 x1 x2 → va_P D vwCl (wC cy ad σ0) H → va_D A (wC cy ad σ0) → va_S A s.heap H locs → lv_has ls 5 [(0, .ref (ad 21)), (1, .int h_), (2, .int set_), (3, .int x1), (4, .int x2)] → W p l e R s m ([.ref (ad 21), .int h_, .int set_] : List Value).toArray  below meth c H locs 0 0 Z (F0 m 6 ls []) := by
    intro nn6
    induction nn6 with
    | zero => intro x1 x2 H locs ls hv; exact absurd hv id
    | succ mm6 ih6 =>
      intro x1 x2 H locs ls hv hP hD hS hl
      refine lv_iload hx hb dX4_chosen_6 (lv_at hl 4 rfl) ?_
      refine lv_aload_n hx hb dX4_chosen_8 rfl (lv_at hl 0 rfl) ?_
      refine va_get (ci := 4) (v := .ref (ad 11)) (C := RX4) (T := TX4) (N := 10) hx hb hts hinX4 hown hK hP 21 (wC_21 cy ad σ0) rfl 0 (by decide) (hts (.fieldLink RX4 30 "TaleBans$Seasons" "land" "LTaleBans$Steppe;") (List.mem_of_getElem? (i := 1) rfl)) (fun x h => h) rfl dX4_chosen_9 ?_
      refine va_getN (ci := 6) (v := .ref (ad (13))) (C := RX6) (T := TX6) (N := 8) hx hb hts hinX6 hown hK hP 11 (wC_11 cy ad σ0) rfl 1 (by decide) (nw_4 hN) (fun x h => h) rfl dX4_chosen_12 ?_
      refine va_getN (ci := 3) (v := .int (rdI σ0 5)) (C := RX3) (T := TX3) (N := 3) hx hb hts hinX3 hown hK hP 13 (wC_13 cy ad σ0) rfl 2 (by decide) (nw_1 hN) (fun x h => h) rfl dX4_chosen_15 ?_
      refine lv_icmp_ge (tgt := 56) hx hb dX4_chosen_18 (by decide) (fun c13 => ?_) (fun c13 => ?_)
      · have hv := hv.1 c13
        refine lv_iload_n hx hb dX4_chosen_56 rfl (lv_at hl 3 rfl) ?_
        rw [hZ]; rw [hQ] at hv
        exact W.iret (v := x1) hx hb hr (fun t ht hW => ⟨⟨x1, (), rfl, hv, (P_of ht hP)⟩, hS.F ht⟩) hS.2.2 dX4_chosen_57
      · have hv := hv.2 c13
        refine lv_iload hx hb dX4_chosen_21 (lv_at hl 4 rfl) ?_
        refine lv_iload_n hx hb dX4_chosen_23 rfl (lv_at hl 2 rfl) ?_
        refine k_pure_i (va_runSN (As := [.int x2, .int set_]) (rest := []) ⟨hx, hb, hml, hown, hts⟩ (h_X8_isIn x2 set_) ⟨va_cnB 2 hts gX4_chosen_X8_isIn_n112 rfl rfl rfl (nwm_50 hN) (hts (.initialized RX8) (List.mem_of_getElem? (i := 3) rfl)) (by decide +kernel) ⟨le_R hRf (Nat.le_of_ble_eq_true rfl), le_R hRl (Nat.le_of_ble_eq_true rfl)⟩, (hts (.static yX8_isIn) (List.mem_of_getElem? (i := 2) rfl)), trivial⟩ ⟨(fun a U g mk q => ⟨q.1, trivial⟩), (fun U hU hW => ⟨rfl, trivial⟩)⟩ rfl rfl hl.1 rfl (lv_room (Nat.le_of_ble_eq_true rfl)) dX4_chosen_24 ⟨le_R hRc (Nat.le_refl 0), le_R hRs (Nat.le_refl 0)⟩) hS hP (fun r H locs hr1 hP hS => ?_)
        subst hr1
        refine lv_if_eq (tgt := 50) hx hb dX4_chosen_27 (by decide) (fun c12 => ?_) (fun c12 => ?_)
        · have hv := hv.1 c12
          refine lv_iinc (v := (x2 + 1)) (lv' := [(4, .int (x2 + 1)), (0, .ref (ad 21)), (1, .int h_), (2, .int set_), (3, .int x1)]) hx hb dX4_chosen_50 hl (k := 4) rfl rfl (by decide) rfl (fun ls hl => ?_)
          refine lv_goto (tgt := 6) hx hb dX4_chosen_53 (by decide) ?_
          exact ih6 x1 (x2 + 1) _ _ _ hv hP hD hS (lv_sub hl [1, 2, 3, 4, 0] rfl)
        · have hv := hv.2 c12
          refine lv_iload_n hx hb dX4_chosen_30 rfl (lv_at hl 3 rfl) ?_
          refine lv_bipush (v := (-9)) hx hb dX4_chosen_31 (by decide) ?_
          refine lv_icmp_eq (tgt := 47) hx hb dX4_chosen_33 (by decide) (fun c11 => ?_) (fun c11 => ?_)
          · have hv := hv.1 c11
            refine lv_iload hx hb dX4_chosen_47 (lv_at hl 4 rfl) ?_
            refine lv_istore_n (lv' := [(3, .int x2), (0, .ref (ad 21)), (1, .int h_), (2, .int set_), (4, .int x2)]) hx hb dX4_chosen_49 rfl hl (by decide) rfl (fun ls hl => ?_)
            refine lv_iinc (v := (x2 + 1)) (lv' := [(4, .int (x2 + 1)), (3, .int x2), (0, .ref (ad 21)), (1, .int h_), (2, .int set_)]) hx hb dX4_chosen_50 hl (k := 4) rfl rfl (by decide) rfl (fun ls hl => ?_)
            refine lv_goto (tgt := 6) hx hb dX4_chosen_53 (by decide) ?_
            exact ih6 x2 (x2 + 1) _ _ _ hv hP hD hS (lv_sub hl [2, 3, 4, 1, 0] rfl)
          · have hv := hv.2 c11
            refine lv_aload_n hx hb dX4_chosen_36 rfl (lv_at hl 0 rfl) ?_
            refine lv_iload_n hx hb dX4_chosen_37 rfl (lv_at hl 1 rfl) ?_
            refine lv_iload hx hb dX4_chosen_38 (lv_at hl 4 rfl) ?_
            refine lv_iload_n hx hb dX4_chosen_40 rfl (lv_at hl 3 rfl) ?_
            obtain ⟨g3, g4, g5, g6, g7, g8, hv⟩ := hv
            obtain ⟨hp, hv⟩ := hv
            refine k_read_i (w := wC cy ad) (va_runV (As := [.int h_, .int x2, .int x1]) (rest := []) ⟨hx, hb, hml, hown, hts⟩ (h_X4_isRather D cy ad A h_ x2 x1 g3 g4 g5 g6 g7 g8 σ0 hp) (cwV 3 hts gX4_chosen_X4_isRather rfl rfl rfl (by decide +kernel) ⟨le_R hRf (Nat.le_of_ble_eq_true rfl), le_R hRl (Nat.le_of_ble_eq_true rfl)⟩) ⟨(fun a U g mk q => ⟨q.1, q.2.blind⟩), va_recv hK hP (ci := 4) (q0 := 21) rfl (wC_21 cy ad σ0), (fun U hU hW => ⟨rfl, WdC.pre hP hK hD hN hU hW⟩)⟩ rfl rfl hl.1 rfl (lv_room (Nat.le_of_ble_eq_true rfl)) dX4_chosen_41 ⟨le_R hRc (Nat.le_refl 0), le_R hRs (Nat.le_refl 0)⟩) hS (fun r9 H locs hr1 hP hS => ?_)
            have hv := hv r9 hr1
            refine lv_if_eq (tgt := 50) hx hb dX4_chosen_44 (by decide) (fun c10 => ?_) (fun c10 => ?_)
            · have hv := hv.1 c10
              refine lv_iinc (v := (x2 + 1)) (lv' := [(4, .int (x2 + 1)), (0, .ref (ad 21)), (1, .int h_), (2, .int set_), (3, .int x1)]) hx hb dX4_chosen_50 hl (k := 4) rfl rfl (by decide) rfl (fun ls hl => ?_)
              refine lv_goto (tgt := 6) hx hb dX4_chosen_53 (by decide) ?_
              exact ih6 x1 (x2 + 1) _ _ _ hv hP hD hS (lv_sub hl [1, 2, 3, 4, 0] rfl)
            · have hv := hv.2 c10
              refine lv_iload hx hb dX4_chosen_47 (lv_at hl 4 rfl) ?_
              refine lv_istore_n (lv' := [(3, .int x2), (0, .ref (ad 21)), (1, .int h_), (2, .int set_), (4, .int x2)]) hx hb dX4_chosen_49 rfl hl (by decide) rfl (fun ls hl => ?_)
              refine lv_iinc (v := (x2 + 1)) (lv' := [(4, .int (x2 + 1)), (3, .int x2), (0, .ref (ad 21)), (1, .int h_), (2, .int set_)]) hx hb dX4_chosen_50 hl (k := 4) rfl rfl (by decide) rfl (fun ls hl => ?_)
              refine lv_goto (tgt := 6) hx hb dX4_chosen_53 (by decide) ?_
              exact ih6 x2 (x2 + 1) _ _ _ hv hP hD hS (lv_sub hl [2, 3, 4, 1, 0] rfl)
  exact lp6 n6 (-9) 0 _ _ _ hv hP hD hS (lv_sub hl [2, 3, 4, 1, 0] rfl)
set_option maxHeartbeats 4000000 in
set_option maxRecDepth 100000 in
theorem wk_X4_talesOfAll (l : Launch) (sp : Sp_X4_talesOfAll) : Ct_X4_talesOfAll l := by
  intro D cy ad A  ag rg Sg σ0  hpre
  refine Met.ofW (cc := cX4_talesOfAll) (maxL := 3) (ret := (some .int)) (by decide) rfl ?_
  intro p e s m args below meth c s₁ B hml hv0
  obtain ⟨rfl, hP, hK, hD, hN⟩ := hv0
  have hx := B.exec
  have hb := B.bytes
  have hr := B.returns
  have hts := atoms_spec (ws := wsX4_talesOfAll) B.pre
  have hown : s.vm.findClass RX4 = some m.cls := findClass_of_methodNamed B.named
  have hlocks := B.notSynchronized
  have hv := sp  ag rg Sg σ0 hpre
  have hl := lv_entry ([.ref (ad 21)]) (n := 3) (Nat.le_of_ble_eq_true rfl)
  rw [lg_entry_eq]
  generalize (lg_sl ([.ref (ad 21)]) ++ List.replicate (3 - (lg_sl ([.ref (ad 21)])).length) Slot.unset).toArray = ls at hl ⊢
  have hl : lv_has ls 3 [(0, .ref (ad 21))] := hl
  refine W_gen (fun R Z H locs hR hZ hH hlo => ?_)
  have hRf : R.frames = 0 := by rw [hR]; rfl
  have hRl : R.locals = 0 := by rw [hR]; rfl
  have hRc : R.cells = 0 := by rw [hR]; rfl
  have hRs : R.slots = 0 := by rw [hR]; rfl
  have hS : va_S A s.heap H locs := by rw [hH, hlo]; exact va_S.rf
  rw [← hH] at hP
  obtain ⟨Q, hQ⟩ : ∃ q : Int32 → Prop, q = (fun r => post_X4_talesOfAll  ag rg Sg σ0 r) := ⟨_, rfl⟩
  rw [← hQ] at hv
  have hinX4 : ∀ w ∈ wsX40, w ∈ wsX4_talesOfAll := by decide +kernel
  have hinX6 : ∀ w ∈ wsX60, w ∈ wsX4_talesOfAll := by decide +kernel
  refine lv_iconst (v := 0) hx hb dX4_talesOfAll_0 (by decide) ?_
  refine lv_istore_n (lv' := [(1, .int 0), (0, .ref (ad 21))]) hx hb dX4_talesOfAll_1 rfl hl (by decide) rfl (fun ls hl => ?_)
  refine lv_iconst (v := 0) hx hb dX4_talesOfAll_2 (by decide) ?_
  refine lv_istore_n (lv' := [(2, .int 0), (1, .int 0), (0, .ref (ad 21))]) hx hb dX4_talesOfAll_3 rfl hl (by decide) rfl (fun ls hl => ?_)
  obtain ⟨n4, hv⟩ := hv
  have lp4 : ∀ (nn4 : Nat) (x1 : Int32) (x2 : Int32) (H : Heap) (locs : List Loc) (ls : Array Slot), vl_X4_talesOfAll_4 σ0 Q nn4 x1 x2 → va_P D vwCl (wC cy ad σ0) H → va_D A (wC cy ad σ0) → va_S A s.heap H locs → lv_has ls 3 [(0, .ref (ad 21)), (1, .int x1), (2, .int x2)] → W p l e R s m ([.ref (ad 21)] : List Value).toArray  below meth c H locs 0 0 Z (F0 m 4 ls []) := by
    intro nn4
    induction nn4 with
    | zero => intro x1 x2 H locs ls hv; exact absurd hv id
    | succ mm4 ih4 =>
      intro x1 x2 H locs ls hv hP hD hS hl
      refine lv_iload_n hx hb dX4_talesOfAll_4 rfl (lv_at hl 2 rfl) ?_
      refine lv_aload_n hx hb dX4_talesOfAll_5 rfl (lv_at hl 0 rfl) ?_
      refine va_get (ci := 4) (v := .ref (ad 11)) (C := RX4) (T := TX4) (N := 10) hx hb hts hinX4 hown hK hP 21 (wC_21 cy ad σ0) rfl 0 (by decide) (hts (.fieldLink RX4 30 "TaleBans$Seasons" "land" "LTaleBans$Steppe;") (List.mem_of_getElem? (i := 1) rfl)) (fun x h => h) rfl dX4_talesOfAll_6 ?_
      refine va_getN (ci := 6) (v := .int (rdI σ0 2)) (C := RX6) (T := TX6) (N := 8) hx hb hts hinX6 hown hK hP 11 (wC_11 cy ad σ0) rfl 5 (by decide) (nw_10 hN) (fun x h => h) rfl dX4_talesOfAll_9 ?_
      refine lv_icmp_ge (tgt := 30) hx hb dX4_talesOfAll_12 (by decide) (fun c3 => ?_) (fun c3 => ?_)
      · have hv := hv.1 c3
        refine lv_iload_n hx hb dX4_talesOfAll_30 rfl (lv_at hl 1 rfl) ?_
        rw [hZ]; rw [hQ] at hv
        exact W.iret (v := x1) hx hb hr (fun t ht hW => ⟨⟨x1, (), rfl, hv, (P_of ht hP)⟩, hS.F ht⟩) hS.2.2 dX4_talesOfAll_31
      · have hv := hv.2 c3
        refine lv_iload_n hx hb dX4_talesOfAll_15 rfl (lv_at hl 1 rfl) ?_
        refine lv_aload_n hx hb dX4_talesOfAll_16 rfl (lv_at hl 0 rfl) ?_
        refine va_get (ci := 4) (v := .ref (ad (24))) (C := RX4) (T := TX4) (N := 10) hx hb hts hinX4 hown hK hP 21 (wC_21 cy ad σ0) rfl 3 (by decide) (hts (.fieldLink RX4 18 "TaleBans$Seasons" "known" "[I") (List.mem_of_getElem? (i := 2) rfl)) (fun x h => h) rfl dX4_talesOfAll_17 ?_
        refine lv_iload_n hx hb dX4_talesOfAll_20 rfl (lv_at hl 2 rfl) ?_
        obtain ⟨hi, hv⟩ := hv
        refine va_iald hx hb hK hP 24 0 (wC_24 cy ad σ0) rfl hi dX4_talesOfAll_21 ?_
        refine lv_ior hx hb dX4_talesOfAll_22 ?_
        refine lv_istore_n (lv' := [(1, .int (x1 ||| (rdA σ0 10 (Int32.toNatClampNeg x2)))), (0, .ref (ad 21)), (2, .int x2)]) hx hb dX4_talesOfAll_23 rfl hl (by decide) rfl (fun ls hl => ?_)
        refine lv_iinc (v := (x2 + 1)) (lv' := [(2, .int (x2 + 1)), (1, .int (x1 ||| (rdA σ0 10 (Int32.toNatClampNeg x2)))), (0, .ref (ad 21))]) hx hb dX4_talesOfAll_24 hl (k := 2) rfl rfl (by decide) rfl (fun ls hl => ?_)
        refine lv_goto (tgt := 4) hx hb dX4_talesOfAll_27 (by decide) ?_
        exact ih4 (x1 ||| (rdA σ0 10 (Int32.toNatClampNeg x2))) (x2 + 1) _ _ _ hv hP hD hS (lv_sub hl [2, 1, 0] rfl)
  exact lp4 n4 0 0 _ _ _ hv hP hD hS (lv_sub hl [2, 1, 0] rfl)
set_option maxHeartbeats 4000000 in
set_option maxRecDepth 100000 in
theorem wk_X4_isLaughedAt (l : Launch) (h_X3_at : Ct_X3_at l) (sp : Sp_X4_isLaughedAt) : Ct_X4_isLaughedAt l := by
  intro D cy ad A t_ ag rg Sg t1g σ0  hpre
  refine Met.ofW (cc := cX4_isLaughedAt) (maxL := 2) (ret := (some .boolean)) (by decide) rfl ?_
  intro p e s m args below meth c s₁ B hml hv0
  obtain ⟨rfl, hP, hK, hD, hN⟩ := hv0
  have hx := B.exec
  have hb := B.bytes
  have hr := B.returns
  have hts := atoms_spec (ws := wsX4_isLaughedAt) B.pre
  have hown : s.vm.findClass RX4 = some m.cls := findClass_of_methodNamed B.named
  have hlocks := B.notSynchronized
  have hv := sp t_ ag rg Sg t1g σ0 hpre
  have hl := lv_entry ([.ref (ad 21), .int t_]) (n := 2) (Nat.le_of_ble_eq_true rfl)
  rw [lg_entry_eq]
  generalize (lg_sl ([.ref (ad 21), .int t_]) ++ List.replicate (2 - (lg_sl ([.ref (ad 21), .int t_])).length) Slot.unset).toArray = ls at hl ⊢
  have hl : lv_has ls 2 [(0, .ref (ad 21)), (1, .int t_)] := hl
  refine W_gen (fun R Z H locs hR hZ hH hlo => ?_)
  have hRf : R.frames = 2 := by rw [hR]; rfl
  have hRl : R.locals = 43 := by rw [hR]; rfl
  have hRc : R.cells = 0 := by rw [hR]; rfl
  have hRs : R.slots = 0 := by rw [hR]; rfl
  have hS : va_S A s.heap H locs := by rw [hH, hlo]; exact va_S.rf
  rw [← hH] at hP
  obtain ⟨Q, hQ⟩ : ∃ q : Int32 → Prop, q = (fun r => post_X4_isLaughedAt t_ ag rg Sg t1g σ0 r) := ⟨_, rfl⟩
  rw [← hQ] at hv
  have hinX4 : ∀ w ∈ wsX40, w ∈ wsX4_isLaughedAt := by decide +kernel
  have hinX6 : ∀ w ∈ wsX60, w ∈ wsX4_isLaughedAt := by decide +kernel
  refine lv_aload_n hx hb dX4_isLaughedAt_0 rfl (lv_at hl 0 rfl) ?_
  refine va_get (ci := 4) (v := .int (rdI σ0 11)) (C := RX4) (T := TX4) (N := 10) hx hb hts hinX4 hown hK hP 21 (wC_21 cy ad σ0) rfl 9 (by decide) (hts (.fieldLink RX4 41 "TaleBans$Seasons" "season" "I") (List.mem_of_getElem? (i := 1) rfl)) (fun x h => h) rfl dX4_isLaughedAt_1 ?_
  refine lv_bipush (v := 7) hx hb dX4_isLaughedAt_4 (by decide) ?_
  obtain ⟨hne, hv⟩ := hv
  refine lv_irem hx hb dX4_isLaughedAt_6 hne ?_
  refine lv_bipush (v := 6) hx hb dX4_isLaughedAt_7 (by decide) ?_
  refine lv_icmp_ne (tgt := 32) hx hb dX4_isLaughedAt_9 (by decide) (fun c2 => ?_) (fun c2 => ?_)
  · have hv := hv.1 c2
    refine lv_iconst (v := 0) hx hb dX4_isLaughedAt_32 (by decide) ?_
    rw [hZ]; rw [hQ] at hv
    exact W.zret (v := 0) hx hb hr rfl (fun t ht hW => ⟨⟨0, (), rfl, hv, (P_of ht hP)⟩, hS.F ht⟩) hS.2.2 dX4_isLaughedAt_33
  · have hv := hv.2 c2
    refine lv_aload_n hx hb dX4_isLaughedAt_12 rfl (lv_at hl 0 rfl) ?_
    refine va_get (ci := 4) (v := .ref (ad 11)) (C := RX4) (T := TX4) (N := 10) hx hb hts hinX4 hown hK hP 21 (wC_21 cy ad σ0) rfl 0 (by decide) (hts (.fieldLink RX4 30 "TaleBans$Seasons" "land" "LTaleBans$Steppe;") (List.mem_of_getElem? (i := 2) rfl)) (fun x h => h) rfl dX4_isLaughedAt_13 ?_
    refine va_getN (ci := 6) (v := .ref (ad (13))) (C := RX6) (T := TX6) (N := 8) hx hb hts hinX6 hown hK hP 11 (wC_11 cy ad σ0) rfl 1 (by decide) (nw_4 hN) (fun x h => h) rfl dX4_isLaughedAt_16 ?_
    refine lv_iload_n hx hb dX4_isLaughedAt_19 rfl (lv_at hl 1 rfl) ?_
    refine lv_iconst (v := 3) hx hb dX4_isLaughedAt_20 (by decide) ?_
    obtain ⟨hp, hv⟩ := hv
    refine k_read_i (w := wC cy ad) (va_runVN (As := [.int t_, .int 3]) (rest := []) ⟨hx, hb, hml, hown, hts⟩ (h_X3_at D cy ad A 0 t_ 3 σ0 (show 0 < 4 by decide) hp) ⟨va_cnB 2 hts gX4_isLaughedAt_X3_at_n93 rfl rfl rfl (nwm_48 hN) (hts (.initialized RX3) (List.mem_of_getElem? (i := 4) rfl)) (by decide +kernel) ⟨le_R hRf (Nat.le_of_ble_eq_true rfl), le_R hRl (Nat.le_of_ble_eq_true rfl)⟩, (hts (.instanceMethod yX3_at) (List.mem_of_getElem? (i := 3) rfl)), (hts (.selects RX3 yX3_at yX3_at) (List.mem_of_getElem? (i := 5) rfl))⟩ ⟨(fun a U g mk q => ⟨q.1, q.2.blind⟩), va_recv hK hP (ci := 3) (q0 := 13) rfl (wC_13 cy ad σ0), (fun U hU hW => ⟨rfl, WdC.pre hP hK hD hN hU hW⟩)⟩ rfl rfl hl.1 rfl (lv_room (Nat.le_of_ble_eq_true rfl)) dX4_isLaughedAt_21 ⟨le_R hRc (Nat.le_refl 0), le_R hRs (Nat.le_refl 0)⟩) hS (fun r H locs hr1 hP hS => ?_)
    subst hr1
    refine lv_iconst (v := 1) hx hb dX4_isLaughedAt_24 (by decide) ?_
    refine lv_icmp_ne (tgt := 32) hx hb dX4_isLaughedAt_25 (by decide) (fun c1 => ?_) (fun c1 => ?_)
    · have hv := hv.1 c1
      refine lv_iconst (v := 0) hx hb dX4_isLaughedAt_32 (by decide) ?_
      rw [hZ]; rw [hQ] at hv
      exact W.zret (v := 0) hx hb hr rfl (fun t ht hW => ⟨⟨0, (), rfl, hv, (P_of ht hP)⟩, hS.F ht⟩) hS.2.2 dX4_isLaughedAt_33
    · have hv := hv.2 c1
      refine lv_iconst (v := 1) hx hb dX4_isLaughedAt_28 (by decide) ?_
      refine lv_goto (tgt := 33) hx hb dX4_isLaughedAt_29 (by decide) ?_
      rw [hZ]; rw [hQ] at hv
      exact W.zret (v := 1) hx hb hr rfl (fun t ht hW => ⟨⟨1, (), rfl, hv, (P_of ht hP)⟩, hS.F ht⟩) hS.2.2 dX4_isLaughedAt_33
set_option maxHeartbeats 4000000 in
set_option maxRecDepth 100000 in
theorem wk_X4_bannedDeeds (l : Launch) (h_X3_at : Ct_X3_at l) (h_X4_isLaughedAt : Ct_X4_isLaughedAt l) (h_X4_talesOfAll : Ct_X4_talesOfAll l) (h_X8_isIn : Ct_X8_isIn l) (sp : Sp_X4_bannedDeeds) : Ct_X4_bannedDeeds l := by
  intro D cy ad A  ag rg Sg σ0  hpre
  refine Met.ofW (cc := cX4_bannedDeeds) (maxL := 4) (ret := (some .int)) (by decide) rfl ?_
  intro p e s m args below meth c s₁ B hml hv0
  obtain ⟨rfl, hP, hK, hD, hN⟩ := hv0
  have hx := B.exec
  have hb := B.bytes
  have hr := B.returns
  have hts := atoms_spec (ws := wsX4_bannedDeeds) B.pre
  have hown : s.vm.findClass RX4 = some m.cls := findClass_of_methodNamed B.named
  have hlocks := B.notSynchronized
  have hv := sp  ag rg Sg σ0 hpre
  have hl := lv_entry ([.ref (ad 21)]) (n := 4) (Nat.le_of_ble_eq_true rfl)
  rw [lg_entry_eq]
  generalize (lg_sl ([.ref (ad 21)]) ++ List.replicate (4 - (lg_sl ([.ref (ad 21)])).length) Slot.unset).toArray = ls at hl ⊢
  have hl : lv_has ls 4 [(0, .ref (ad 21))] := hl
  refine W_gen (fun R Z H locs hR hZ hH hlo => ?_)
  have hRf : R.frames = 3 := by rw [hR]; rfl
  have hRl : R.locals = 64 := by rw [hR]; rfl
  have hRc : R.cells = 0 := by rw [hR]; rfl
  have hRs : R.slots = 0 := by rw [hR]; rfl
  have hS : va_S A s.heap H locs := by rw [hH, hlo]; exact va_S.rf
  rw [← hH] at hP
  obtain ⟨Q, hQ⟩ : ∃ q : Int32 → Prop, q = (fun r => post_X4_bannedDeeds  ag rg Sg σ0 r) := ⟨_, rfl⟩
  rw [← hQ] at hv
  have hinX3 : ∀ w ∈ wsX30, w ∈ wsX4_bannedDeeds := by decide +kernel
  have hinX4 : ∀ w ∈ wsX40, w ∈ wsX4_bannedDeeds := by decide +kernel
  have hinX6 : ∀ w ∈ wsX60, w ∈ wsX4_bannedDeeds := by decide +kernel
  refine lv_aload_n hx hb dX4_bannedDeeds_0 rfl (lv_at hl 0 rfl) ?_
  obtain ⟨g1, g2, g3, hv⟩ := hv
  obtain ⟨hp, hv⟩ := hv
  refine k_read_i (w := wC cy ad) (va_runV (As := []) (rest := []) ⟨hx, hb, hml, hown, hts⟩ (h_X4_talesOfAll D cy ad A g1 g2 g3 σ0 hp) (cwV 0 hts gX4_bannedDeeds_X4_talesOfAll rfl rfl rfl (by decide +kernel) ⟨le_R hRf (Nat.le_of_ble_eq_true rfl), le_R hRl (Nat.le_of_ble_eq_true rfl)⟩) ⟨(fun a U g mk q => ⟨q.1, q.2.blind⟩), va_recv hK hP (ci := 4) (q0 := 21) rfl (wC_21 cy ad σ0), (fun U hU hW => ⟨rfl, WdC.pre hP hK hD hN hU hW⟩)⟩ rfl rfl hl.1 rfl (lv_room (Nat.le_of_ble_eq_true rfl)) dX4_bannedDeeds_1 ⟨le_R hRc (Nat.le_refl 0), le_R hRs (Nat.le_refl 0)⟩) hS (fun r4 H locs hr1 hP hS => ?_)
  have hv := hv r4 hr1
  refine lv_istore_n (lv' := [(1, .int r4), (0, .ref (ad 21))]) hx hb dX4_bannedDeeds_4 rfl hl (by decide) rfl (fun ls hl => ?_)
  refine lv_iconst (v := 0) hx hb dX4_bannedDeeds_5 (by decide) ?_
  refine lv_istore_n (lv' := [(2, .int 0), (1, .int r4), (0, .ref (ad 21))]) hx hb dX4_bannedDeeds_6 rfl hl (by decide) rfl (fun ls hl => ?_)
  refine lv_iconst (v := 0) hx hb dX4_bannedDeeds_7 (by decide) ?_
  refine lv_istore_n (lv' := [(3, .int 0), (2, .int 0), (1, .int r4), (0, .ref (ad 21))]) hx hb dX4_bannedDeeds_8 rfl hl (by decide) rfl (fun ls hl => ?_)
  obtain ⟨n9, hv⟩ := hv
  have lp9 : ∀ (nn9 : Nat) (x5 : Int32) (x6 : Int32) (H : Heap) (locs : List Loc) (ls : Array Slot), vl_X4_bannedDeeds_9 σ0 r4 Q nn9 x5 x6 → va_P D vwCl (wC cy ad σ0) H → va_D A (wC cy ad σ0) → va_S A s.heap H locs → lv_has ls 4 [(0, .ref (ad 21)), (1, .int r4), (2, .int x5), (3, .int x6)] → W p l e R s m ([.ref (ad 21)] : List Value).toArray  below meth c H locs 0 0 Z (F0 m 9 ls []) := by
    intro nn9
    induction nn9 with
    | zero => intro x5 x6 H locs ls hv; exact absurd hv id
    | succ mm9 ih9 =>
      intro x5 x6 H locs ls hv hP hD hS hl
      refine lv_iload_n hx hb dX4_bannedDeeds_9 rfl (lv_at hl 3 rfl) ?_
      refine lv_aload_n hx hb dX4_bannedDeeds_10 rfl (lv_at hl 0 rfl) ?_
      refine va_get (ci := 4) (v := .ref (ad 11)) (C := RX4) (T := TX4) (N := 10) hx hb hts hinX4 hown hK hP 21 (wC_21 cy ad σ0) rfl 0 (by decide) (hts (.fieldLink RX4 30 "TaleBans$Seasons" "land" "LTaleBans$Steppe;") (List.mem_of_getElem? (i := 1) rfl)) (fun x h => h) rfl dX4_bannedDeeds_11 ?_
      refine va_getN (ci := 6) (v := .ref (ad (13))) (C := RX6) (T := TX6) (N := 8) hx hb hts hinX6 hown hK hP 11 (wC_11 cy ad σ0) rfl 1 (by decide) (nw_4 hN) (fun x h => h) rfl dX4_bannedDeeds_14 ?_
      refine va_getN (ci := 3) (v := .int (rdI σ0 5)) (C := RX3) (T := TX3) (N := 3) hx hb hts hinX3 hown hK hP 13 (wC_13 cy ad σ0) rfl 2 (by decide) (nw_1 hN) (fun x h => h) rfl dX4_bannedDeeds_17 ?_
      refine lv_icmp_ge (tgt := 62) hx hb dX4_bannedDeeds_20 (by decide) (fun c14 => ?_) (fun c14 => ?_)
      · have hv := hv.1 c14
        refine lv_iload_n hx hb dX4_bannedDeeds_62 rfl (lv_at hl 2 rfl) ?_
        rw [hZ]; rw [hQ] at hv
        exact W.iret (v := x5) hx hb hr (fun t ht hW => ⟨⟨x5, (), rfl, hv, (P_of ht hP)⟩, hS.F ht⟩) hS.2.2 dX4_bannedDeeds_63
      · have hv := hv.2 c14
        refine lv_iload_n hx hb dX4_bannedDeeds_23 rfl (lv_at hl 3 rfl) ?_
        refine lv_iload_n hx hb dX4_bannedDeeds_24 rfl (lv_at hl 1 rfl) ?_
        refine k_pure_i (va_runSN (As := [.int x6, .int r4]) (rest := []) ⟨hx, hb, hml, hown, hts⟩ (h_X8_isIn x6 r4) ⟨va_cnB 2 hts gX4_bannedDeeds_X8_isIn_n112 rfl rfl rfl (nwm_50 hN) (hts (.initialized RX8) (List.mem_of_getElem? (i := 9) rfl)) (by decide +kernel) ⟨le_R hRf (Nat.le_of_ble_eq_true rfl), le_R hRl (Nat.le_of_ble_eq_true rfl)⟩, (hts (.static yX8_isIn) (List.mem_of_getElem? (i := 8) rfl)), trivial⟩ ⟨(fun a U g mk q => ⟨q.1, trivial⟩), (fun U hU hW => ⟨rfl, trivial⟩)⟩ rfl rfl hl.1 rfl (lv_room (Nat.le_of_ble_eq_true rfl)) dX4_bannedDeeds_25 ⟨le_R hRc (Nat.le_refl 0), le_R hRs (Nat.le_refl 0)⟩) hS hP (fun r H locs hr1 hP hS => ?_)
        subst hr1
        refine lv_if_eq (tgt := 56) hx hb dX4_bannedDeeds_28 (by decide) (fun c13 => ?_) (fun c13 => ?_)
        · have hv := hv.1 c13
          refine lv_iinc (v := (x6 + 1)) (lv' := [(3, .int (x6 + 1)), (0, .ref (ad 21)), (1, .int r4), (2, .int x5)]) hx hb dX4_bannedDeeds_56 hl (k := 3) rfl rfl (by decide) rfl (fun ls hl => ?_)
          refine lv_goto (tgt := 9) hx hb dX4_bannedDeeds_59 (by decide) ?_
          exact ih9 x5 (x6 + 1) _ _ _ hv hP hD hS (lv_sub hl [1, 2, 3, 0] rfl)
        · have hv := hv.2 c13
          refine lv_aload_n hx hb dX4_bannedDeeds_31 rfl (lv_at hl 0 rfl) ?_
          refine lv_iload_n hx hb dX4_bannedDeeds_32 rfl (lv_at hl 3 rfl) ?_
          obtain ⟨g7, g8, g9, g10, hv⟩ := hv
          obtain ⟨hp, hv⟩ := hv
          refine k_read_i (w := wC cy ad) (va_runV (As := [.int x6]) (rest := []) ⟨hx, hb, hml, hown, hts⟩ (h_X4_isLaughedAt D cy ad A x6 g7 g8 g9 g10 σ0 hp) (cwV 1 hts gX4_bannedDeeds_X4_isLaughedAt rfl rfl rfl (by decide +kernel) ⟨le_R hRf (Nat.le_of_ble_eq_true rfl), le_R hRl (Nat.le_of_ble_eq_true rfl)⟩) ⟨(fun a U g mk q => ⟨q.1, q.2.blind⟩), va_recv hK hP (ci := 4) (q0 := 21) rfl (wC_21 cy ad σ0), (fun U hU hW => ⟨rfl, WdC.pre hP hK hD hN hU hW⟩)⟩ rfl rfl hl.1 rfl (lv_room (Nat.le_of_ble_eq_true rfl)) dX4_bannedDeeds_33 ⟨le_R hRc (Nat.le_refl 0), le_R hRs (Nat.le_refl 0)⟩) hS (fun r11 H locs hr1 hP hS => ?_)
          have hv := hv r11 hr1
          refine lv_if_ne (tgt := 56) hx hb dX4_bannedDeeds_36 (by decide) (fun c12 => ?_) (fun c12 => ?_)
          · have hv := hv.1 c12
            refine lv_iinc (v := (x6 + 1)) (lv' := [(3, .int (x6 + 1)), (0, .ref (ad 21)), (1, .int r4), (2, .int x5)]) hx hb dX4_bannedDeeds_56 hl (k := 3) rfl rfl (by decide) rfl (fun ls hl => ?_)
            refine lv_goto (tgt := 9) hx hb dX4_bannedDeeds_59 (by decide) ?_
            exact ih9 x5 (x6 + 1) _ _ _ hv hP hD hS (lv_sub hl [1, 2, 3, 0] rfl)
          · have hv := hv.2 c12
            refine lv_iload_n hx hb dX4_bannedDeeds_39 rfl (lv_at hl 2 rfl) ?_
            refine lv_iconst (v := 1) hx hb dX4_bannedDeeds_40 (by decide) ?_
            refine lv_aload_n hx hb dX4_bannedDeeds_41 rfl (lv_at hl 0 rfl) ?_
            refine va_get (ci := 4) (v := .ref (ad 11)) (C := RX4) (T := TX4) (N := 10) hx hb hts hinX4 hown hK hP 21 (wC_21 cy ad σ0) rfl 0 (by decide) (hts (.fieldLink RX4 30 "TaleBans$Seasons" "land" "LTaleBans$Steppe;") (List.mem_of_getElem? (i := 1) rfl)) (fun x h => h) rfl dX4_bannedDeeds_42 ?_
            refine va_getN (ci := 6) (v := .ref (ad (13))) (C := RX6) (T := TX6) (N := 8) hx hb hts hinX6 hown hK hP 11 (wC_11 cy ad σ0) rfl 1 (by decide) (nw_4 hN) (fun x h => h) rfl dX4_bannedDeeds_45 ?_
            refine lv_iload_n hx hb dX4_bannedDeeds_48 rfl (lv_at hl 3 rfl) ?_
            refine lv_iconst (v := 2) hx hb dX4_bannedDeeds_49 (by decide) ?_
            obtain ⟨hp, hv⟩ := hv
            refine k_read_i (w := wC cy ad) (va_runVN (As := [.int x6, .int 2]) (rest := [.int 1, .int x5]) ⟨hx, hb, hml, hown, hts⟩ (h_X3_at D cy ad A 0 x6 2 σ0 (show 0 < 4 by decide) hp) ⟨va_cnB 2 hts gX4_bannedDeeds_X3_at_n93 rfl rfl rfl (nwm_48 hN) (hts (.initialized RX3) (List.mem_of_getElem? (i := 17) rfl)) (by decide +kernel) ⟨le_R hRf (Nat.le_of_ble_eq_true rfl), le_R hRl (Nat.le_of_ble_eq_true rfl)⟩, (hts (.instanceMethod yX3_at) (List.mem_of_getElem? (i := 16) rfl)), (hts (.selects RX3 yX3_at yX3_at) (List.mem_of_getElem? (i := 18) rfl))⟩ ⟨(fun a U g mk q => ⟨q.1, q.2.blind⟩), va_recv hK hP (ci := 3) (q0 := 13) rfl (wC_13 cy ad σ0), (fun U hU hW => ⟨rfl, WdC.pre hP hK hD hN hU hW⟩)⟩ rfl rfl hl.1 rfl (lv_room (Nat.le_of_ble_eq_true rfl)) dX4_bannedDeeds_50 ⟨le_R hRc (Nat.le_refl 0), le_R hRs (Nat.le_refl 0)⟩) hS (fun r H locs hr1 hP hS => ?_)
            subst hr1
            refine lv_ishl hx hb dX4_bannedDeeds_53 ?_
            refine lv_ior hx hb dX4_bannedDeeds_54 ?_
            refine lv_istore_n (lv' := [(2, .int (x5 ||| (1 <<< ((fn_X3_at 0 x6 2 σ0) &&& 31)))), (0, .ref (ad 21)), (1, .int r4), (3, .int x6)]) hx hb dX4_bannedDeeds_55 rfl hl (by decide) rfl (fun ls hl => ?_)
            refine lv_iinc (v := (x6 + 1)) (lv' := [(3, .int (x6 + 1)), (2, .int (x5 ||| (1 <<< ((fn_X3_at 0 x6 2 σ0) &&& 31)))), (0, .ref (ad 21)), (1, .int r4)]) hx hb dX4_bannedDeeds_56 hl (k := 3) rfl rfl (by decide) rfl (fun ls hl => ?_)
            refine lv_goto (tgt := 9) hx hb dX4_bannedDeeds_59 (by decide) ?_
            exact ih9 (x5 ||| (1 <<< ((fn_X3_at 0 x6 2 σ0) &&& 31))) (x6 + 1) _ _ _ hv hP hD hS (lv_sub hl [2, 3, 1, 0] rfl)
  exact lp9 n9 0 0 _ _ _ hv hP hD hS (lv_sub hl [3, 2, 1, 0] rfl)
set_option maxHeartbeats 4000000 in
set_option maxRecDepth 100000 in
theorem wk_X4_isBanned (l : Launch) (h_X4_bannedDeeds : Ct_X4_bannedDeeds l) (h_X8_isIn : Ct_X8_isIn l) (sp : Sp_X4_isBanned) : Ct_X4_isBanned l := by
  intro D cy ad A deed_ ag rg Sg d1g σ0  hpre
  refine Met.ofW (cc := cX4_isBanned) (maxL := 2) (ret := (some .boolean)) (by decide) rfl ?_
  intro p e s m args below meth c s₁ B hml hv0
  obtain ⟨rfl, hP, hK, hD, hN⟩ := hv0
  have hx := B.exec
  have hb := B.bytes
  have hr := B.returns
  have hts := atoms_spec (ws := wsX4_isBanned) B.pre
  have hown : s.vm.findClass RX4 = some m.cls := findClass_of_methodNamed B.named
  have hlocks := B.notSynchronized
  have hv := sp deed_ ag rg Sg d1g σ0 hpre
  have hl := lv_entry ([.ref (ad 21), .int deed_]) (n := 2) (Nat.le_of_ble_eq_true rfl)
  rw [lg_entry_eq]
  generalize (lg_sl ([.ref (ad 21), .int deed_]) ++ List.replicate (2 - (lg_sl ([.ref (ad 21), .int deed_])).length) Slot.unset).toArray = ls at hl ⊢
  have hl : lv_has ls 2 [(0, .ref (ad 21)), (1, .int deed_)] := hl
  refine W_gen (fun R Z H locs hR hZ hH hlo => ?_)
  have hRf : R.frames = 4 := by rw [hR]; rfl
  have hRl : R.locals = 87 := by rw [hR]; rfl
  have hRc : R.cells = 0 := by rw [hR]; rfl
  have hRs : R.slots = 0 := by rw [hR]; rfl
  have hS : va_S A s.heap H locs := by rw [hH, hlo]; exact va_S.rf
  rw [← hH] at hP
  obtain ⟨Q, hQ⟩ : ∃ q : Int32 → Prop, q = (fun r => post_X4_isBanned deed_ ag rg Sg d1g σ0 r) := ⟨_, rfl⟩
  rw [← hQ] at hv
  refine lv_iload_n hx hb dX4_isBanned_0 rfl (lv_at hl 1 rfl) ?_
  refine lv_aload_n hx hb dX4_isBanned_1 rfl (lv_at hl 0 rfl) ?_
  obtain ⟨g1, g2, g3, hv⟩ := hv
  obtain ⟨hp, hv⟩ := hv
  refine k_read_i (w := wC cy ad) (va_runV (As := []) (rest := [.int deed_]) ⟨hx, hb, hml, hown, hts⟩ (h_X4_bannedDeeds D cy ad A g1 g2 g3 σ0 hp) (cwV 0 hts gX4_isBanned_X4_bannedDeeds rfl rfl rfl (by decide +kernel) ⟨le_R hRf (Nat.le_of_ble_eq_true rfl), le_R hRl (Nat.le_of_ble_eq_true rfl)⟩) ⟨(fun a U g mk q => ⟨q.1, q.2.blind⟩), va_recv hK hP (ci := 4) (q0 := 21) rfl (wC_21 cy ad σ0), (fun U hU hW => ⟨rfl, WdC.pre hP hK hD hN hU hW⟩)⟩ rfl rfl hl.1 rfl (lv_room (Nat.le_of_ble_eq_true rfl)) dX4_isBanned_2 ⟨le_R hRc (Nat.le_refl 0), le_R hRs (Nat.le_refl 0)⟩) hS (fun r4 H locs hr1 hP hS => ?_)
  have hv := hv r4 hr1
  refine k_pure_i (va_runSN (As := [.int deed_, .int r4]) (rest := []) ⟨hx, hb, hml, hown, hts⟩ (h_X8_isIn deed_ r4) ⟨va_cnB 2 hts gX4_isBanned_X8_isIn_n112 rfl rfl rfl (nwm_50 hN) (hts (.initialized RX8) (List.mem_of_getElem? (i := 13) rfl)) (by decide +kernel) ⟨le_R hRf (Nat.le_of_ble_eq_true rfl), le_R hRl (Nat.le_of_ble_eq_true rfl)⟩, (hts (.static yX8_isIn) (List.mem_of_getElem? (i := 12) rfl)), trivial⟩ ⟨(fun a U g mk q => ⟨q.1, trivial⟩), (fun U hU hW => ⟨rfl, trivial⟩)⟩ rfl rfl hl.1 rfl (lv_room (Nat.le_of_ble_eq_true rfl)) dX4_isBanned_5 ⟨le_R hRc (Nat.le_refl 0), le_R hRs (Nat.le_refl 0)⟩) hS hP (fun r H locs hr1 hP hS => ?_)
  subst hr1
  obtain ⟨h01, hv⟩ := hv
  rw [hZ]; rw [hQ] at hv
  exact W.zret (v := (fn_X8_isIn deed_ r4)) hx hb hr (nar_b h01) (fun t ht hW => ⟨⟨(fn_X8_isIn deed_ r4), (), rfl, hv, (P_of ht hP)⟩, hS.F ht⟩) hS.2.2 dX4_isBanned_8
set_option maxHeartbeats 4000000 in
set_option maxRecDepth 100000 in
theorem wk_X4_hear (l : Launch) (h_X8_isOneOf : Ct_X8_isOneOf l) (sp : Sp_X4_hear) : Ct_X4_hear l := by
  intro D cy ad A p_ t_ ag rg Sg p1g t1g σ0  hpre
  refine Met.ofW (cc := cX4_hear) (maxL := 3) (ret := none) (by decide) rfl ?_
  intro p e s m args below meth c s₁ B hml hv0
  obtain ⟨rfl, hP, hK, hD, hN⟩ := hv0
  have hx := B.exec
  have hb := B.bytes
  have hr := B.returns
  have hts := atoms_spec (ws := wsX4_hear) B.pre
  have hown : s.vm.findClass RX4 = some m.cls := findClass_of_methodNamed B.named
  have hlocks := B.notSynchronized
  have hv := sp p_ t_ ag rg Sg p1g t1g σ0 hpre
  have hl := lv_entry ([.ref (ad 21), .int p_, .int t_]) (n := 3) (Nat.le_of_ble_eq_true rfl)
  rw [lg_entry_eq]
  generalize (lg_sl ([.ref (ad 21), .int p_, .int t_]) ++ List.replicate (3 - (lg_sl ([.ref (ad 21), .int p_, .int t_])).length) Slot.unset).toArray = ls at hl ⊢
  have hl : lv_has ls 3 [(0, .ref (ad 21)), (1, .int p_), (2, .int t_)] := hl
  refine W_gen (fun R Z H locs hR hZ hH hlo => ?_)
  have hRf : R.frames = 1 := by rw [hR]; rfl
  have hRl : R.locals = 21 := by rw [hR]; rfl
  have hRc : R.cells = 0 := by rw [hR]; rfl
  have hRs : R.slots = 0 := by rw [hR]; rfl
  have hS : va_S A s.heap H locs := by rw [hH, hlo]; exact va_S.rf
  rw [← hH] at hP
  obtain ⟨Q, hQ⟩ : ∃ q : S_ → Prop, q = (post_X4_hear p_ t_ ag rg Sg p1g t1g σ0) := ⟨_, rfl⟩
  rw [← hQ] at hv
  have hinX4 : ∀ w ∈ wsX40, w ∈ wsX4_hear := by decide +kernel
  refine lv_iload_n hx hb dX4_hear_0 rfl (lv_at hl 1 rfl) ?_
  refine lv_bipush (v := 6) hx hb dX4_hear_1 (by decide) ?_
  refine k_pure_i (va_runSN (As := [.int p_, .int 6]) (rest := []) ⟨hx, hb, hml, hown, hts⟩ (h_X8_isOneOf p_ 6) ⟨va_cnB 2 hts gX4_hear_X8_isOneOf_n97 rfl rfl rfl (nwm_49 hN) (hts (.initialized RX8) (List.mem_of_getElem? (i := 6) rfl)) (by decide +kernel) ⟨le_R hRf (Nat.le_of_ble_eq_true rfl), le_R hRl (Nat.le_of_ble_eq_true rfl)⟩, (hts (.static yX8_isOneOf) (List.mem_of_getElem? (i := 5) rfl)), trivial⟩ ⟨(fun a U g mk q => ⟨q.1, trivial⟩), (fun U hU hW => ⟨rfl, trivial⟩)⟩ rfl rfl hl.1 rfl (lv_room (Nat.le_of_ble_eq_true rfl)) dX4_hear_3 ⟨le_R hRc (Nat.le_refl 0), le_R hRs (Nat.le_refl 0)⟩) hS hP (fun r H locs hr1 hP hS => ?_)
  subst hr1
  refine lv_if_eq (tgt := 52) hx hb dX4_hear_6 (by decide) (fun c6 => ?_) (fun c6 => ?_)
  · have hv := hv.1 c6
    rw [hZ]; rw [hQ] at hv
    exact W.vret hx hb hr (fun t ht hW => ⟨⟨σ0, rfl, hv, ⟨P_of ht hP, hD⟩⟩, hS.F ht⟩) hS.2.2 dX4_hear_52
  · have hv := hv.2 c6
    refine lv_iload_n hx hb dX4_hear_9 rfl (lv_at hl 2 rfl) ?_
    refine lv_bipush (v := 6) hx hb dX4_hear_10 (by decide) ?_
    refine k_pure_i (va_runSN (As := [.int t_, .int 6]) (rest := []) ⟨hx, hb, hml, hown, hts⟩ (h_X8_isOneOf t_ 6) ⟨va_cnB 2 hts gX4_hear_X8_isOneOf_n97 rfl rfl rfl (nwm_49 hN) (hts (.initialized RX8) (List.mem_of_getElem? (i := 6) rfl)) (by decide +kernel) ⟨le_R hRf (Nat.le_of_ble_eq_true rfl), le_R hRl (Nat.le_of_ble_eq_true rfl)⟩, (hts (.static yX8_isOneOf) (List.mem_of_getElem? (i := 5) rfl)), trivial⟩ ⟨(fun a U g mk q => ⟨q.1, trivial⟩), (fun U hU hW => ⟨rfl, trivial⟩)⟩ rfl rfl hl.1 rfl (lv_room (Nat.le_of_ble_eq_true rfl)) dX4_hear_12 ⟨le_R hRc (Nat.le_refl 0), le_R hRs (Nat.le_refl 0)⟩) hS hP (fun r H locs hr1 hP hS => ?_)
    subst hr1
    refine lv_if_eq (tgt := 52) hx hb dX4_hear_15 (by decide) (fun c5 => ?_) (fun c5 => ?_)
    · have hv := hv.1 c5
      rw [hZ]; rw [hQ] at hv
      exact W.vret hx hb hr (fun t ht hW => ⟨⟨σ0, rfl, hv, ⟨P_of ht hP, hD⟩⟩, hS.F ht⟩) hS.2.2 dX4_hear_52
    · have hv := hv.2 c5
      refine lv_aload_n hx hb dX4_hear_18 rfl (lv_at hl 0 rfl) ?_
      refine va_get (ci := 4) (v := .ref (ad (24))) (C := RX4) (T := TX4) (N := 10) hx hb hts hinX4 hown hK hP 21 (wC_21 cy ad σ0) rfl 3 (by decide) (hts (.fieldLink RX4 18 "TaleBans$Seasons" "known" "[I") (List.mem_of_getElem? (i := 1) rfl)) (fun x h => h) rfl dX4_hear_19 ?_
      refine lv_iload_n hx hb dX4_hear_22 rfl (lv_at hl 1 rfl) ?_
      refine lv_dup2_11 hx hb dX4_hear_23 rfl rfl ?_
      obtain ⟨hi, hv⟩ := hv
      refine va_iald hx hb hK hP 24 0 (wC_24 cy ad σ0) rfl hi dX4_hear_24 ?_
      refine lv_iconst (v := 1) hx hb dX4_hear_25 (by decide) ?_
      refine lv_iload_n hx hb dX4_hear_26 rfl (lv_at hl 2 rfl) ?_
      refine lv_ishl hx hb dX4_hear_27 ?_
      refine lv_ior hx hb dX4_hear_28 ?_
      obtain ⟨hi, hv⟩ := hv
      refine va_iast hx hb hK hP hD hS 24 0 (wC_24 cy ad σ0) rfl hi dX4_hear_29 (fun H locs hP hD hS => ?_)
      obtain ⟨σ1, e2⟩ : ∃ y : S_, y = wr2 σ0 10 (Int32.toNatClampNeg p_) ((rdA σ0 10 (Int32.toNatClampNeg p_)) ||| (1 <<< (t_ &&& 31))) := ⟨_, rfl⟩
      have hP : va_P D vwCl (wC cy ad σ1) H := by rw [e2]; exact hP
      have hD : va_D A (wC cy ad σ1) := by rw [e2]; exact hD
      have hv := hv σ1 e2
      refine lv_aload_n hx hb dX4_hear_30 rfl (lv_at hl 0 rfl) ?_
      refine va_get (ci := 4) (v := .ref (ad (25))) (C := RX4) (T := TX4) (N := 10) hx hb hts hinX4 hown hK hP 21 (wC_21 cy ad σ1) rfl 4 (by decide) (hts (.fieldLink RX4 21 "TaleBans$Seasons" "lastKnown" "[I") (List.mem_of_getElem? (i := 2) rfl)) (fun x h => h) rfl dX4_hear_31 ?_
      refine lv_iload_n hx hb dX4_hear_34 rfl (lv_at hl 1 rfl) ?_
      refine lv_bipush (v := 6) hx hb dX4_hear_35 (by decide) ?_
      refine lv_imul hx hb dX4_hear_37 ?_
      refine lv_iload_n hx hb dX4_hear_38 rfl (lv_at hl 2 rfl) ?_
      refine lv_iadd hx hb dX4_hear_39 ?_
      refine lv_aload_n hx hb dX4_hear_40 rfl (lv_at hl 0 rfl) ?_
      refine va_get (ci := 4) (v := .int (rdI σ1 11)) (C := RX4) (T := TX4) (N := 10) hx hb hts hinX4 hown hK hP 21 (wC_21 cy ad σ1) rfl 9 (by decide) (hts (.fieldLink RX4 41 "TaleBans$Seasons" "season" "I") (List.mem_of_getElem? (i := 3) rfl)) (fun x h => h) rfl dX4_hear_41 ?_
      refine lv_aload_n hx hb dX4_hear_44 rfl (lv_at hl 0 rfl) ?_
      refine va_get (ci := 4) (v := .ref (ad (23))) (C := RX4) (T := TX4) (N := 10) hx hb hts hinX4 hown hK hP 21 (wC_21 cy ad σ1) rfl 2 (by decide) (hts (.fieldLink RX4 15 "TaleBans$Seasons" "memories" "[I") (List.mem_of_getElem? (i := 4) rfl)) (fun x h => h) rfl dX4_hear_45 ?_
      refine lv_iload_n hx hb dX4_hear_48 rfl (lv_at hl 1 rfl) ?_
      obtain ⟨hi, hv⟩ := hv
      refine va_iald hx hb hK hP 23 0 (wC_23 cy ad σ1) rfl hi dX4_hear_49 ?_
      refine lv_iadd hx hb dX4_hear_50 ?_
      obtain ⟨hi, hv⟩ := hv
      refine va_iast hx hb hK hP hD hS 25 0 (wC_25 cy ad σ1) rfl hi dX4_hear_51 (fun H locs hP hD hS => ?_)
      obtain ⟨σ3, e4⟩ : ∃ y : S_, y = wr2 σ1 11 (Int32.toNatClampNeg ((p_ * 6) + t_)) ((rdI σ1 11) + (rdA σ1 9 (Int32.toNatClampNeg p_))) := ⟨_, rfl⟩
      have hP : va_P D vwCl (wC cy ad σ3) H := by rw [e4]; exact hP
      have hD : va_D A (wC cy ad σ3) := by rw [e4]; exact hD
      have hv := hv σ3 e4
      rw [hZ]; rw [hQ] at hv
      exact W.vret hx hb hr (fun t ht hW => ⟨⟨σ3, rfl, hv, ⟨P_of ht hP, hD⟩⟩, hS.F ht⟩) hS.2.2 dX4_hear_52
set_option maxHeartbeats 4000000 in
set_option maxRecDepth 100000 in
theorem wk_X4_tellAt (l : Launch) (h_X4_chosen : Ct_X4_chosen l) (h_X4_hear : Ct_X4_hear l) (h_X4_knownAt : Ct_X4_knownAt l) (h_X8_isIn : Ct_X8_isIn l) (sp : Sp_X4_tellAt) : Ct_X4_tellAt l := by
  intro D cy ad A h_ ag rg Sg h1g σ0  hpre
  refine Met.ofW (cc := cX4_tellAt) (maxL := 4) (ret := none) (by decide) rfl ?_
  intro p e s m args below meth c s₁ B hml hv0
  obtain ⟨rfl, hP, hK, hD, hN⟩ := hv0
  have hx := B.exec
  have hb := B.bytes
  have hr := B.returns
  have hts := atoms_spec (ws := wsX4_tellAt) B.pre
  have hown : s.vm.findClass RX4 = some m.cls := findClass_of_methodNamed B.named
  have hlocks := B.notSynchronized
  have hv := sp h_ ag rg Sg h1g σ0 hpre
  have hl := lv_entry ([.ref (ad 21), .int h_]) (n := 4) (Nat.le_of_ble_eq_true rfl)
  rw [lg_entry_eq]
  generalize (lg_sl ([.ref (ad 21), .int h_]) ++ List.replicate (4 - (lg_sl ([.ref (ad 21), .int h_])).length) Slot.unset).toArray = ls at hl ⊢
  have hl : lv_has ls 4 [(0, .ref (ad 21)), (1, .int h_)] := hl
  refine W_gen (fun R Z H locs hR hZ hH hlo => ?_)
  have hRf : R.frames = 2 := by rw [hR]; rfl
  have hRl : R.locals = 47 := by rw [hR]; rfl
  have hRc : R.cells = 0 := by rw [hR]; rfl
  have hRs : R.slots = 0 := by rw [hR]; rfl
  have hS : va_S A s.heap H locs := by rw [hH, hlo]; exact va_S.rf
  rw [← hH] at hP
  obtain ⟨Q, hQ⟩ : ∃ q : S_ → Prop, q = (post_X4_tellAt h_ ag rg Sg h1g σ0) := ⟨_, rfl⟩
  rw [← hQ] at hv
  have hinX4 : ∀ w ∈ wsX40, w ∈ wsX4_tellAt := by decide +kernel
  have hinX6 : ∀ w ∈ wsX60, w ∈ wsX4_tellAt := by decide +kernel
  refine lv_aload_n hx hb dX4_tellAt_0 rfl (lv_at hl 0 rfl) ?_
  refine lv_iload_n hx hb dX4_tellAt_1 rfl (lv_at hl 1 rfl) ?_
  refine lv_aload_n hx hb dX4_tellAt_2 rfl (lv_at hl 0 rfl) ?_
  refine lv_iload_n hx hb dX4_tellAt_3 rfl (lv_at hl 1 rfl) ?_
  obtain ⟨g1, g2, g3, g4, hv⟩ := hv
  obtain ⟨hp, hv⟩ := hv
  refine k_read_i (w := wC cy ad) (va_runV (As := [.int h_]) (rest := [.int h_, .ref (ad 21)]) ⟨hx, hb, hml, hown, hts⟩ (h_X4_knownAt D cy ad A h_ g1 g2 g3 g4 σ0 hp) (cwV 1 hts gX4_tellAt_X4_knownAt rfl rfl rfl (by decide +kernel) ⟨le_R hRf (Nat.le_of_ble_eq_true rfl), le_R hRl (Nat.le_of_ble_eq_true rfl)⟩) ⟨(fun a U g mk q => ⟨q.1, q.2.blind⟩), va_recv hK hP (ci := 4) (q0 := 21) rfl (wC_21 cy ad σ0), (fun U hU hW => ⟨rfl, WdC.pre hP hK hD hN hU hW⟩)⟩ rfl rfl hl.1 rfl (lv_room (Nat.le_of_ble_eq_true rfl)) dX4_tellAt_4 ⟨le_R hRc (Nat.le_refl 0), le_R hRs (Nat.le_refl 0)⟩) hS (fun r5 H locs hr1 hP hS => ?_)
  have hv := hv r5 hr1
  obtain ⟨g6, g7, g8, g9, hv⟩ := hv
  obtain ⟨hp, hv⟩ := hv
  refine k_read_i (w := wC cy ad) (va_runV (As := [.int h_, .int r5]) (rest := []) ⟨hx, hb, hml, hown, hts⟩ (h_X4_chosen D cy ad A h_ r5 g6 g7 g8 g9 σ0 hp) (cwV 2 hts gX4_tellAt_X4_chosen rfl rfl rfl (by decide +kernel) ⟨le_R hRf (Nat.le_of_ble_eq_true rfl), le_R hRl (Nat.le_of_ble_eq_true rfl)⟩) ⟨(fun a U g mk q => ⟨q.1, q.2.blind⟩), va_recv hK hP (ci := 4) (q0 := 21) rfl (wC_21 cy ad σ0), (fun U hU hW => ⟨rfl, WdC.pre hP hK hD hN hU hW⟩)⟩ rfl rfl hl.1 rfl (lv_room (Nat.le_of_ble_eq_true rfl)) dX4_tellAt_7 ⟨le_R hRc (Nat.le_refl 0), le_R hRs (Nat.le_refl 0)⟩) hS (fun r10 H locs hr1 hP hS => ?_)
  have hv := hv r10 hr1
  refine lv_istore_n (lv' := [(2, .int r10), (0, .ref (ad 21)), (1, .int h_)]) hx hb dX4_tellAt_10 rfl hl (by decide) rfl (fun ls hl => ?_)
  refine lv_aload_n hx hb dX4_tellAt_11 rfl (lv_at hl 1 rfl) ?_
  refine va_get (ci := 4) (v := .ref (ad (27))) (C := RX4) (T := TX4) (N := 10) hx hb hts hinX4 hown hK hP 21 (wC_21 cy ad σ0) rfl 6 (by decide) (hts (.fieldLink RX4 27 "TaleBans$Seasons" "toldNow" "[I") (List.mem_of_getElem? (i := 1) rfl)) (fun x h => h) rfl dX4_tellAt_12 ?_
  refine lv_iload_n hx hb dX4_tellAt_15 rfl (lv_at hl 2 rfl) ?_
  refine lv_iload_n hx hb dX4_tellAt_16 rfl (lv_at hl 0 rfl) ?_
  obtain ⟨hi, hv⟩ := hv
  refine va_iast hx hb hK hP hD hS 27 0 (wC_27 cy ad σ0) rfl hi dX4_tellAt_17 (fun H locs hP hD hS => ?_)
  obtain ⟨σ11, e12⟩ : ∃ y : S_, y = wr2 σ0 13 (Int32.toNatClampNeg h_) r10 := ⟨_, rfl⟩
  have hP : va_P D vwCl (wC cy ad σ11) H := by rw [e12]; exact hP
  have hD : va_D A (wC cy ad σ11) := by rw [e12]; exact hD
  have hv := hv σ11 e12
  refine lv_iload_n hx hb dX4_tellAt_18 rfl (lv_at hl 0 rfl) ?_
  refine lv_bipush (v := (-9)) hx hb dX4_tellAt_19 (by decide) ?_
  refine lv_icmp_ne (tgt := 25) hx hb dX4_tellAt_21 (by decide) (fun c26 => ?_) (fun c26 => ?_)
  · have hv := hv.1 c26
    refine lv_aload_n hx hb dX4_tellAt_25 rfl (lv_at hl 1 rfl) ?_
    refine va_get (ci := 4) (v := .ref (ad (26))) (C := RX4) (T := TX4) (N := 10) hx hb hts hinX4 hown hK hP 21 (wC_21 cy ad σ11) rfl 5 (by decide) (hts (.fieldLink RX4 24 "TaleBans$Seasons" "lastTold" "[I") (List.mem_of_getElem? (i := 2) rfl)) (fun x h => h) rfl dX4_tellAt_26 ?_
    refine lv_iload_n hx hb dX4_tellAt_29 rfl (lv_at hl 2 rfl) ?_
    refine lv_bipush (v := 6) hx hb dX4_tellAt_30 (by decide) ?_
    refine lv_imul hx hb dX4_tellAt_32 ?_
    refine lv_iload_n hx hb dX4_tellAt_33 rfl (lv_at hl 0 rfl) ?_
    refine lv_iadd hx hb dX4_tellAt_34 ?_
    refine lv_aload_n hx hb dX4_tellAt_35 rfl (lv_at hl 1 rfl) ?_
    refine va_get (ci := 4) (v := .int (rdI σ11 11)) (C := RX4) (T := TX4) (N := 10) hx hb hts hinX4 hown hK hP 21 (wC_21 cy ad σ11) rfl 9 (by decide) (hts (.fieldLink RX4 41 "TaleBans$Seasons" "season" "I") (List.mem_of_getElem? (i := 3) rfl)) (fun x h => h) rfl dX4_tellAt_36 ?_
    obtain ⟨hi, hv⟩ := hv
    refine va_iast hx hb hK hP hD hS 26 0 (wC_26 cy ad σ11) rfl hi dX4_tellAt_39 (fun H locs hP hD hS => ?_)
    obtain ⟨σ13, e14⟩ : ∃ y : S_, y = wr2 σ11 12 (Int32.toNatClampNeg ((h_ * 6) + r10)) (rdI σ11 11) := ⟨_, rfl⟩
    have hP : va_P D vwCl (wC cy ad σ13) H := by rw [e14]; exact hP
    have hD : va_D A (wC cy ad σ13) := by rw [e14]; exact hD
    have hv := hv σ13 e14
    refine lv_iconst (v := 0) hx hb dX4_tellAt_40 (by decide) ?_
    refine lv_istore_n (lv' := [(3, .int 0), (2, .int r10), (0, .ref (ad 21)), (1, .int h_)]) hx hb dX4_tellAt_41 rfl hl (by decide) rfl (fun ls hl => ?_)
    obtain ⟨n42, hv⟩ := hv
    have lp42 : ∀ (nn42 : Nat) (x15 : Int32) (σ16 : S_) (H : Heap) (locs : List Loc) (ls : Array Slot), vl_X4_tellAt_42 h_ r10 Q nn42 x15 σ16 → va_P D vwCl (wC cy ad σ16) H → va_D A (wC cy ad σ16) → va_S A s.heap H locs → lv_has ls 4 [(0, .ref (ad 21)), (1, .int h_), (2, .int r10), (3, .int x15)] → W p l e R s m ([.ref (ad 21), .int h_] : List Value).toArray  below meth c H locs 0 0 Z (F0 m 42 ls []) := by
      intro nn42
      induction nn42 with
      | zero => intro x15 σ16 H locs ls hv; exact absurd hv id
      | succ mm42 ih42 =>
        intro x15 σ16 H locs ls hv hP hD hS hl
        refine lv_iload_n hx hb dX4_tellAt_42 rfl (lv_at hl 3 rfl) ?_
        refine lv_aload_n hx hb dX4_tellAt_43 rfl (lv_at hl 0 rfl) ?_
        refine va_get (ci := 4) (v := .ref (ad 11)) (C := RX4) (T := TX4) (N := 10) hx hb hts hinX4 hown hK hP 21 (wC_21 cy ad σ16) rfl 0 (by decide) (hts (.fieldLink RX4 30 "TaleBans$Seasons" "land" "LTaleBans$Steppe;") (List.mem_of_getElem? (i := 4) rfl)) (fun x h => h) rfl dX4_tellAt_44 ?_
        refine va_getN (ci := 6) (v := .int (rdI σ16 2)) (C := RX6) (T := TX6) (N := 8) hx hb hts hinX6 hown hK hP 11 (wC_11 cy ad σ16) rfl 5 (by decide) (nw_10 hN) (fun x h => h) rfl dX4_tellAt_47 ?_
        refine lv_icmp_ge (tgt := 86) hx hb dX4_tellAt_50 (by decide) (fun c25 => ?_) (fun c25 => ?_)
        · have hv := hv.1 c25
          rw [hZ]; rw [hQ] at hv
          exact W.vret hx hb hr (fun t ht hW => ⟨⟨σ16, rfl, hv, ⟨P_of ht hP, hD⟩⟩, hS.F ht⟩) hS.2.2 dX4_tellAt_86
        · have hv := hv.2 c25
          refine lv_aload_n hx hb dX4_tellAt_53 rfl (lv_at hl 0 rfl) ?_
          refine va_get (ci := 4) (v := .ref (ad (22))) (C := RX4) (T := TX4) (N := 10) hx hb hts hinX4 hown hK hP 21 (wC_21 cy ad σ16) rfl 1 (by decide) (hts (.fieldLink RX4 9 "TaleBans$Seasons" "places" "[I") (List.mem_of_getElem? (i := 5) rfl)) (fun x h => h) rfl dX4_tellAt_54 ?_
          refine lv_iload_n hx hb dX4_tellAt_57 rfl (lv_at hl 3 rfl) ?_
          obtain ⟨hi, hv⟩ := hv
          refine va_iald hx hb hK hP 22 0 (wC_22 cy ad σ16) rfl hi dX4_tellAt_58 ?_
          refine lv_iload_n hx hb dX4_tellAt_59 rfl (lv_at hl 1 rfl) ?_
          refine lv_icmp_ne (tgt := 80) hx hb dX4_tellAt_60 (by decide) (fun c24 => ?_) (fun c24 => ?_)
          · have hv := hv.1 c24
            refine lv_iinc (v := (x15 + 1)) (lv' := [(3, .int (x15 + 1)), (0, .ref (ad 21)), (1, .int h_), (2, .int r10)]) hx hb dX4_tellAt_80 hl (k := 3) rfl rfl (by decide) rfl (fun ls hl => ?_)
            refine lv_goto (tgt := 42) hx hb dX4_tellAt_83 (by decide) ?_
            exact ih42 (x15 + 1) σ16 _ _ _ hv hP hD hS (lv_sub hl [1, 2, 3, 0] rfl)
          · have hv := hv.2 c24
            refine lv_iload_n hx hb dX4_tellAt_63 rfl (lv_at hl 3 rfl) ?_
            refine lv_aload_n hx hb dX4_tellAt_64 rfl (lv_at hl 0 rfl) ?_
            refine va_get (ci := 4) (v := .int (rdI σ16 9)) (C := RX4) (T := TX4) (N := 10) hx hb hts hinX4 hown hK hP 21 (wC_21 cy ad σ16) rfl 7 (by decide) (hts (.fieldLink RX4 34 "TaleBans$Seasons" "paid" "I") (List.mem_of_getElem? (i := 6) rfl)) (fun x h => h) rfl dX4_tellAt_65 ?_
            refine k_pure_i (va_runSN (As := [.int x15, .int (rdI σ16 9)]) (rest := []) ⟨hx, hb, hml, hown, hts⟩ (h_X8_isIn x15 (rdI σ16 9)) ⟨va_cnB 2 hts gX4_tellAt_X8_isIn_n112 rfl rfl rfl (nwm_50 hN) (hts (.initialized RX8) (List.mem_of_getElem? (i := 18) rfl)) (by decide +kernel) ⟨le_R hRf (Nat.le_of_ble_eq_true rfl), le_R hRl (Nat.le_of_ble_eq_true rfl)⟩, (hts (.static yX8_isIn) (List.mem_of_getElem? (i := 17) rfl)), trivial⟩ ⟨(fun a U g mk q => ⟨q.1, trivial⟩), (fun U hU hW => ⟨rfl, trivial⟩)⟩ rfl rfl hl.1 rfl (lv_room (Nat.le_of_ble_eq_true rfl)) dX4_tellAt_68 ⟨le_R hRc (Nat.le_refl 0), le_R hRs (Nat.le_refl 0)⟩) hS hP (fun r H locs hr1 hP hS => ?_)
            subst hr1
            refine lv_if_ne (tgt := 80) hx hb dX4_tellAt_71 (by decide) (fun c23 => ?_) (fun c23 => ?_)
            · have hv := hv.1 c23
              refine lv_iinc (v := (x15 + 1)) (lv' := [(3, .int (x15 + 1)), (0, .ref (ad 21)), (1, .int h_), (2, .int r10)]) hx hb dX4_tellAt_80 hl (k := 3) rfl rfl (by decide) rfl (fun ls hl => ?_)
              refine lv_goto (tgt := 42) hx hb dX4_tellAt_83 (by decide) ?_
              exact ih42 (x15 + 1) σ16 _ _ _ hv hP hD hS (lv_sub hl [1, 2, 3, 0] rfl)
            · have hv := hv.2 c23
              refine lv_aload_n hx hb dX4_tellAt_74 rfl (lv_at hl 0 rfl) ?_
              refine lv_iload_n hx hb dX4_tellAt_75 rfl (lv_at hl 3 rfl) ?_
              refine lv_iload_n hx hb dX4_tellAt_76 rfl (lv_at hl 2 rfl) ?_
              obtain ⟨g17, g18, g19, g20, g21, hv⟩ := hv
              obtain ⟨hp, hv⟩ := hv
              refine k_rel_v (w := wC cy ad) (va_runV (As := [.int x15, .int r10]) (rest := []) ⟨hx, hb, hml, hown, hts⟩ (h_X4_hear D cy ad A x15 r10 g17 g18 g19 g20 g21 σ16 hp) (cwV 2 hts gX4_tellAt_X4_hear rfl rfl rfl (by decide +kernel) ⟨le_R hRf (Nat.le_of_ble_eq_true rfl), le_R hRl (Nat.le_of_ble_eq_true rfl)⟩) ⟨(fun a U g mk q => ⟨q.1, q.2.blind⟩), va_recv hK hP (ci := 4) (q0 := 21) rfl (wC_21 cy ad σ16), (fun U hU hW => ⟨rfl, WdC.pre hP hK hD hN hU hW⟩)⟩ rfl rfl hl.1 rfl (lv_room (Nat.le_of_ble_eq_true rfl)) dX4_tellAt_77 ⟨le_R hRc (Nat.le_refl 0), le_R hRs (Nat.le_refl 0)⟩) hS (fun σ22 H locs hr1 hP hD hS => ?_)
              have hv := hv σ22 hr1
              refine lv_iinc (v := (x15 + 1)) (lv' := [(3, .int (x15 + 1)), (0, .ref (ad 21)), (1, .int h_), (2, .int r10)]) hx hb dX4_tellAt_80 hl (k := 3) rfl rfl (by decide) rfl (fun ls hl => ?_)
              refine lv_goto (tgt := 42) hx hb dX4_tellAt_83 (by decide) ?_
              exact ih42 (x15 + 1) σ22 _ _ _ hv hP hD hS (lv_sub hl [1, 2, 3, 0] rfl)
    exact lp42 n42 0 σ13 _ _ _ hv hP hD hS (lv_sub hl [2, 3, 1, 0] rfl)
  · have hv := hv.2 c26
    rw [hZ]; rw [hQ] at hv
    exact W.vret hx hb hr (fun t ht hW => ⟨⟨σ11, rfl, hv, ⟨P_of ht hP, hD⟩⟩, hS.F ht⟩) hS.2.2 dX4_tellAt_24
set_option maxHeartbeats 4000000 in
set_option maxRecDepth 100000 in
theorem wk_X4_forget (l : Launch) (sp : Sp_X4_forget) : Ct_X4_forget l := by
  intro D cy ad A  ag rg Sg σ0  hpre
  refine Met.ofW (cc := cX4_forget) (maxL := 3) (ret := none) (by decide) rfl ?_
  intro p e s m args below meth c s₁ B hml hv0
  obtain ⟨rfl, hP, hK, hD, hN⟩ := hv0
  have hx := B.exec
  have hb := B.bytes
  have hr := B.returns
  have hts := atoms_spec (ws := wsX4_forget) B.pre
  have hown : s.vm.findClass RX4 = some m.cls := findClass_of_methodNamed B.named
  have hlocks := B.notSynchronized
  have hv := sp  ag rg Sg σ0 hpre
  have hl := lv_entry ([.ref (ad 21)]) (n := 3) (Nat.le_of_ble_eq_true rfl)
  rw [lg_entry_eq]
  generalize (lg_sl ([.ref (ad 21)]) ++ List.replicate (3 - (lg_sl ([.ref (ad 21)])).length) Slot.unset).toArray = ls at hl ⊢
  have hl : lv_has ls 3 [(0, .ref (ad 21))] := hl
  refine W_gen (fun R Z H locs hR hZ hH hlo => ?_)
  have hRf : R.frames = 0 := by rw [hR]; rfl
  have hRl : R.locals = 0 := by rw [hR]; rfl
  have hRc : R.cells = 0 := by rw [hR]; rfl
  have hRs : R.slots = 0 := by rw [hR]; rfl
  have hS : va_S A s.heap H locs := by rw [hH, hlo]; exact va_S.rf
  rw [← hH] at hP
  obtain ⟨Q, hQ⟩ : ∃ q : S_ → Prop, q = (post_X4_forget  ag rg Sg σ0) := ⟨_, rfl⟩
  rw [← hQ] at hv
  have hinX3 : ∀ w ∈ wsX30, w ∈ wsX4_forget := by decide +kernel
  have hinX4 : ∀ w ∈ wsX40, w ∈ wsX4_forget := by decide +kernel
  have hinX6 : ∀ w ∈ wsX60, w ∈ wsX4_forget := by decide +kernel
  refine lv_iconst (v := 0) hx hb dX4_forget_0 (by decide) ?_
  refine lv_istore_n (lv' := [(1, .int 0), (0, .ref (ad 21))]) hx hb dX4_forget_1 rfl hl (by decide) rfl (fun ls hl => ?_)
  obtain ⟨n2, hv⟩ := hv
  have lp2 : ∀ (nn2 : Nat) (x1 : Int32) (σ2 : S_) (H : Heap) (locs : List Loc) (ls : Array Slot), vl_X4_forget_2 Q nn2 x1 σ2 → va_P D vwCl (wC cy ad σ2) H → va_D A (wC cy ad σ2) → va_S A s.heap H locs → lv_has ls 3 [(0, .ref (ad 21)), (1, .int x1)] → W p l e R s m ([.ref (ad 21)] : List Value).toArray  below meth c H locs 0 0 Z (F0 m 2 ls []) := by
    intro nn2
    induction nn2 with
    | zero => intro x1 σ2 H locs ls hv; exact absurd hv id
    | succ mm2 ih2 =>
      intro x1 σ2 H locs ls hv hP hD hS hl
      refine lv_iload_n hx hb dX4_forget_2 rfl (lv_at hl 1 rfl) ?_
      refine lv_aload_n hx hb dX4_forget_3 rfl (lv_at hl 0 rfl) ?_
      refine va_get (ci := 4) (v := .ref (ad 11)) (C := RX4) (T := TX4) (N := 10) hx hb hts hinX4 hown hK hP 21 (wC_21 cy ad σ2) rfl 0 (by decide) (hts (.fieldLink RX4 30 "TaleBans$Seasons" "land" "LTaleBans$Steppe;") (List.mem_of_getElem? (i := 1) rfl)) (fun x h => h) rfl dX4_forget_4 ?_
      refine va_getN (ci := 6) (v := .int (rdI σ2 2)) (C := RX6) (T := TX6) (N := 8) hx hb hts hinX6 hown hK hP 11 (wC_11 cy ad σ2) rfl 5 (by decide) (nw_10 hN) (fun x h => h) rfl dX4_forget_7 ?_
      refine lv_icmp_ge (tgt := 73) hx hb dX4_forget_10 (by decide) (fun c9 => ?_) (fun c9 => ?_)
      · have hv := hv.1 c9
        rw [hZ]; rw [hQ] at hv
        exact W.vret hx hb hr (fun t ht hW => ⟨⟨σ2, rfl, hv, ⟨P_of ht hP, hD⟩⟩, hS.F ht⟩) hS.2.2 dX4_forget_73
      · have hv := hv.2 c9
        refine lv_iconst (v := 0) hx hb dX4_forget_13 (by decide) ?_
        refine lv_istore_n (lv' := [(2, .int 0), (0, .ref (ad 21)), (1, .int x1)]) hx hb dX4_forget_14 rfl hl (by decide) rfl (fun ls hl => ?_)
        obtain ⟨n15, hv⟩ := hv
        have lp15 : ∀ (nn15 : Nat) (x3 : Int32) (σ4 : S_) (H : Heap) (locs : List Loc) (ls : Array Slot), vl_X4_forget_15 x1 (vl_X4_forget_2 Q mm2) nn15 x3 σ4 → va_P D vwCl (wC cy ad σ4) H → va_D A (wC cy ad σ4) → va_S A s.heap H locs → lv_has ls 3 [(0, .ref (ad 21)), (1, .int x1), (2, .int x3)] → W p l e R s m ([.ref (ad 21)] : List Value).toArray  below meth c H locs 0 0 Z (F0 m 15 ls []) := by
          intro nn15
          induction nn15 with
          | zero => intro x3 σ4 H locs ls hv; exact absurd hv id
          | succ mm15 ih15 =>
            intro x3 σ4 H locs ls hv hP hD hS hl
            refine lv_iload_n hx hb dX4_forget_15 rfl (lv_at hl 2 rfl) ?_
            refine lv_aload_n hx hb dX4_forget_16 rfl (lv_at hl 0 rfl) ?_
            refine va_get (ci := 4) (v := .ref (ad 11)) (C := RX4) (T := TX4) (N := 10) hx hb hts hinX4 hown hK hP 21 (wC_21 cy ad σ4) rfl 0 (by decide) (hts (.fieldLink RX4 30 "TaleBans$Seasons" "land" "LTaleBans$Steppe;") (List.mem_of_getElem? (i := 1) rfl)) (fun x h => h) rfl dX4_forget_17 ?_
            refine va_getN (ci := 6) (v := .ref (ad (13))) (C := RX6) (T := TX6) (N := 8) hx hb hts hinX6 hown hK hP 11 (wC_11 cy ad σ4) rfl 1 (by decide) (nw_4 hN) (fun x h => h) rfl dX4_forget_20 ?_
            refine va_getN (ci := 3) (v := .int (rdI σ4 5)) (C := RX3) (T := TX3) (N := 3) hx hb hts hinX3 hown hK hP 13 (wC_13 cy ad σ4) rfl 2 (by decide) (nw_1 hN) (fun x h => h) rfl dX4_forget_23 ?_
            refine lv_icmp_ge (tgt := 67) hx hb dX4_forget_26 (by decide) (fun c8 => ?_) (fun c8 => ?_)
            · have hv := hv.1 c8
              refine lv_iinc (v := (x1 + 1)) (lv' := [(1, .int (x1 + 1)), (0, .ref (ad 21)), (2, .int x3)]) hx hb dX4_forget_67 hl (k := 1) rfl rfl (by decide) rfl (fun ls hl => ?_)
              refine lv_goto (tgt := 2) hx hb dX4_forget_70 (by decide) ?_
              exact ih2 (x1 + 1) σ4 _ _ _ hv hP hD hS (lv_sub hl [1, 0] rfl)
            · have hv := hv.2 c8
              refine lv_aload_n hx hb dX4_forget_29 rfl (lv_at hl 0 rfl) ?_
              refine va_get (ci := 4) (v := .ref (ad (25))) (C := RX4) (T := TX4) (N := 10) hx hb hts hinX4 hown hK hP 21 (wC_21 cy ad σ4) rfl 4 (by decide) (hts (.fieldLink RX4 21 "TaleBans$Seasons" "lastKnown" "[I") (List.mem_of_getElem? (i := 2) rfl)) (fun x h => h) rfl dX4_forget_30 ?_
              refine lv_iload_n hx hb dX4_forget_33 rfl (lv_at hl 1 rfl) ?_
              refine lv_bipush (v := 6) hx hb dX4_forget_34 (by decide) ?_
              refine lv_imul hx hb dX4_forget_36 ?_
              refine lv_iload_n hx hb dX4_forget_37 rfl (lv_at hl 2 rfl) ?_
              refine lv_iadd hx hb dX4_forget_38 ?_
              obtain ⟨hi, hv⟩ := hv
              refine va_iald hx hb hK hP 25 0 (wC_25 cy ad σ4) rfl hi dX4_forget_39 ?_
              refine lv_aload_n hx hb dX4_forget_40 rfl (lv_at hl 0 rfl) ?_
              refine va_get (ci := 4) (v := .int (rdI σ4 11)) (C := RX4) (T := TX4) (N := 10) hx hb hts hinX4 hown hK hP 21 (wC_21 cy ad σ4) rfl 9 (by decide) (hts (.fieldLink RX4 41 "TaleBans$Seasons" "season" "I") (List.mem_of_getElem? (i := 3) rfl)) (fun x h => h) rfl dX4_forget_41 ?_
              refine lv_icmp_ge (tgt := 61) hx hb dX4_forget_44 (by decide) (fun c7 => ?_) (fun c7 => ?_)
              · have hv := hv.1 c7
                refine lv_iinc (v := (x3 + 1)) (lv' := [(2, .int (x3 + 1)), (0, .ref (ad 21)), (1, .int x1)]) hx hb dX4_forget_61 hl (k := 2) rfl rfl (by decide) rfl (fun ls hl => ?_)
                refine lv_goto (tgt := 15) hx hb dX4_forget_64 (by decide) ?_
                exact ih15 (x3 + 1) σ4 _ _ _ hv hP hD hS (lv_sub hl [1, 2, 0] rfl)
              · have hv := hv.2 c7
                refine lv_aload_n hx hb dX4_forget_47 rfl (lv_at hl 0 rfl) ?_
                refine va_get (ci := 4) (v := .ref (ad (24))) (C := RX4) (T := TX4) (N := 10) hx hb hts hinX4 hown hK hP 21 (wC_21 cy ad σ4) rfl 3 (by decide) (hts (.fieldLink RX4 18 "TaleBans$Seasons" "known" "[I") (List.mem_of_getElem? (i := 4) rfl)) (fun x h => h) rfl dX4_forget_48 ?_
                refine lv_iload_n hx hb dX4_forget_51 rfl (lv_at hl 1 rfl) ?_
                refine lv_dup2_11 hx hb dX4_forget_52 rfl rfl ?_
                obtain ⟨hi, hv⟩ := hv
                refine va_iald hx hb hK hP 24 0 (wC_24 cy ad σ4) rfl hi dX4_forget_53 ?_
                refine lv_iconst (v := 1) hx hb dX4_forget_54 (by decide) ?_
                refine lv_iload_n hx hb dX4_forget_55 rfl (lv_at hl 2 rfl) ?_
                refine lv_ishl hx hb dX4_forget_56 ?_
                refine lv_iconst (v := (-1)) hx hb dX4_forget_57 (by decide) ?_
                refine lv_ixor hx hb dX4_forget_58 ?_
                refine lv_iand hx hb dX4_forget_59 ?_
                obtain ⟨hi, hv⟩ := hv
                refine va_iast hx hb hK hP hD hS 24 0 (wC_24 cy ad σ4) rfl hi dX4_forget_60 (fun H locs hP hD hS => ?_)
                obtain ⟨σ5, e6⟩ : ∃ y : S_, y = wr2 σ4 10 (Int32.toNatClampNeg x1) ((rdA σ4 10 (Int32.toNatClampNeg x1)) &&& ((1 <<< (x3 &&& 31)) ^^^ (-1))) := ⟨_, rfl⟩
                have hP : va_P D vwCl (wC cy ad σ5) H := by rw [e6]; exact hP
                have hD : va_D A (wC cy ad σ5) := by rw [e6]; exact hD
                have hv := hv σ5 e6
                refine lv_iinc (v := (x3 + 1)) (lv' := [(2, .int (x3 + 1)), (0, .ref (ad 21)), (1, .int x1)]) hx hb dX4_forget_61 hl (k := 2) rfl rfl (by decide) rfl (fun ls hl => ?_)
                refine lv_goto (tgt := 15) hx hb dX4_forget_64 (by decide) ?_
                exact ih15 (x3 + 1) σ5 _ _ _ hv hP hD hS (lv_sub hl [1, 2, 0] rfl)
        exact lp15 n15 0 σ2 _ _ _ hv hP hD hS (lv_sub hl [1, 2, 0] rfl)
  exact lp2 n2 0 σ0 _ _ _ hv hP hD hS (lv_sub hl [1, 0] rfl)
set_option maxHeartbeats 4000000 in
set_option maxRecDepth 100000 in
theorem wk_X4_makeMoves (l : Launch) (h_X3_at : Ct_X3_at l) (h_X8_isOneOf : Ct_X8_isOneOf l) (sp : Sp_X4_makeMoves) : Ct_X4_makeMoves l := by
  intro D cy ad A  ag rg Sg σ0  hpre
  refine Met.ofW (cc := cX4_makeMoves) (maxL := 3) (ret := none) (by decide) rfl ?_
  intro p e s m args below meth c s₁ B hml hv0
  obtain ⟨rfl, hP, hK, hD, hN⟩ := hv0
  have hx := B.exec
  have hb := B.bytes
  have hr := B.returns
  have hts := atoms_spec (ws := wsX4_makeMoves) B.pre
  have hown : s.vm.findClass RX4 = some m.cls := findClass_of_methodNamed B.named
  have hlocks := B.notSynchronized
  have hv := sp  ag rg Sg σ0 hpre
  have hl := lv_entry ([.ref (ad 21)]) (n := 3) (Nat.le_of_ble_eq_true rfl)
  rw [lg_entry_eq]
  generalize (lg_sl ([.ref (ad 21)]) ++ List.replicate (3 - (lg_sl ([.ref (ad 21)])).length) Slot.unset).toArray = ls at hl ⊢
  have hl : lv_has ls 3 [(0, .ref (ad 21))] := hl
  refine W_gen (fun R Z H locs hR hZ hH hlo => ?_)
  have hRf : R.frames = 2 := by rw [hR]; rfl
  have hRl : R.locals = 43 := by rw [hR]; rfl
  have hRc : R.cells = 0 := by rw [hR]; rfl
  have hRs : R.slots = 0 := by rw [hR]; rfl
  have hS : va_S A s.heap H locs := by rw [hH, hlo]; exact va_S.rf
  rw [← hH] at hP
  obtain ⟨Q, hQ⟩ : ∃ q : S_ → Prop, q = (post_X4_makeMoves  ag rg Sg σ0) := ⟨_, rfl⟩
  rw [← hQ] at hv
  have hinX3 : ∀ w ∈ wsX30, w ∈ wsX4_makeMoves := by decide +kernel
  have hinX4 : ∀ w ∈ wsX40, w ∈ wsX4_makeMoves := by decide +kernel
  have hinX6 : ∀ w ∈ wsX60, w ∈ wsX4_makeMoves := by decide +kernel
  refine lv_iconst (v := 0) hx hb dX4_makeMoves_0 (by decide) ?_
  refine lv_istore_n (lv' := [(1, .int 0), (0, .ref (ad 21))]) hx hb dX4_makeMoves_1 rfl hl (by decide) rfl (fun ls hl => ?_)
  obtain ⟨n2, hv⟩ := hv
  have lp2 : ∀ (nn2 : Nat) (x1 : Int32) (σ2 : S_) (H : Heap) (locs : List Loc) (ls : Array Slot), vl_X4_makeMoves_2 Q nn2 x1 σ2 → va_P D vwCl (wC cy ad σ2) H → va_D A (wC cy ad σ2) → va_S A s.heap H locs → lv_has ls 3 [(0, .ref (ad 21)), (1, .int x1)] → W p l e R s m ([.ref (ad 21)] : List Value).toArray  below meth c H locs 0 0 Z (F0 m 2 ls []) := by
    intro nn2
    induction nn2 with
    | zero => intro x1 σ2 H locs ls hv; exact absurd hv id
    | succ mm2 ih2 =>
      intro x1 σ2 H locs ls hv hP hD hS hl
      refine lv_iload_n hx hb dX4_makeMoves_2 rfl (lv_at hl 1 rfl) ?_
      refine lv_aload_n hx hb dX4_makeMoves_3 rfl (lv_at hl 0 rfl) ?_
      refine va_get (ci := 4) (v := .ref (ad 11)) (C := RX4) (T := TX4) (N := 10) hx hb hts hinX4 hown hK hP 21 (wC_21 cy ad σ2) rfl 0 (by decide) (hts (.fieldLink RX4 30 "TaleBans$Seasons" "land" "LTaleBans$Steppe;") (List.mem_of_getElem? (i := 1) rfl)) (fun x h => h) rfl dX4_makeMoves_4 ?_
      refine va_getN (ci := 6) (v := .ref (ad (15))) (C := RX6) (T := TX6) (N := 8) hx hb hts hinX6 hown hK hP 11 (wC_11 cy ad σ2) rfl 2 (by decide) (nw_6 hN) (fun x h => h) rfl dX4_makeMoves_7 ?_
      refine va_getN (ci := 3) (v := .int (rdI σ2 6)) (C := RX3) (T := TX3) (N := 3) hx hb hts hinX3 hown hK hP 15 (wC_15 cy ad σ2) rfl 2 (by decide) (nw_1 hN) (fun x h => h) rfl dX4_makeMoves_10 ?_
      refine lv_icmp_ge (tgt := 81) hx hb dX4_makeMoves_13 (by decide) (fun c7 => ?_) (fun c7 => ?_)
      · have hv := hv.1 c7
        rw [hZ]; rw [hQ] at hv
        exact W.vret hx hb hr (fun t ht hW => ⟨⟨σ2, rfl, hv, ⟨P_of ht hP, hD⟩⟩, hS.F ht⟩) hS.2.2 dX4_makeMoves_81
      · have hv := hv.2 c7
        refine lv_aload_n hx hb dX4_makeMoves_16 rfl (lv_at hl 0 rfl) ?_
        refine va_get (ci := 4) (v := .ref (ad 11)) (C := RX4) (T := TX4) (N := 10) hx hb hts hinX4 hown hK hP 21 (wC_21 cy ad σ2) rfl 0 (by decide) (hts (.fieldLink RX4 30 "TaleBans$Seasons" "land" "LTaleBans$Steppe;") (List.mem_of_getElem? (i := 1) rfl)) (fun x h => h) rfl dX4_makeMoves_17 ?_
        refine va_getN (ci := 6) (v := .ref (ad (15))) (C := RX6) (T := TX6) (N := 8) hx hb hts hinX6 hown hK hP 11 (wC_11 cy ad σ2) rfl 2 (by decide) (nw_6 hN) (fun x h => h) rfl dX4_makeMoves_20 ?_
        refine lv_iload_n hx hb dX4_makeMoves_23 rfl (lv_at hl 1 rfl) ?_
        refine lv_iconst (v := 1) hx hb dX4_makeMoves_24 (by decide) ?_
        obtain ⟨hp, hv⟩ := hv
        refine k_read_i (w := wC cy ad) (va_runVN (As := [.int x1, .int 1]) (rest := []) ⟨hx, hb, hml, hown, hts⟩ (h_X3_at D cy ad A 1 x1 1 σ2 (show 1 < 4 by decide) hp) ⟨va_cnB 2 hts gX4_makeMoves_X3_at_n93 rfl rfl rfl (nwm_48 hN) (hts (.initialized RX3) (List.mem_of_getElem? (i := 5) rfl)) (by decide +kernel) ⟨le_R hRf (Nat.le_of_ble_eq_true rfl), le_R hRl (Nat.le_of_ble_eq_true rfl)⟩, (hts (.instanceMethod yX3_at) (List.mem_of_getElem? (i := 4) rfl)), (hts (.selects RX3 yX3_at yX3_at) (List.mem_of_getElem? (i := 6) rfl))⟩ ⟨(fun a U g mk q => ⟨q.1, q.2.blind⟩), va_recv hK hP (ci := 3) (q0 := 15) rfl (wC_15 cy ad σ2), (fun U hU hW => ⟨rfl, WdC.pre hP hK hD hN hU hW⟩)⟩ rfl rfl hl.1 rfl (lv_room (Nat.le_of_ble_eq_true rfl)) dX4_makeMoves_25 ⟨le_R hRc (Nat.le_refl 0), le_R hRs (Nat.le_refl 0)⟩) hS (fun r H locs hr1 hP hS => ?_)
        subst hr1
        refine lv_aload_n hx hb dX4_makeMoves_28 rfl (lv_at hl 0 rfl) ?_
        refine va_get (ci := 4) (v := .int (rdI σ2 11)) (C := RX4) (T := TX4) (N := 10) hx hb hts hinX4 hown hK hP 21 (wC_21 cy ad σ2) rfl 9 (by decide) (hts (.fieldLink RX4 41 "TaleBans$Seasons" "season" "I") (List.mem_of_getElem? (i := 2) rfl)) (fun x h => h) rfl dX4_makeMoves_29 ?_
        refine lv_icmp_ne (tgt := 75) hx hb dX4_makeMoves_32 (by decide) (fun c6 => ?_) (fun c6 => ?_)
        · have hv := hv.1 c6
          refine lv_iinc (v := (x1 + 1)) (lv' := [(1, .int (x1 + 1)), (0, .ref (ad 21))]) hx hb dX4_makeMoves_75 hl (k := 1) rfl rfl (by decide) rfl (fun ls hl => ?_)
          refine lv_goto (tgt := 2) hx hb dX4_makeMoves_78 (by decide) ?_
          exact ih2 (x1 + 1) σ2 _ _ _ hv hP hD hS (lv_sub hl [1, 0] rfl)
        · have hv := hv.2 c6
          refine lv_aload_n hx hb dX4_makeMoves_35 rfl (lv_at hl 0 rfl) ?_
          refine va_get (ci := 4) (v := .ref (ad 11)) (C := RX4) (T := TX4) (N := 10) hx hb hts hinX4 hown hK hP 21 (wC_21 cy ad σ2) rfl 0 (by decide) (hts (.fieldLink RX4 30 "TaleBans$Seasons" "land" "LTaleBans$Steppe;") (List.mem_of_getElem? (i := 1) rfl)) (fun x h => h) rfl dX4_makeMoves_36 ?_
          refine va_getN (ci := 6) (v := .ref (ad (15))) (C := RX6) (T := TX6) (N := 8) hx hb hts hinX6 hown hK hP 11 (wC_11 cy ad σ2) rfl 2 (by decide) (nw_6 hN) (fun x h => h) rfl dX4_makeMoves_39 ?_
          refine lv_iload_n hx hb dX4_makeMoves_42 rfl (lv_at hl 1 rfl) ?_
          refine lv_iconst (v := 0) hx hb dX4_makeMoves_43 (by decide) ?_
          obtain ⟨hp, hv⟩ := hv
          refine k_read_i (w := wC cy ad) (va_runVN (As := [.int x1, .int 0]) (rest := []) ⟨hx, hb, hml, hown, hts⟩ (h_X3_at D cy ad A 1 x1 0 σ2 (show 1 < 4 by decide) hp) ⟨va_cnB 2 hts gX4_makeMoves_X3_at_n93 rfl rfl rfl (nwm_48 hN) (hts (.initialized RX3) (List.mem_of_getElem? (i := 5) rfl)) (by decide +kernel) ⟨le_R hRf (Nat.le_of_ble_eq_true rfl), le_R hRl (Nat.le_of_ble_eq_true rfl)⟩, (hts (.instanceMethod yX3_at) (List.mem_of_getElem? (i := 4) rfl)), (hts (.selects RX3 yX3_at yX3_at) (List.mem_of_getElem? (i := 6) rfl))⟩ ⟨(fun a U g mk q => ⟨q.1, q.2.blind⟩), va_recv hK hP (ci := 3) (q0 := 15) rfl (wC_15 cy ad σ2), (fun U hU hW => ⟨rfl, WdC.pre hP hK hD hN hU hW⟩)⟩ rfl rfl hl.1 rfl (lv_room (Nat.le_of_ble_eq_true rfl)) dX4_makeMoves_44 ⟨le_R hRc (Nat.le_refl 0), le_R hRs (Nat.le_refl 0)⟩) hS (fun r H locs hr1 hP hS => ?_)
          subst hr1
          refine lv_istore_n (lv' := [(2, .int (fn_X3_at 1 x1 0 σ2)), (0, .ref (ad 21)), (1, .int x1)]) hx hb dX4_makeMoves_47 rfl hl (by decide) rfl (fun ls hl => ?_)
          refine lv_iload_n hx hb dX4_makeMoves_48 rfl (lv_at hl 0 rfl) ?_
          refine lv_bipush (v := 6) hx hb dX4_makeMoves_49 (by decide) ?_
          refine k_pure_i (va_runSN (As := [.int (fn_X3_at 1 x1 0 σ2), .int 6]) (rest := []) ⟨hx, hb, hml, hown, hts⟩ (h_X8_isOneOf (fn_X3_at 1 x1 0 σ2) 6) ⟨va_cnB 2 hts gX4_makeMoves_X8_isOneOf_n97 rfl rfl rfl (nwm_49 hN) (hts (.initialized RX8) (List.mem_of_getElem? (i := 15) rfl)) (by decide +kernel) ⟨le_R hRf (Nat.le_of_ble_eq_true rfl), le_R hRl (Nat.le_of_ble_eq_true rfl)⟩, (hts (.static yX8_isOneOf) (List.mem_of_getElem? (i := 14) rfl)), trivial⟩ ⟨(fun a U g mk q => ⟨q.1, trivial⟩), (fun U hU hW => ⟨rfl, trivial⟩)⟩ rfl rfl hl.1 rfl (lv_room (Nat.le_of_ble_eq_true rfl)) dX4_makeMoves_51 ⟨le_R hRc (Nat.le_refl 0), le_R hRs (Nat.le_refl 0)⟩) hS hP (fun r H locs hr1 hP hS => ?_)
          subst hr1
          refine lv_if_eq (tgt := 75) hx hb dX4_makeMoves_54 (by decide) (fun c5 => ?_) (fun c5 => ?_)
          · have hv := hv.1 c5
            refine lv_iinc (v := (x1 + 1)) (lv' := [(1, .int (x1 + 1)), (2, .int (fn_X3_at 1 x1 0 σ2)), (0, .ref (ad 21))]) hx hb dX4_makeMoves_75 hl (k := 2) rfl rfl (by decide) rfl (fun ls hl => ?_)
            refine lv_goto (tgt := 2) hx hb dX4_makeMoves_78 (by decide) ?_
            exact ih2 (x1 + 1) σ2 _ _ _ hv hP hD hS (lv_sub hl [2, 0] rfl)
          · have hv := hv.2 c5
            refine lv_aload_n hx hb dX4_makeMoves_57 rfl (lv_at hl 1 rfl) ?_
            refine va_get (ci := 4) (v := .ref (ad (22))) (C := RX4) (T := TX4) (N := 10) hx hb hts hinX4 hown hK hP 21 (wC_21 cy ad σ2) rfl 1 (by decide) (hts (.fieldLink RX4 9 "TaleBans$Seasons" "places" "[I") (List.mem_of_getElem? (i := 3) rfl)) (fun x h => h) rfl dX4_makeMoves_58 ?_
            refine lv_iload_n hx hb dX4_makeMoves_61 rfl (lv_at hl 0 rfl) ?_
            refine lv_aload_n hx hb dX4_makeMoves_62 rfl (lv_at hl 1 rfl) ?_
            refine va_get (ci := 4) (v := .ref (ad 11)) (C := RX4) (T := TX4) (N := 10) hx hb hts hinX4 hown hK hP 21 (wC_21 cy ad σ2) rfl 0 (by decide) (hts (.fieldLink RX4 30 "TaleBans$Seasons" "land" "LTaleBans$Steppe;") (List.mem_of_getElem? (i := 1) rfl)) (fun x h => h) rfl dX4_makeMoves_63 ?_
            refine va_getN (ci := 6) (v := .ref (ad (15))) (C := RX6) (T := TX6) (N := 8) hx hb hts hinX6 hown hK hP 11 (wC_11 cy ad σ2) rfl 2 (by decide) (nw_6 hN) (fun x h => h) rfl dX4_makeMoves_66 ?_
            refine lv_iload_n hx hb dX4_makeMoves_69 rfl (lv_at hl 2 rfl) ?_
            refine lv_iconst (v := 2) hx hb dX4_makeMoves_70 (by decide) ?_
            obtain ⟨hp, hv⟩ := hv
            refine k_read_i (w := wC cy ad) (va_runVN (As := [.int x1, .int 2]) (rest := [.int (fn_X3_at 1 x1 0 σ2), .ref (ad (22))]) ⟨hx, hb, hml, hown, hts⟩ (h_X3_at D cy ad A 1 x1 2 σ2 (show 1 < 4 by decide) hp) ⟨va_cnB 2 hts gX4_makeMoves_X3_at_n93 rfl rfl rfl (nwm_48 hN) (hts (.initialized RX3) (List.mem_of_getElem? (i := 5) rfl)) (by decide +kernel) ⟨le_R hRf (Nat.le_of_ble_eq_true rfl), le_R hRl (Nat.le_of_ble_eq_true rfl)⟩, (hts (.instanceMethod yX3_at) (List.mem_of_getElem? (i := 4) rfl)), (hts (.selects RX3 yX3_at yX3_at) (List.mem_of_getElem? (i := 6) rfl))⟩ ⟨(fun a U g mk q => ⟨q.1, q.2.blind⟩), va_recv hK hP (ci := 3) (q0 := 15) rfl (wC_15 cy ad σ2), (fun U hU hW => ⟨rfl, WdC.pre hP hK hD hN hU hW⟩)⟩ rfl rfl hl.1 rfl (lv_room (Nat.le_of_ble_eq_true rfl)) dX4_makeMoves_71 ⟨le_R hRc (Nat.le_refl 0), le_R hRs (Nat.le_refl 0)⟩) hS (fun r H locs hr1 hP hS => ?_)
            subst hr1
            obtain ⟨hi, hv⟩ := hv
            refine va_iast hx hb hK hP hD hS 22 0 (wC_22 cy ad σ2) rfl hi dX4_makeMoves_74 (fun H locs hP hD hS => ?_)
            obtain ⟨σ3, e4⟩ : ∃ y : S_, y = wr2 σ2 8 (Int32.toNatClampNeg (fn_X3_at 1 x1 0 σ2)) (fn_X3_at 1 x1 2 σ2) := ⟨_, rfl⟩
            have hP : va_P D vwCl (wC cy ad σ3) H := by rw [e4]; exact hP
            have hD : va_D A (wC cy ad σ3) := by rw [e4]; exact hD
            have hv := hv σ3 e4
            refine lv_iinc (v := (x1 + 1)) (lv' := [(1, .int (x1 + 1)), (2, .int (fn_X3_at 1 x1 0 σ2)), (0, .ref (ad 21))]) hx hb dX4_makeMoves_75 hl (k := 2) rfl rfl (by decide) rfl (fun ls hl => ?_)
            refine lv_goto (tgt := 2) hx hb dX4_makeMoves_78 (by decide) ?_
            exact ih2 (x1 + 1) σ3 _ _ _ hv hP hD hS (lv_sub hl [2, 0] rfl)
  exact lp2 n2 0 σ0 _ _ _ hv hP hD hS (lv_sub hl [1, 0] rfl)
set_option maxHeartbeats 4000000 in
set_option maxRecDepth 100000 in
theorem wk_X4_bringTales (l : Launch) (h_X3_at : Ct_X3_at l) (h_X4_hear : Ct_X4_hear l) (sp : Sp_X4_bringTales) : Ct_X4_bringTales l := by
  intro D cy ad A  ag rg Sg σ0  hpre
  refine Met.ofW (cc := cX4_bringTales) (maxL := 2) (ret := none) (by decide) rfl ?_
  intro p e s m args below meth c s₁ B hml hv0
  obtain ⟨rfl, hP, hK, hD, hN⟩ := hv0
  have hx := B.exec
  have hb := B.bytes
  have hr := B.returns
  have hts := atoms_spec (ws := wsX4_bringTales) B.pre
  have hown : s.vm.findClass RX4 = some m.cls := findClass_of_methodNamed B.named
  have hlocks := B.notSynchronized
  have hv := sp  ag rg Sg σ0 hpre
  have hl := lv_entry ([.ref (ad 21)]) (n := 2) (Nat.le_of_ble_eq_true rfl)
  rw [lg_entry_eq]
  generalize (lg_sl ([.ref (ad 21)]) ++ List.replicate (2 - (lg_sl ([.ref (ad 21)])).length) Slot.unset).toArray = ls at hl ⊢
  have hl : lv_has ls 2 [(0, .ref (ad 21))] := hl
  refine W_gen (fun R Z H locs hR hZ hH hlo => ?_)
  have hRf : R.frames = 2 := by rw [hR]; rfl
  have hRl : R.locals = 43 := by rw [hR]; rfl
  have hRc : R.cells = 0 := by rw [hR]; rfl
  have hRs : R.slots = 0 := by rw [hR]; rfl
  have hS : va_S A s.heap H locs := by rw [hH, hlo]; exact va_S.rf
  rw [← hH] at hP
  obtain ⟨Q, hQ⟩ : ∃ q : S_ → Prop, q = (post_X4_bringTales  ag rg Sg σ0) := ⟨_, rfl⟩
  rw [← hQ] at hv
  have hinX3 : ∀ w ∈ wsX30, w ∈ wsX4_bringTales := by decide +kernel
  have hinX4 : ∀ w ∈ wsX40, w ∈ wsX4_bringTales := by decide +kernel
  have hinX6 : ∀ w ∈ wsX60, w ∈ wsX4_bringTales := by decide +kernel
  refine lv_iconst (v := 0) hx hb dX4_bringTales_0 (by decide) ?_
  refine lv_istore_n (lv' := [(1, .int 0), (0, .ref (ad 21))]) hx hb dX4_bringTales_1 rfl hl (by decide) rfl (fun ls hl => ?_)
  obtain ⟨n2, hv⟩ := hv
  have lp2 : ∀ (nn2 : Nat) (x1 : Int32) (σ2 : S_) (H : Heap) (locs : List Loc) (ls : Array Slot), vl_X4_bringTales_2 Q nn2 x1 σ2 → va_P D vwCl (wC cy ad σ2) H → va_D A (wC cy ad σ2) → va_S A s.heap H locs → lv_has ls 2 [(0, .ref (ad 21)), (1, .int x1)] → W p l e R s m ([.ref (ad 21)] : List Value).toArray  below meth c H locs 0 0 Z (F0 m 2 ls []) := by
    intro nn2
    induction nn2 with
    | zero => intro x1 σ2 H locs ls hv; exact absurd hv id
    | succ mm2 ih2 =>
      intro x1 σ2 H locs ls hv hP hD hS hl
      refine lv_iload_n hx hb dX4_bringTales_2 rfl (lv_at hl 1 rfl) ?_
      refine lv_aload_n hx hb dX4_bringTales_3 rfl (lv_at hl 0 rfl) ?_
      refine va_get (ci := 4) (v := .ref (ad 11)) (C := RX4) (T := TX4) (N := 10) hx hb hts hinX4 hown hK hP 21 (wC_21 cy ad σ2) rfl 0 (by decide) (hts (.fieldLink RX4 30 "TaleBans$Seasons" "land" "LTaleBans$Steppe;") (List.mem_of_getElem? (i := 1) rfl)) (fun x h => h) rfl dX4_bringTales_4 ?_
      refine va_getN (ci := 6) (v := .ref (ad (13))) (C := RX6) (T := TX6) (N := 8) hx hb hts hinX6 hown hK hP 11 (wC_11 cy ad σ2) rfl 1 (by decide) (nw_4 hN) (fun x h => h) rfl dX4_bringTales_7 ?_
      refine va_getN (ci := 3) (v := .int (rdI σ2 5)) (C := RX3) (T := TX3) (N := 3) hx hb hts hinX3 hown hK hP 13 (wC_13 cy ad σ2) rfl 2 (by decide) (nw_1 hN) (fun x h => h) rfl dX4_bringTales_10 ?_
      refine lv_icmp_ge (tgt := 58) hx hb dX4_bringTales_13 (by decide) (fun c10 => ?_) (fun c10 => ?_)
      · have hv := hv.1 c10
        rw [hZ]; rw [hQ] at hv
        exact W.vret hx hb hr (fun t ht hW => ⟨⟨σ2, rfl, hv, ⟨P_of ht hP, hD⟩⟩, hS.F ht⟩) hS.2.2 dX4_bringTales_58
      · have hv := hv.2 c10
        refine lv_aload_n hx hb dX4_bringTales_16 rfl (lv_at hl 0 rfl) ?_
        refine va_get (ci := 4) (v := .ref (ad 11)) (C := RX4) (T := TX4) (N := 10) hx hb hts hinX4 hown hK hP 21 (wC_21 cy ad σ2) rfl 0 (by decide) (hts (.fieldLink RX4 30 "TaleBans$Seasons" "land" "LTaleBans$Steppe;") (List.mem_of_getElem? (i := 1) rfl)) (fun x h => h) rfl dX4_bringTales_17 ?_
        refine va_getN (ci := 6) (v := .ref (ad (13))) (C := RX6) (T := TX6) (N := 8) hx hb hts hinX6 hown hK hP 11 (wC_11 cy ad σ2) rfl 1 (by decide) (nw_4 hN) (fun x h => h) rfl dX4_bringTales_20 ?_
        refine lv_iload_n hx hb dX4_bringTales_23 rfl (lv_at hl 1 rfl) ?_
        refine lv_iconst (v := 1) hx hb dX4_bringTales_24 (by decide) ?_
        obtain ⟨hp, hv⟩ := hv
        refine k_read_i (w := wC cy ad) (va_runVN (As := [.int x1, .int 1]) (rest := []) ⟨hx, hb, hml, hown, hts⟩ (h_X3_at D cy ad A 0 x1 1 σ2 (show 0 < 4 by decide) hp) ⟨va_cnB 2 hts gX4_bringTales_X3_at_n93 rfl rfl rfl (nwm_48 hN) (hts (.initialized RX3) (List.mem_of_getElem? (i := 4) rfl)) (by decide +kernel) ⟨le_R hRf (Nat.le_of_ble_eq_true rfl), le_R hRl (Nat.le_of_ble_eq_true rfl)⟩, (hts (.instanceMethod yX3_at) (List.mem_of_getElem? (i := 3) rfl)), (hts (.selects RX3 yX3_at yX3_at) (List.mem_of_getElem? (i := 5) rfl))⟩ ⟨(fun a U g mk q => ⟨q.1, q.2.blind⟩), va_recv hK hP (ci := 3) (q0 := 13) rfl (wC_13 cy ad σ2), (fun U hU hW => ⟨rfl, WdC.pre hP hK hD hN hU hW⟩)⟩ rfl rfl hl.1 rfl (lv_room (Nat.le_of_ble_eq_true rfl)) dX4_bringTales_25 ⟨le_R hRc (Nat.le_refl 0), le_R hRs (Nat.le_refl 0)⟩) hS (fun r H locs hr1 hP hS => ?_)
        subst hr1
        refine lv_aload_n hx hb dX4_bringTales_28 rfl (lv_at hl 0 rfl) ?_
        refine va_get (ci := 4) (v := .int (rdI σ2 11)) (C := RX4) (T := TX4) (N := 10) hx hb hts hinX4 hown hK hP 21 (wC_21 cy ad σ2) rfl 9 (by decide) (hts (.fieldLink RX4 41 "TaleBans$Seasons" "season" "I") (List.mem_of_getElem? (i := 2) rfl)) (fun x h => h) rfl dX4_bringTales_29 ?_
        refine lv_icmp_ne (tgt := 52) hx hb dX4_bringTales_32 (by decide) (fun c9 => ?_) (fun c9 => ?_)
        · have hv := hv.1 c9
          refine lv_iinc (v := (x1 + 1)) (lv' := [(1, .int (x1 + 1)), (0, .ref (ad 21))]) hx hb dX4_bringTales_52 hl (k := 1) rfl rfl (by decide) rfl (fun ls hl => ?_)
          refine lv_goto (tgt := 2) hx hb dX4_bringTales_55 (by decide) ?_
          exact ih2 (x1 + 1) σ2 _ _ _ hv hP hD hS (lv_sub hl [1, 0] rfl)
        · have hv := hv.2 c9
          refine lv_aload_n hx hb dX4_bringTales_35 rfl (lv_at hl 0 rfl) ?_
          refine lv_aload_n hx hb dX4_bringTales_36 rfl (lv_at hl 0 rfl) ?_
          refine va_get (ci := 4) (v := .ref (ad 11)) (C := RX4) (T := TX4) (N := 10) hx hb hts hinX4 hown hK hP 21 (wC_21 cy ad σ2) rfl 0 (by decide) (hts (.fieldLink RX4 30 "TaleBans$Seasons" "land" "LTaleBans$Steppe;") (List.mem_of_getElem? (i := 1) rfl)) (fun x h => h) rfl dX4_bringTales_37 ?_
          refine va_getN (ci := 6) (v := .ref (ad (13))) (C := RX6) (T := TX6) (N := 8) hx hb hts hinX6 hown hK hP 11 (wC_11 cy ad σ2) rfl 1 (by decide) (nw_4 hN) (fun x h => h) rfl dX4_bringTales_40 ?_
          refine lv_iload_n hx hb dX4_bringTales_43 rfl (lv_at hl 1 rfl) ?_
          refine lv_iconst (v := 0) hx hb dX4_bringTales_44 (by decide) ?_
          obtain ⟨hp, hv⟩ := hv
          refine k_read_i (w := wC cy ad) (va_runVN (As := [.int x1, .int 0]) (rest := [.ref (ad 21)]) ⟨hx, hb, hml, hown, hts⟩ (h_X3_at D cy ad A 0 x1 0 σ2 (show 0 < 4 by decide) hp) ⟨va_cnB 2 hts gX4_bringTales_X3_at_n93 rfl rfl rfl (nwm_48 hN) (hts (.initialized RX3) (List.mem_of_getElem? (i := 4) rfl)) (by decide +kernel) ⟨le_R hRf (Nat.le_of_ble_eq_true rfl), le_R hRl (Nat.le_of_ble_eq_true rfl)⟩, (hts (.instanceMethod yX3_at) (List.mem_of_getElem? (i := 3) rfl)), (hts (.selects RX3 yX3_at yX3_at) (List.mem_of_getElem? (i := 5) rfl))⟩ ⟨(fun a U g mk q => ⟨q.1, q.2.blind⟩), va_recv hK hP (ci := 3) (q0 := 13) rfl (wC_13 cy ad σ2), (fun U hU hW => ⟨rfl, WdC.pre hP hK hD hN hU hW⟩)⟩ rfl rfl hl.1 rfl (lv_room (Nat.le_of_ble_eq_true rfl)) dX4_bringTales_45 ⟨le_R hRc (Nat.le_refl 0), le_R hRs (Nat.le_refl 0)⟩) hS (fun r H locs hr1 hP hS => ?_)
          subst hr1
          refine lv_iload_n hx hb dX4_bringTales_48 rfl (lv_at hl 1 rfl) ?_
          obtain ⟨g3, g4, g5, g6, g7, hv⟩ := hv
          obtain ⟨hp, hv⟩ := hv
          refine k_rel_v (w := wC cy ad) (va_runV (As := [.int (fn_X3_at 0 x1 0 σ2), .int x1]) (rest := []) ⟨hx, hb, hml, hown, hts⟩ (h_X4_hear D cy ad A (fn_X3_at 0 x1 0 σ2) x1 g3 g4 g5 g6 g7 σ2 hp) (cwV 2 hts gX4_bringTales_X4_hear rfl rfl rfl (by decide +kernel) ⟨le_R hRf (Nat.le_of_ble_eq_true rfl), le_R hRl (Nat.le_of_ble_eq_true rfl)⟩) ⟨(fun a U g mk q => ⟨q.1, q.2.blind⟩), va_recv hK hP (ci := 4) (q0 := 21) rfl (wC_21 cy ad σ2), (fun U hU hW => ⟨rfl, WdC.pre hP hK hD hN hU hW⟩)⟩ rfl rfl hl.1 rfl (lv_room (Nat.le_of_ble_eq_true rfl)) dX4_bringTales_49 ⟨le_R hRc (Nat.le_refl 0), le_R hRs (Nat.le_refl 0)⟩) hS (fun σ8 H locs hr1 hP hD hS => ?_)
          have hv := hv σ8 hr1
          refine lv_iinc (v := (x1 + 1)) (lv' := [(1, .int (x1 + 1)), (0, .ref (ad 21))]) hx hb dX4_bringTales_52 hl (k := 1) rfl rfl (by decide) rfl (fun ls hl => ?_)
          refine lv_goto (tgt := 2) hx hb dX4_bringTales_55 (by decide) ?_
          exact ih2 (x1 + 1) σ8 _ _ _ hv hP hD hS (lv_sub hl [1, 0] rfl)
  exact lp2 n2 0 σ0 _ _ _ hv hP hD hS (lv_sub hl [1, 0] rfl)
set_option maxHeartbeats 4000000 in
set_option maxRecDepth 100000 in
theorem wk_X4_pass (l : Launch) (h_X4_bringTales : Ct_X4_bringTales l) (h_X4_forget : Ct_X4_forget l) (h_X4_makeMoves : Ct_X4_makeMoves l) (h_X4_tellAt : Ct_X4_tellAt l) (sp : Sp_X4_pass) : Ct_X4_pass l := by
  intro D cy ad A  ag rg Sg σ0  hpre
  refine Met.ofW (cc := cX4_pass) (maxL := 2) (ret := none) (by decide) rfl ?_
  intro p e s m args below meth c s₁ B hml hv0
  obtain ⟨rfl, hP, hK, hD, hN⟩ := hv0
  have hx := B.exec
  have hb := B.bytes
  have hr := B.returns
  have hts := atoms_spec (ws := wsX4_pass) B.pre
  have hown : s.vm.findClass RX4 = some m.cls := findClass_of_methodNamed B.named
  have hlocks := B.notSynchronized
  have hv := sp  ag rg Sg σ0 hpre
  have hl := lv_entry ([.ref (ad 21)]) (n := 2) (Nat.le_of_ble_eq_true rfl)
  rw [lg_entry_eq]
  generalize (lg_sl ([.ref (ad 21)]) ++ List.replicate (2 - (lg_sl ([.ref (ad 21)])).length) Slot.unset).toArray = ls at hl ⊢
  have hl : lv_has ls 2 [(0, .ref (ad 21))] := hl
  refine W_gen (fun R Z H locs hR hZ hH hlo => ?_)
  have hRf : R.frames = 3 := by rw [hR]; rfl
  have hRl : R.locals = 70 := by rw [hR]; rfl
  have hRc : R.cells = 0 := by rw [hR]; rfl
  have hRs : R.slots = 0 := by rw [hR]; rfl
  have hS : va_S A s.heap H locs := by rw [hH, hlo]; exact va_S.rf
  rw [← hH] at hP
  obtain ⟨Q, hQ⟩ : ∃ q : S_ → Prop, q = (post_X4_pass  ag rg Sg σ0) := ⟨_, rfl⟩
  rw [← hQ] at hv
  have hinX4 : ∀ w ∈ wsX40, w ∈ wsX4_pass := by decide +kernel
  refine lv_aload_n hx hb dX4_pass_0 rfl (lv_at hl 0 rfl) ?_
  refine lv_dup hx hb dX4_pass_1 rfl ?_
  refine va_get (ci := 4) (v := .int (rdI σ0 11)) (C := RX4) (T := TX4) (N := 10) hx hb hts hinX4 hown hK hP 21 (wC_21 cy ad σ0) rfl 9 (by decide) (hts (.fieldLink RX4 41 "TaleBans$Seasons" "season" "I") (List.mem_of_getElem? (i := 1) rfl)) (fun x h => h) rfl dX4_pass_2 ?_
  refine lv_iconst (v := 1) hx hb dX4_pass_5 (by decide) ?_
  refine lv_iadd hx hb dX4_pass_6 ?_
  refine va_put (ci := 4) (v := .int ((rdI σ0 11) + 1)) (ty := .int) (C := RX4) (T := TX4) (N := 10) hx hb hts hinX4 tyX4 tyX4_ok nmX4 hown hK hP hD hS 21 (wC_21 cy ad σ0) rfl 9 (by decide) (hts (.fieldLink RX4 41 "TaleBans$Seasons" "season" "I") (List.mem_of_getElem? (i := 1) rfl)) (fun x h => h) rfl (by decide +kernel) rfl rfl (Nat.le_of_ble_eq_true rfl) dX4_pass_7 (fun H locs hP hD hS => ?_)
  obtain ⟨σ1, e2⟩ : ∃ y : S_, y = wrI σ0 11 ((rdI σ0 11) + 1) := ⟨_, rfl⟩
  have hP : va_P D vwCl (wC cy ad σ1) H := by rw [e2]; exact hP
  have hD : va_D A (wC cy ad σ1) := by rw [e2]; exact hD
  have hv := hv σ1 e2
  refine lv_aload_n hx hb dX4_pass_10 rfl (lv_at hl 0 rfl) ?_
  obtain ⟨g3, g4, g5, hv⟩ := hv
  obtain ⟨hp, hv⟩ := hv
  refine k_rel_v (w := wC cy ad) (va_runV (As := []) (rest := []) ⟨hx, hb, hml, hown, hts⟩ (h_X4_forget D cy ad A g3 g4 g5 σ1 hp) (cwV 0 hts gX4_pass_X4_forget rfl rfl rfl (by decide +kernel) ⟨le_R hRf (Nat.le_of_ble_eq_true rfl), le_R hRl (Nat.le_of_ble_eq_true rfl)⟩) ⟨(fun a U g mk q => ⟨q.1, q.2.blind⟩), va_recv hK hP (ci := 4) (q0 := 21) rfl (wC_21 cy ad σ1), (fun U hU hW => ⟨rfl, WdC.pre hP hK hD hN hU hW⟩)⟩ rfl rfl hl.1 rfl (lv_room (Nat.le_of_ble_eq_true rfl)) dX4_pass_11 ⟨le_R hRc (Nat.le_refl 0), le_R hRs (Nat.le_refl 0)⟩) hS (fun σ6 H locs hr1 hP hD hS => ?_)
  have hv := hv σ6 hr1
  refine lv_aload_n hx hb dX4_pass_14 rfl (lv_at hl 0 rfl) ?_
  obtain ⟨g7, g8, g9, hv⟩ := hv
  obtain ⟨hp, hv⟩ := hv
  refine k_rel_v (w := wC cy ad) (va_runV (As := []) (rest := []) ⟨hx, hb, hml, hown, hts⟩ (h_X4_makeMoves D cy ad A g7 g8 g9 σ6 hp) (cwV 0 hts gX4_pass_X4_makeMoves rfl rfl rfl (by decide +kernel) ⟨le_R hRf (Nat.le_of_ble_eq_true rfl), le_R hRl (Nat.le_of_ble_eq_true rfl)⟩) ⟨(fun a U g mk q => ⟨q.1, q.2.blind⟩), va_recv hK hP (ci := 4) (q0 := 21) rfl (wC_21 cy ad σ6), (fun U hU hW => ⟨rfl, WdC.pre hP hK hD hN hU hW⟩)⟩ rfl rfl hl.1 rfl (lv_room (Nat.le_of_ble_eq_true rfl)) dX4_pass_15 ⟨le_R hRc (Nat.le_refl 0), le_R hRs (Nat.le_refl 0)⟩) hS (fun σ10 H locs hr1 hP hD hS => ?_)
  have hv := hv σ10 hr1
  refine lv_aload_n hx hb dX4_pass_18 rfl (lv_at hl 0 rfl) ?_
  obtain ⟨g11, g12, g13, hv⟩ := hv
  obtain ⟨hp, hv⟩ := hv
  refine k_rel_v (w := wC cy ad) (va_runV (As := []) (rest := []) ⟨hx, hb, hml, hown, hts⟩ (h_X4_bringTales D cy ad A g11 g12 g13 σ10 hp) (cwV 0 hts gX4_pass_X4_bringTales rfl rfl rfl (by decide +kernel) ⟨le_R hRf (Nat.le_of_ble_eq_true rfl), le_R hRl (Nat.le_of_ble_eq_true rfl)⟩) ⟨(fun a U g mk q => ⟨q.1, q.2.blind⟩), va_recv hK hP (ci := 4) (q0 := 21) rfl (wC_21 cy ad σ10), (fun U hU hW => ⟨rfl, WdC.pre hP hK hD hN hU hW⟩)⟩ rfl rfl hl.1 rfl (lv_room (Nat.le_of_ble_eq_true rfl)) dX4_pass_19 ⟨le_R hRc (Nat.le_refl 0), le_R hRs (Nat.le_refl 0)⟩) hS (fun σ14 H locs hr1 hP hD hS => ?_)
  have hv := hv σ14 hr1
  refine lv_iconst (v := 0) hx hb dX4_pass_22 (by decide) ?_
  refine lv_istore_n (lv' := [(1, .int 0), (0, .ref (ad 21))]) hx hb dX4_pass_23 rfl hl (by decide) rfl (fun ls hl => ?_)
  obtain ⟨n24, hv⟩ := hv
  have lp24 : ∀ (nn24 : Nat) (x15 : Int32) (σ16 : S_) (H : Heap) (locs : List Loc) (ls : Array Slot), vl_X4_pass_24 Q nn24 x15 σ16 → va_P D vwCl (wC cy ad σ16) H → va_D A (wC cy ad σ16) → va_S A s.heap H locs → lv_has ls 2 [(0, .ref (ad 21)), (1, .int x15)] → W p l e R s m ([.ref (ad 21)] : List Value).toArray  below meth c H locs 0 0 Z (F0 m 24 ls []) := by
    intro nn24
    induction nn24 with
    | zero => intro x15 σ16 H locs ls hv; exact absurd hv id
    | succ mm24 ih24 =>
      intro x15 σ16 H locs ls hv hP hD hS hl
      refine lv_iload_n hx hb dX4_pass_24 rfl (lv_at hl 1 rfl) ?_
      refine lv_iconst (v := 3) hx hb dX4_pass_25 (by decide) ?_
      refine lv_icmp_ge (tgt := 40) hx hb dX4_pass_26 (by decide) (fun c22 => ?_) (fun c22 => ?_)
      · have hv := hv.1 c22
        rw [hZ]; rw [hQ] at hv
        exact W.vret hx hb hr (fun t ht hW => ⟨⟨σ16, rfl, hv, ⟨P_of ht hP, hD⟩⟩, hS.F ht⟩) hS.2.2 dX4_pass_40
      · have hv := hv.2 c22
        refine lv_aload_n hx hb dX4_pass_29 rfl (lv_at hl 0 rfl) ?_
        refine lv_iload_n hx hb dX4_pass_30 rfl (lv_at hl 1 rfl) ?_
        obtain ⟨g17, g18, g19, g20, hv⟩ := hv
        obtain ⟨hp, hv⟩ := hv
        refine k_rel_v (w := wC cy ad) (va_runV (As := [.int x15]) (rest := []) ⟨hx, hb, hml, hown, hts⟩ (h_X4_tellAt D cy ad A x15 g17 g18 g19 g20 σ16 hp) (cwV 1 hts gX4_pass_X4_tellAt rfl rfl rfl (by decide +kernel) ⟨le_R hRf (Nat.le_of_ble_eq_true rfl), le_R hRl (Nat.le_of_ble_eq_true rfl)⟩) ⟨(fun a U g mk q => ⟨q.1, q.2.blind⟩), va_recv hK hP (ci := 4) (q0 := 21) rfl (wC_21 cy ad σ16), (fun U hU hW => ⟨rfl, WdC.pre hP hK hD hN hU hW⟩)⟩ rfl rfl hl.1 rfl (lv_room (Nat.le_of_ble_eq_true rfl)) dX4_pass_31 ⟨le_R hRc (Nat.le_refl 0), le_R hRs (Nat.le_refl 0)⟩) hS (fun σ21 H locs hr1 hP hD hS => ?_)
        have hv := hv σ21 hr1
        refine lv_iinc (v := (x15 + 1)) (lv' := [(1, .int (x15 + 1)), (0, .ref (ad 21))]) hx hb dX4_pass_34 hl (k := 1) rfl rfl (by decide) rfl (fun ls hl => ?_)
        refine lv_goto (tgt := 24) hx hb dX4_pass_37 (by decide) ?_
        exact ih24 (x15 + 1) σ21 _ _ _ hv hP hD hS (lv_sub hl [1, 0] rfl)
  exact lp24 n24 0 σ14 _ _ _ hv hP hD hS (lv_sub hl [1, 0] rfl)
set_option maxHeartbeats 4000000 in
set_option maxRecDepth 100000 in
theorem wk_X4_begin (l : Launch) (h_J7_fill_53178 : Ct_J7_fill_53178 l) (h_X0_memory : Ct_X0_memory l) (h_X1_memory : Ct_X1_memory l) (h_X2_memory : Ct_X2_memory l) (h_X6_person : Ct_X6_person l) (sp : Sp_X4_begin) : Ct_X4_begin l := by
  intro D cy ad A paid_ law_ ag σ0  hpre
  refine Met.ofW (cc := cX4_begin) (maxL := 5) (ret := none) (by decide) rfl ?_
  intro p e s m args below meth c s₁ B hml hv0
  obtain ⟨rfl, hP, hK, hD, hN⟩ := hv0
  have hx := B.exec
  have hb := B.bytes
  have hr := B.returns
  have hts := atoms_spec (ws := wsX4_begin) B.pre
  have hown : s.vm.findClass RX4 = some m.cls := findClass_of_methodNamed B.named
  have hlocks := B.notSynchronized
  have hv := sp paid_ law_ ag σ0 hpre
  have hl := lv_entry ([.ref (ad 21), .int paid_, .int law_]) (n := 5) (Nat.le_of_ble_eq_true rfl)
  rw [lg_entry_eq]
  generalize (lg_sl ([.ref (ad 21), .int paid_, .int law_]) ++ List.replicate (5 - (lg_sl ([.ref (ad 21), .int paid_, .int law_])).length) Slot.unset).toArray = ls at hl ⊢
  have hl : lv_has ls 5 [(0, .ref (ad 21)), (1, .int paid_), (2, .int law_)] := hl
  refine W_gen (fun R Z H locs hR hZ hH hlo => ?_)
  have hRf : R.frames = 3 := by rw [hR]; rfl
  have hRl : R.locals = 60 := by rw [hR]; rfl
  have hRc : R.cells = 0 := by rw [hR]; rfl
  have hRs : R.slots = 0 := by rw [hR]; rfl
  have hS : va_S A s.heap H locs := by rw [hH, hlo]; exact va_S.rf
  rw [← hH] at hP
  obtain ⟨Q, hQ⟩ : ∃ q : S_ → Prop, q = (post_X4_begin paid_ law_ ag σ0) := ⟨_, rfl⟩
  rw [← hQ] at hv
  have hinX0 : ∀ w ∈ wsX00, w ∈ wsX4_begin := by decide +kernel
  have hinX1 : ∀ w ∈ wsX10, w ∈ wsX4_begin := by decide +kernel
  have hinX2 : ∀ w ∈ wsX20, w ∈ wsX4_begin := by decide +kernel
  have hinX4 : ∀ w ∈ wsX40, w ∈ wsX4_begin := by decide +kernel
  have hinX6 : ∀ w ∈ wsX60, w ∈ wsX4_begin := by decide +kernel
  refine lv_aload_n hx hb dX4_begin_0 rfl (lv_at hl 0 rfl) ?_
  refine lv_iload_n hx hb dX4_begin_1 rfl (lv_at hl 1 rfl) ?_
  refine va_put (ci := 4) (v := .int paid_) (ty := .int) (C := RX4) (T := TX4) (N := 10) hx hb hts hinX4 tyX4 tyX4_ok nmX4 hown hK hP hD hS 21 (wC_21 cy ad σ0) rfl 7 (by decide) (hts (.fieldLink RX4 34 "TaleBans$Seasons" "paid" "I") (List.mem_of_getElem? (i := 1) rfl)) (fun x h => h) rfl (by decide +kernel) rfl rfl (Nat.le_of_ble_eq_true rfl) dX4_begin_2 (fun H locs hP hD hS => ?_)
  obtain ⟨σ1, e2⟩ : ∃ y : S_, y = wrI σ0 9 paid_ := ⟨_, rfl⟩
  have hP : va_P D vwCl (wC cy ad σ1) H := by rw [e2]; exact hP
  have hD : va_D A (wC cy ad σ1) := by rw [e2]; exact hD
  have hv := hv σ1 e2
  refine lv_aload_n hx hb dX4_begin_5 rfl (lv_at hl 0 rfl) ?_
  refine lv_iload_n hx hb dX4_begin_6 rfl (lv_at hl 2 rfl) ?_
  refine va_put (ci := 4) (v := .int law_) (ty := .int) (C := RX4) (T := TX4) (N := 10) hx hb hts hinX4 tyX4 tyX4_ok nmX4 hown hK hP hD hS 21 (wC_21 cy ad σ1) rfl 8 (by decide) (hts (.fieldLink RX4 38 "TaleBans$Seasons" "law" "I") (List.mem_of_getElem? (i := 2) rfl)) (fun x h => h) rfl (by decide +kernel) rfl rfl (Nat.le_of_ble_eq_true rfl) dX4_begin_7 (fun H locs hP hD hS => ?_)
  obtain ⟨σ3, e4⟩ : ∃ y : S_, y = wrI σ1 10 law_ := ⟨_, rfl⟩
  have hP : va_P D vwCl (wC cy ad σ3) H := by rw [e4]; exact hP
  have hD : va_D A (wC cy ad σ3) := by rw [e4]; exact hD
  have hv := hv σ3 e4
  refine lv_aload_n hx hb dX4_begin_10 rfl (lv_at hl 0 rfl) ?_
  refine lv_iconst (v := (-1)) hx hb dX4_begin_11 (by decide) ?_
  refine va_put (ci := 4) (v := .int (-1)) (ty := .int) (C := RX4) (T := TX4) (N := 10) hx hb hts hinX4 tyX4 tyX4_ok nmX4 hown hK hP hD hS 21 (wC_21 cy ad σ3) rfl 9 (by decide) (hts (.fieldLink RX4 41 "TaleBans$Seasons" "season" "I") (List.mem_of_getElem? (i := 3) rfl)) (fun x h => h) rfl (by decide +kernel) rfl rfl (Nat.le_of_ble_eq_true rfl) dX4_begin_12 (fun H locs hP hD hS => ?_)
  obtain ⟨σ5, e6⟩ : ∃ y : S_, y = wrI σ3 11 (-1) := ⟨_, rfl⟩
  have hP : va_P D vwCl (wC cy ad σ5) H := by rw [e6]; exact hP
  have hD : va_D A (wC cy ad σ5) := by rw [e6]; exact hD
  have hv := hv σ5 e6
  refine lv_iconst (v := 0) hx hb dX4_begin_15 (by decide) ?_
  refine lv_istore_n (lv' := [(3, .int 0), (0, .ref (ad 21)), (1, .int paid_), (2, .int law_)]) hx hb dX4_begin_16 rfl hl (by decide) rfl (fun ls hl => ?_)
  obtain ⟨n17, hv⟩ := hv
  have lp17 : ∀ (nn17 : Nat) (x7 : Int32) (σ8 : S_) (H : Heap) (locs : List Loc) (ls : Array Slot), vl_X4_begin_17 Q nn17 x7 σ8 → va_P D vwCl (wC cy ad σ8) H → va_D A (wC cy ad σ8) → va_S A s.heap H locs → lv_has ls 5 [(0, .ref (ad 21)), (3, .int x7)] → W p l e R s m ([.ref (ad 21), .int paid_, .int law_] : List Value).toArray  below meth c H locs 0 0 Z (F0 m 17 ls []) := by
    intro nn17
    induction nn17 with
    | zero => intro x7 σ8 H locs ls hv; exact absurd hv id
    | succ mm17 ih17 =>
      intro x7 σ8 H locs ls hv hP hD hS hl
      refine lv_iload_n hx hb dX4_begin_17 rfl (lv_at hl 1 rfl) ?_
      refine lv_aload_n hx hb dX4_begin_18 rfl (lv_at hl 0 rfl) ?_
      refine va_get (ci := 4) (v := .ref (ad 11)) (C := RX4) (T := TX4) (N := 10) hx hb hts hinX4 hown hK hP 21 (wC_21 cy ad σ8) rfl 0 (by decide) (hts (.fieldLink RX4 30 "TaleBans$Seasons" "land" "LTaleBans$Steppe;") (List.mem_of_getElem? (i := 4) rfl)) (fun x h => h) rfl dX4_begin_19 ?_
      refine va_getN (ci := 6) (v := .int (rdI σ8 2)) (C := RX6) (T := TX6) (N := 8) hx hb hts hinX6 hown hK hP 11 (wC_11 cy ad σ8) rfl 5 (by decide) (nw_10 hN) (fun x h => h) rfl dX4_begin_22 ?_
      refine lv_icmp_ge (tgt := 85) hx hb dX4_begin_25 (by decide) (fun c25 => ?_) (fun c25 => ?_)
      · have hv := hv.1 c25
        refine lv_aload_n hx hb dX4_begin_85 rfl (lv_at hl 0 rfl) ?_
        refine va_get (ci := 4) (v := .ref (ad (24))) (C := RX4) (T := TX4) (N := 10) hx hb hts hinX4 hown hK hP 21 (wC_21 cy ad σ8) rfl 3 (by decide) (hts (.fieldLink RX4 18 "TaleBans$Seasons" "known" "[I") (List.mem_of_getElem? (i := 7) rfl)) (fun x h => h) rfl dX4_begin_86 ?_
        refine lv_iconst (v := 0) hx hb dX4_begin_89 (by decide) ?_
        refine k_fill (va_runS (As := [.ref (ad (24)), .int 0]) (rest := []) ⟨hx, hb, hml, hown, hts⟩ (h_J7_fill_53178 D cy A (wC cy ad σ8) 24 (ad (24)) 6 (rdA σ8 10) 0 (wC_24 cy ad σ8) (Nat.le_of_ble_eq_true rfl)) (va_cwS 2 hts gX4_begin_J7_fill_53178 rfl rfl rfl (by decide +kernel) ⟨le_R hRf (Nat.le_of_ble_eq_true rfl), le_R hRl (Nat.le_of_ble_eq_true rfl)⟩) ⟨(fun a U g mk q => ⟨q.1, q.2.1, va_K.moved (u := U) (U := U.calling g mk a) (Vm.Alike.refl U.vm) q.2.2.1, q.2.2.2⟩), (fun U hU hW => ⟨rfl, by rw [hU]; exact hP, va_K.moved hW.alike hK, hD⟩)⟩ rfl rfl hl.1 rfl (lv_room (Nat.le_of_ble_eq_true rfl)) dX4_begin_90 ⟨le_R hRc (Nat.le_refl 0), le_R hRs (Nat.le_refl 0)⟩) hS (fun H locs hP hD hS => ?_)
        obtain ⟨σ9, e10⟩ : ∃ y : S_, y = wrA σ8 10 (fillF (rdA σ8 10) 6 0) := ⟨_, rfl⟩
        have hP : va_P D vwCl (wC cy ad σ9) H := by rw [e10]; exact hP
        have hD : va_D A (wC cy ad σ9) := by rw [e10]; exact hD
        have hv := hv σ9 e10
        refine lv_aload_n hx hb dX4_begin_93 rfl (lv_at hl 0 rfl) ?_
        refine va_get (ci := 4) (v := .ref (ad (26))) (C := RX4) (T := TX4) (N := 10) hx hb hts hinX4 hown hK hP 21 (wC_21 cy ad σ9) rfl 5 (by decide) (hts (.fieldLink RX4 24 "TaleBans$Seasons" "lastTold" "[I") (List.mem_of_getElem? (i := 8) rfl)) (fun x h => h) rfl dX4_begin_94 ?_
        refine lv_iconst (v := (-1)) hx hb dX4_begin_97 (by decide) ?_
        refine k_fill (va_runS (As := [.ref (ad (26)), .int (-1)]) (rest := []) ⟨hx, hb, hml, hown, hts⟩ (h_J7_fill_53178 D cy A (wC cy ad σ9) 26 (ad (26)) 18 (rdA σ9 12) (-1) (wC_26 cy ad σ9) (Nat.le_of_ble_eq_true rfl)) (va_cwS 2 hts gX4_begin_J7_fill_53178 rfl rfl rfl (by decide +kernel) ⟨le_R hRf (Nat.le_of_ble_eq_true rfl), le_R hRl (Nat.le_of_ble_eq_true rfl)⟩) ⟨(fun a U g mk q => ⟨q.1, q.2.1, va_K.moved (u := U) (U := U.calling g mk a) (Vm.Alike.refl U.vm) q.2.2.1, q.2.2.2⟩), (fun U hU hW => ⟨rfl, by rw [hU]; exact hP, va_K.moved hW.alike hK, hD⟩)⟩ rfl rfl hl.1 rfl (lv_room (Nat.le_of_ble_eq_true rfl)) dX4_begin_98 ⟨le_R hRc (Nat.le_refl 0), le_R hRs (Nat.le_refl 0)⟩) hS (fun H locs hP hD hS => ?_)
        obtain ⟨σ11, e12⟩ : ∃ y : S_, y = wrA σ9 12 (fillF (rdA σ9 12) 18 (-1)) := ⟨_, rfl⟩
        have hP : va_P D vwCl (wC cy ad σ11) H := by rw [e12]; exact hP
        have hD : va_D A (wC cy ad σ11) := by rw [e12]; exact hD
        have hv := hv σ11 e12
        rw [hZ]; rw [hQ] at hv
        exact W.vret hx hb hr (fun t ht hW => ⟨⟨σ11, rfl, hv, ⟨P_of ht hP, hD⟩⟩, hS.F ht⟩) hS.2.2 dX4_begin_101
      · have hv := hv.2 c25
        refine lv_aload_n hx hb dX4_begin_28 rfl (lv_at hl 0 rfl) ?_
        refine va_get (ci := 4) (v := .ref (ad 11)) (C := RX4) (T := TX4) (N := 10) hx hb hts hinX4 hown hK hP 21 (wC_21 cy ad σ8) rfl 0 (by decide) (hts (.fieldLink RX4 30 "TaleBans$Seasons" "land" "LTaleBans$Steppe;") (List.mem_of_getElem? (i := 4) rfl)) (fun x h => h) rfl dX4_begin_29 ?_
        refine lv_iload_n hx hb dX4_begin_32 rfl (lv_at hl 1 rfl) ?_
        obtain ⟨hp, hv⟩ := hv
        refine k_read_e (w := wC cy ad) (va_runVN (As := [.int x7]) (rest := []) ⟨hx, hb, hml, hown, hts⟩ (h_X6_person D cy ad A x7 σ8 hp) ⟨va_cnB 1 hts gX4_begin_X6_person_n49 rfl rfl rfl (nwm_46 hN) (hts (.initialized RX6) (List.mem_of_getElem? (i := 10) rfl)) (by decide +kernel) ⟨le_R hRf (Nat.le_of_ble_eq_true rfl), le_R hRl (Nat.le_of_ble_eq_true rfl)⟩, (hts (.instanceMethod yX6_person) (List.mem_of_getElem? (i := 9) rfl)), (hts (.selects RX6 yX6_person yX6_person) (List.mem_of_getElem? (i := 11) rfl))⟩ ⟨(fun a U g mk q => ⟨q.1, q.2.blind⟩), va_recv hK hP (ci := 6) (q0 := 11) rfl (wC_11 cy ad σ8), (fun U hU hW => ⟨rfl, WdC.pre hP hK hD hN hU hW⟩)⟩ rfl rfl hl.1 rfl (lv_room (Nat.le_of_ble_eq_true rfl)) dX4_begin_33 ⟨le_R hRc (Nat.le_refl 0), le_R hRs (Nat.le_refl 0)⟩) hS (fun r H locs hr1 hP hS => ?_)
        subst hr1
        cases o14 : (fn_X6_person x7 σ8) with
        | none =>
          have hv := hv.1 o14
          refine W_top (v' := .null) rfl ?_
          refine lv_astoreN (lv' := [(4, .null), (0, .ref (ad 21)), (3, .int x7)]) hx hb dX4_begin_36 hl (by decide) rfl (fun ls hl => ?_)
          refine lv_aload_n hx hb dX4_begin_38 rfl (lv_at hl 1 rfl) ?_
          refine va_get (ci := 4) (v := .ref (ad (22))) (C := RX4) (T := TX4) (N := 10) hx hb hts hinX4 hown hK hP 21 (wC_21 cy ad σ8) rfl 1 (by decide) (hts (.fieldLink RX4 9 "TaleBans$Seasons" "places" "[I") (List.mem_of_getElem? (i := 5) rfl)) (fun x h => h) rfl dX4_begin_39 ?_
          refine lv_iload_n hx hb dX4_begin_42 rfl (lv_at hl 2 rfl) ?_
          refine lv_aloadN hx hb dX4_begin_43 (lv_at hl 0 rfl) ?_
          refine lv_ifnonnullN hx hb dX4_begin_45 ?_
          refine lv_bipush (v := (-9)) hx hb dX4_begin_48 (by decide) ?_
          refine lv_goto (tgt := 58) hx hb dX4_begin_50 (by decide) ?_
          obtain ⟨hi, hv⟩ := hv
          refine va_iast hx hb hK hP hD hS 22 0 (wC_22 cy ad σ8) rfl hi dX4_begin_58 (fun H locs hP hD hS => ?_)
          obtain ⟨σ15, e16⟩ : ∃ y : S_, y = wr2 σ8 8 (Int32.toNatClampNeg x7) (-9) := ⟨_, rfl⟩
          have hP : va_P D vwCl (wC cy ad σ15) H := by rw [e16]; exact hP
          have hD : va_D A (wC cy ad σ15) := by rw [e16]; exact hD
          have hv := hv σ15 e16
          refine lv_aload_n hx hb dX4_begin_59 rfl (lv_at hl 1 rfl) ?_
          refine va_get (ci := 4) (v := .ref (ad (23))) (C := RX4) (T := TX4) (N := 10) hx hb hts hinX4 hown hK hP 21 (wC_21 cy ad σ15) rfl 2 (by decide) (hts (.fieldLink RX4 15 "TaleBans$Seasons" "memories" "[I") (List.mem_of_getElem? (i := 6) rfl)) (fun x h => h) rfl dX4_begin_60 ?_
          refine lv_iload_n hx hb dX4_begin_63 rfl (lv_at hl 2 rfl) ?_
          refine lv_aloadN hx hb dX4_begin_64 (lv_at hl 0 rfl) ?_
          refine lv_ifnonnullN hx hb dX4_begin_66 ?_
          refine lv_iconst (v := 0) hx hb dX4_begin_69 (by decide) ?_
          refine lv_goto (tgt := 78) hx hb dX4_begin_70 (by decide) ?_
          obtain ⟨hi, hv⟩ := hv
          refine va_iast hx hb hK hP hD hS 23 0 (wC_23 cy ad σ15) rfl hi dX4_begin_78 (fun H locs hP hD hS => ?_)
          obtain ⟨σ17, e18⟩ : ∃ y : S_, y = wr2 σ15 9 (Int32.toNatClampNeg x7) 0 := ⟨_, rfl⟩
          have hP : va_P D vwCl (wC cy ad σ17) H := by rw [e18]; exact hP
          have hD : va_D A (wC cy ad σ17) := by rw [e18]; exact hD
          have hv := hv σ17 e18
          refine lv_iinc (v := (x7 + 1)) (lv' := [(3, .int (x7 + 1)), (4, .null), (0, .ref (ad 21))]) hx hb dX4_begin_79 hl (k := 2) rfl rfl (by decide) rfl (fun ls hl => ?_)
          refine lv_goto (tgt := 17) hx hb dX4_begin_82 (by decide) ?_
          exact ih17 (x7 + 1) σ17 _ _ _ hv hP hD hS (lv_sub hl [2, 0] rfl)
        | some j13 =>
          obtain ⟨hj_j13, hv⟩ := hv.2 j13 o14
          refine W_top (v' := .ref ((hget σ8 j13).1)) rfl ?_
          refine lv_astore (lv' := [(4, .ref ((hget σ8 j13).1)), (0, .ref (ad 21)), (3, .int x7)]) hx hb dX4_begin_36 hl (by decide) rfl (fun ls hl => ?_)
          refine lv_aload_n hx hb dX4_begin_38 rfl (lv_at hl 1 rfl) ?_
          refine va_get (ci := 4) (v := .ref (ad (22))) (C := RX4) (T := TX4) (N := 10) hx hb hts hinX4 hown hK hP 21 (wC_21 cy ad σ8) rfl 1 (by decide) (hts (.fieldLink RX4 9 "TaleBans$Seasons" "places" "[I") (List.mem_of_getElem? (i := 5) rfl)) (fun x h => h) rfl dX4_begin_39 ?_
          refine lv_iload_n hx hb dX4_begin_42 rfl (lv_at hl 2 rfl) ?_
          refine lv_aload hx hb dX4_begin_43 (lv_at hl 0 rfl) ?_
          refine lv_ifnonnull (tgt := 53) hx hb dX4_begin_45 (by decide) ?_
          refine lv_aload hx hb dX4_begin_53 (lv_at hl 0 rfl) ?_
          obtain ⟨⟨hq, hc⟩, hv⟩ := hv
          have hk19 : W p l e R s m ([.ref (ad 21), .int paid_, .int law_] : List Value).toArray below meth c H locs 0 0 Z (F0 m (55 + 3) ls [.int ((hget σ8 j13).2.2.2.2), .int x7, .ref (ad (22))]) := by
            obtain ⟨hi, hv⟩ := hv
            refine va_iast hx hb hK hP hD hS 22 0 (wC_22 cy ad σ8) rfl hi dX4_begin_58 (fun H locs hP hD hS => ?_)
            obtain ⟨σ20, e21⟩ : ∃ y : S_, y = wr2 σ8 8 (Int32.toNatClampNeg x7) ((hget σ8 j13).2.2.2.2) := ⟨_, rfl⟩
            have hP : va_P D vwCl (wC cy ad σ20) H := by rw [e21]; exact hP
            have hD : va_D A (wC cy ad σ20) := by rw [e21]; exact hD
            have hv := hv σ20 e21
            refine lv_aload_n hx hb dX4_begin_59 rfl (lv_at hl 1 rfl) ?_
            refine va_get (ci := 4) (v := .ref (ad (23))) (C := RX4) (T := TX4) (N := 10) hx hb hts hinX4 hown hK hP 21 (wC_21 cy ad σ20) rfl 2 (by decide) (hts (.fieldLink RX4 15 "TaleBans$Seasons" "memories" "[I") (List.mem_of_getElem? (i := 6) rfl)) (fun x h => h) rfl dX4_begin_60 ?_
            refine lv_iload_n hx hb dX4_begin_63 rfl (lv_at hl 2 rfl) ?_
            refine lv_aload hx hb dX4_begin_64 (lv_at hl 0 rfl) ?_
            refine lv_ifnonnull (tgt := 73) hx hb dX4_begin_66 (by decide) ?_
            refine lv_aload hx hb dX4_begin_73 (lv_at hl 0 rfl) ?_
            obtain ⟨heq, hv⟩ := hv
            obtain ⟨⟨hq, hc⟩, hv⟩ := hv
            have hk22 : ∀ (r : Int32) (H : Heap) (locs : List Loc), r = (fn_PE_memory j13 σ20) → va_P D vwCl (wC cy ad σ20) H → va_S A s.heap H locs → W p l e R s m ([.ref (ad 21), .int paid_, .int law_] : List Value).toArray below meth c H locs 0 0 Z (F0 m (75 + 3) ls (.int r :: [.int x7, .ref (ad (23))])) := by
              intro r H locs hr1 hP hS
              subst hr1
              obtain ⟨hi, hv⟩ := hv
              refine va_iast hx hb hK hP hD hS 23 0 (wC_23 cy ad σ20) rfl hi dX4_begin_78 (fun H locs hP hD hS => ?_)
              obtain ⟨σ23, e24⟩ : ∃ y : S_, y = wr2 σ20 9 (Int32.toNatClampNeg x7) (fn_PE_memory j13 σ20) := ⟨_, rfl⟩
              have hP : va_P D vwCl (wC cy ad σ23) H := by rw [e24]; exact hP
              have hD : va_D A (wC cy ad σ23) := by rw [e24]; exact hD
              have hv := hv σ23 e24
              refine lv_iinc (v := (x7 + 1)) (lv' := [(3, .int (x7 + 1)), (4, .ref ((hget σ8 j13).1)), (0, .ref (ad 21))]) hx hb dX4_begin_79 hl (k := 2) rfl rfl (by decide) rfl (fun ls hl => ?_)
              refine lv_goto (tgt := 17) hx hb dX4_begin_82 (by decide) ?_
              exact ih17 (x7 + 1) σ23 _ _ _ hv hP hD hS (lv_sub hl [2, 0] rfl)
            rcases hc with hc | hc | hc
            · exact k_read_i (w := wC cy ad) (va_runU (As := []) (rest := [.int x7, .ref (ad (23))]) ⟨hx, hb, hml, hown, hts⟩ (h_X0_memory D cy ad A j13 σ20 ⟨hq, heq.symm ▸ Or.inl hc⟩) (va_cwO 0 hts gX4_begin_X0_memory_u58X0 rfl rfl rfl (List.mem_of_getElem? (i := 29) rfl) (by decide +kernel) ⟨le_R hRf (Nat.le_of_ble_eq_true rfl), le_R hRl (Nat.le_of_ble_eq_true rfl)⟩) ⟨(fun a U g mk q => ⟨q.1, q.2.blind⟩), va_recv hK hP (ci := 0) (q0 := 28 + j13) rfl (wC_hd cy ad heq hq hc), (fun U hU hW => ⟨by rw [heq], WdC.pre hP hK hD hN hU hW⟩)⟩ rfl rfl hl.1 rfl (lv_room (Nat.le_of_ble_eq_true rfl)) dX4_begin_75 ⟨le_R hRc (Nat.le_refl 0), le_R hRs (Nat.le_refl 0)⟩) hS (fun r H locs hr1 hP hS => hk22 r H locs (hr1.trans (pe_memory_0 (heq.symm ▸ hc))) hP hS)
            · exact k_read_i (w := wC cy ad) (va_runU (As := []) (rest := [.int x7, .ref (ad (23))]) ⟨hx, hb, hml, hown, hts⟩ (h_X1_memory D cy ad A j13 σ20 ⟨hq, heq.symm ▸ hc⟩) (va_cwO 0 hts gX4_begin_X1_memory_u58X1 rfl rfl rfl (List.mem_of_getElem? (i := 29) rfl) (by decide +kernel) ⟨le_R hRf (Nat.le_of_ble_eq_true rfl), le_R hRl (Nat.le_of_ble_eq_true rfl)⟩) ⟨(fun a U g mk q => ⟨q.1, q.2.blind⟩), va_recv hK hP (ci := 1) (q0 := 28 + j13) rfl (wC_hd cy ad heq hq hc), (fun U hU hW => ⟨by rw [heq], WdC.pre hP hK hD hN hU hW⟩)⟩ rfl rfl hl.1 rfl (lv_room (Nat.le_of_ble_eq_true rfl)) dX4_begin_75 ⟨le_R hRc (Nat.le_refl 0), le_R hRs (Nat.le_refl 0)⟩) hS (fun r H locs hr1 hP hS => hk22 r H locs (hr1.trans (pe_memory_1 (heq.symm ▸ hc))) hP hS)
            · exact k_read_i (w := wC cy ad) (va_runV (As := []) (rest := [.int x7, .ref (ad (23))]) ⟨hx, hb, hml, hown, hts⟩ (h_X2_memory D cy ad A j13 σ20 ⟨hq, heq.symm ▸ isC_2 hc⟩) (cwV 0 hts gX4_begin_X2_memory rfl rfl rfl (by decide +kernel) ⟨le_R hRf (Nat.le_of_ble_eq_true rfl), le_R hRl (Nat.le_of_ble_eq_true rfl)⟩) ⟨(fun a U g mk q => ⟨q.1, q.2.blind⟩), va_recv hK hP (ci := 2) (q0 := 28 + j13) rfl (wC_hd cy ad heq hq hc), (fun U hU hW => ⟨by rw [heq], WdC.pre hP hK hD hN hU hW⟩)⟩ rfl rfl hl.1 rfl (lv_room (Nat.le_of_ble_eq_true rfl)) dX4_begin_75 ⟨le_R hRc (Nat.le_refl 0), le_R hRs (Nat.le_refl 0)⟩) hS (fun r H locs hr1 hP hS => hk22 r H locs (hr1.trans (pe_memory_2 (heq.symm ▸ hc))) hP hS)
          rcases hc with hc | hc | hc
          · exact va_getN (ci := 0) (v := .int ((hget σ8 j13).2.2.2.2)) (C := RX0) (T := TX0) (N := 3) hx hb hts hinX0 hown hK hP (28 + j13) (wC_hd cy ad rfl hq hc) rfl 2 (by decide) (nw_17 hN) (fun x h => h) rfl dX4_begin_55 hk19
          · exact va_getN (ci := 1) (v := .int ((hget σ8 j13).2.2.2.2)) (C := RX1) (T := TX1) (N := 3) hx hb hts hinX1 hown hK hP (28 + j13) (wC_hd cy ad rfl hq hc) rfl 2 (by decide) (nw_17 hN) (fun x h => h) rfl dX4_begin_55 hk19
          · exact va_getN (ci := 2) (v := .int ((hget σ8 j13).2.2.2.2)) (C := RX2) (T := TX2) (N := 3) hx hb hts hinX2 hown hK hP (28 + j13) (wC_hd cy ad rfl hq hc) rfl 2 (by decide) (nw_17 hN) (fun x h => h) rfl dX4_begin_55 hk19
  exact lp17 n17 0 σ5 _ _ _ hv hP hD hS (lv_sub hl [1, 0] rfl)
