set_option maxHeartbeats 4000000 in
set_option maxRecDepth 100000 in
theorem wk_X9_tell (l : Launch) (h_X9_noPerson : Ct_X9_noPerson l) (h_X9_traced : Ct_X9_traced l) (sp : Sp_X9_tell) : Ct_X9_tell l := by
  intro D cy ad A p_ ag σ0  hpre
  refine Met.ofW (cc := cX9_tell) (maxL := 4) (ret := (some .int)) (by decide) rfl ?_
  intro p e s m args below meth c s₁ B hml hv0
  obtain ⟨rfl, hP, hK, hD, hN⟩ := hv0
  have hx := B.exec
  have hb := B.bytes
  have hr := B.returns
  have hts := atoms_spec (ws := wsX9_tell) B.pre
  have hown : s.vm.findClass RX9 = some m.cls := findClass_of_methodNamed B.named
  have hlocks := B.notSynchronized
  have hv := sp p_ ag σ0 hpre
  have hl := lv_entry ([.ref (ad 0), .int p_]) (n := 4) (Nat.le_of_ble_eq_true rfl)
  rw [lg_entry_eq]
  generalize (lg_sl ([.ref (ad 0), .int p_]) ++ List.replicate (4 - (lg_sl ([.ref (ad 0), .int p_])).length) Slot.unset).toArray = ls at hl ⊢
  have hl : lv_has ls 4 [(0, .ref (ad 0)), (1, .int p_)] := hl
  refine W_gen (fun R Z H locs hR hZ hH hlo => ?_)
  have hRf : R.frames = 2 := by rw [hR]; rfl
  have hRl : R.locals = 46 := by rw [hR]; rfl
  have hRc : R.cells = 0 := by rw [hR]; rfl
  have hRs : R.slots = 0 := by rw [hR]; rfl
  have hS : va_S A s.heap H locs := by rw [hH, hlo]; exact va_S.rf
  rw [← hH] at hP
  obtain ⟨Q, hQ⟩ : ∃ q : Int32 → S_ → Prop, q = (post_X9_tell p_ ag σ0) := ⟨_, rfl⟩
  rw [← hQ] at hv
  have hinX9 : ∀ w ∈ wsX90, w ∈ wsX9_tell := by decide +kernel
  refine lv_aload_n hx hb dX9_tell_0 rfl (lv_at hl 0 rfl) ?_
  refine lv_iload_n hx hb dX9_tell_1 rfl (lv_at hl 1 rfl) ?_
  have hp := True.intro
  refine k_read_i (w := wR cy ad) (va_runV (As := [.int p_]) (rest := []) ⟨hx, hb, hml, hown, hts⟩ (h_X9_noPerson D cy ad A p_ σ0 hp) (cwV 1 hts gX9_tell_X9_noPerson rfl rfl rfl (by decide +kernel) ⟨le_R hRf (Nat.le_of_ble_eq_true rfl), le_R hRl (Nat.le_of_ble_eq_true rfl)⟩) ⟨(fun a U g mk q => ⟨q.1, q.2.blind⟩), va_recv hK hP (ci := 9) (q0 := 0) rfl (wR_0 cy ad σ0), (fun U hU hW => ⟨rfl, WdR.pre hP hK hD hN hU hW⟩)⟩ rfl rfl hl.1 rfl (lv_room (Nat.le_of_ble_eq_true rfl)) dX9_tell_2 ⟨le_R hRc (Nat.le_refl 0), le_R hRs (Nat.le_refl 0)⟩) hS (fun r H locs hr1 hP hS => ?_)
  subst hr1
  refine lv_if_eq (tgt := 10) hx hb dX9_tell_5 (by decide) (fun c35 => ?_) (fun c35 => ?_)
  · have hv := hv.1 c35
    refine lv_aload_n hx hb dX9_tell_10 rfl (lv_at hl 0 rfl) ?_
    refine va_get (ci := 9) (v := .ref (ad (1))) (C := RX9) (T := TX9) (N := 38) hx hb hts hinX9 hown hK hP 0 (wR_0 cy ad σ0) rfl 2 (by decide) (hts (.fieldLink RX9 7 "TaleBansModel" "kindOf" "[I") (List.mem_of_getElem? (i := 1) rfl)) (fun x h => h) rfl dX9_tell_11 ?_
    refine lv_iload_n hx hb dX9_tell_14 rfl (lv_at hl 1 rfl) ?_
    obtain ⟨hi, hv⟩ := hv
    refine va_iald hx hb hK hP 1 0 (wR_1 cy ad σ0) rfl hi dX9_tell_15 ?_
    refine lv_istore_n (lv' := [(2, .int (rdA σ0 1 (Int32.toNatClampNeg p_))), (0, .ref (ad 0)), (1, .int p_)]) hx hb dX9_tell_16 rfl hl (by decide) rfl (fun ls hl => ?_)
    refine lv_iload_n hx hb dX9_tell_17 rfl (lv_at hl 0 rfl) ?_
    refine lv_iconst (v := 2) hx hb dX9_tell_18 (by decide) ?_
    refine lv_icmp_ne (tgt := 27) hx hb dX9_tell_19 (by decide) (fun c34 => ?_) (fun c34 => ?_)
    · have hv := hv.1 c34
      refine lv_iload_n hx hb dX9_tell_27 rfl (lv_at hl 0 rfl) ?_
      refine lv_if_le (tgt := 36) hx hb dX9_tell_28 (by decide) (fun c16 => ?_) (fun c16 => ?_)
      · have hv := hv.1 c16
        refine lv_aload_n hx hb dX9_tell_36 rfl (lv_at hl 1 rfl) ?_
        refine lv_iconst (v := 1) hx hb dX9_tell_37 (by decide) ?_
        have hp := True.intro
        refine k_rel_v (w := wR cy ad) (va_runV (As := [.int 1]) (rest := []) ⟨hx, hb, hml, hown, hts⟩ (h_X9_traced D cy ad A 1 σ0 hp) (cwV 1 hts gX9_tell_X9_traced rfl rfl rfl (by decide +kernel) ⟨le_R hRf (Nat.le_of_ble_eq_true rfl), le_R hRl (Nat.le_of_ble_eq_true rfl)⟩) ⟨(fun a U g mk q => ⟨q.1, q.2.blind⟩), va_recv hK hP (ci := 9) (q0 := 0) rfl (wR_0 cy ad σ0), (fun U hU hW => ⟨rfl, WdR.pre hP hK hD hN hU hW⟩)⟩ rfl rfl hl.1 rfl (lv_room (Nat.le_of_ble_eq_true rfl)) dX9_tell_38 ⟨le_R hRc (Nat.le_refl 0), le_R hRs (Nat.le_refl 0)⟩) hS (fun σ1 H locs hr1 hP hD hS => ?_)
        have hv := hv σ1 hr1
        refine lv_iload_n hx hb dX9_tell_41 rfl (lv_at hl 0 rfl) ?_
        refine lv_iconst (v := 2) hx hb dX9_tell_42 (by decide) ?_
        refine lv_icmp_ne (tgt := 51) hx hb dX9_tell_43 (by decide) (fun c7 => ?_) (fun c7 => ?_)
        · have hv := hv.1 c7
          refine lv_aload_n hx hb dX9_tell_51 rfl (lv_at hl 1 rfl) ?_
          refine va_get (ci := 9) (v := .ref (ad (2))) (C := RX9) (T := TX9) (N := 38) hx hb hts hinX9 hown hK hP 0 (wR_0 cy ad σ1) rfl 3 (by decide) (hts (.fieldLink RX9 13 "TaleBansModel" "mindsOf" "[I") (List.mem_of_getElem? (i := 2) rfl)) (fun x h => h) rfl dX9_tell_52 ?_
          refine lv_iload_n hx hb dX9_tell_55 rfl (lv_at hl 2 rfl) ?_
          obtain ⟨hi, hv⟩ := hv
          refine va_iald hx hb hK hP 2 0 (wR_2 cy ad σ1) rfl hi dX9_tell_56 ?_
          refine lv_istore_n (lv' := [(3, .int (rdA σ1 2 (Int32.toNatClampNeg p_))), (2, .int (rdA σ0 1 (Int32.toNatClampNeg p_))), (0, .ref (ad 0)), (1, .int p_)]) hx hb dX9_tell_57 rfl hl (by decide) rfl (fun ls hl => ?_)
          refine lv_iload_n hx hb dX9_tell_58 rfl (lv_at hl 1 rfl) ?_
          refine lv_if_ne (tgt := 66) hx hb dX9_tell_59 (by decide) (fun c3 => ?_) (fun c3 => ?_)
          · have hv := hv.1 c3
            refine lv_iload_n hx hb dX9_tell_66 rfl (lv_at hl 1 rfl) ?_
            refine lv_iconst (v := 1) hx hb dX9_tell_67 (by decide) ?_
            refine lv_icmp_ne (tgt := 78) hx hb dX9_tell_68 (by decide) (fun c2 => ?_) (fun c2 => ?_)
            · have hv := hv.1 c2
              refine lv_iconst (v := 2) hx hb dX9_tell_78 (by decide) ?_
              refine lv_iload_n hx hb dX9_tell_79 rfl (lv_at hl 0 rfl) ?_
              refine lv_imul hx hb dX9_tell_80 ?_
              refine lv_bipush (v := 100) hx hb dX9_tell_81 (by decide) ?_
              refine lv_iadd hx hb dX9_tell_83 ?_
              rw [hZ]; rw [hQ] at hv
              exact W.iret (v := ((2 * (rdA σ1 2 (Int32.toNatClampNeg p_))) + 100)) hx hb hr (fun t ht hW => ⟨⟨((2 * (rdA σ1 2 (Int32.toNatClampNeg p_))) + 100), σ1, rfl, hv, ⟨P_of ht hP, hD⟩⟩, hS.F ht⟩) hS.2.2 dX9_tell_84
            · have hv := hv.2 c2
              refine lv_iload_n hx hb dX9_tell_71 rfl (lv_at hl 0 rfl) ?_
              refine lv_bipush (v := 100) hx hb dX9_tell_72 (by decide) ?_
              refine lv_iadd hx hb dX9_tell_74 ?_
              refine lv_goto (tgt := 84) hx hb dX9_tell_75 (by decide) ?_
              rw [hZ]; rw [hQ] at hv
              exact W.iret (v := ((rdA σ1 2 (Int32.toNatClampNeg p_)) + 100)) hx hb hr (fun t ht hW => ⟨⟨((rdA σ1 2 (Int32.toNatClampNeg p_)) + 100), σ1, rfl, hv, ⟨P_of ht hP, hD⟩⟩, hS.F ht⟩) hS.2.2 dX9_tell_84
          · have hv := hv.2 c3
            refine lv_iload_n hx hb dX9_tell_62 rfl (lv_at hl 0 rfl) ?_
            refine lv_goto (tgt := 84) hx hb dX9_tell_63 (by decide) ?_
            rw [hZ]; rw [hQ] at hv
            exact W.iret (v := (rdA σ1 2 (Int32.toNatClampNeg p_))) hx hb hr (fun t ht hW => ⟨⟨(rdA σ1 2 (Int32.toNatClampNeg p_)), σ1, rfl, hv, ⟨P_of ht hP, hD⟩⟩, hS.F ht⟩) hS.2.2 dX9_tell_84
        · have hv := hv.2 c7
          refine lv_aload_n hx hb dX9_tell_46 rfl (lv_at hl 1 rfl) ?_
          refine lv_iconst (v := 1) hx hb dX9_tell_47 (by decide) ?_
          have hp := True.intro
          refine k_rel_v (w := wR cy ad) (va_runV (As := [.int 1]) (rest := []) ⟨hx, hb, hml, hown, hts⟩ (h_X9_traced D cy ad A 1 σ1 hp) (cwV 1 hts gX9_tell_X9_traced rfl rfl rfl (by decide +kernel) ⟨le_R hRf (Nat.le_of_ble_eq_true rfl), le_R hRl (Nat.le_of_ble_eq_true rfl)⟩) ⟨(fun a U g mk q => ⟨q.1, q.2.blind⟩), va_recv hK hP (ci := 9) (q0 := 0) rfl (wR_0 cy ad σ1), (fun U hU hW => ⟨rfl, WdR.pre hP hK hD hN hU hW⟩)⟩ rfl rfl hl.1 rfl (lv_room (Nat.le_of_ble_eq_true rfl)) dX9_tell_48 ⟨le_R hRc (Nat.le_refl 0), le_R hRs (Nat.le_refl 0)⟩) hS (fun σ4 H locs hr1 hP hD hS => ?_)
          have hv := hv σ4 hr1
          refine lv_aload_n hx hb dX9_tell_51 rfl (lv_at hl 1 rfl) ?_
          refine va_get (ci := 9) (v := .ref (ad (2))) (C := RX9) (T := TX9) (N := 38) hx hb hts hinX9 hown hK hP 0 (wR_0 cy ad σ4) rfl 3 (by decide) (hts (.fieldLink RX9 13 "TaleBansModel" "mindsOf" "[I") (List.mem_of_getElem? (i := 2) rfl)) (fun x h => h) rfl dX9_tell_52 ?_
          refine lv_iload_n hx hb dX9_tell_55 rfl (lv_at hl 2 rfl) ?_
          obtain ⟨hi, hv⟩ := hv
          refine va_iald hx hb hK hP 2 0 (wR_2 cy ad σ4) rfl hi dX9_tell_56 ?_
          refine lv_istore_n (lv' := [(3, .int (rdA σ4 2 (Int32.toNatClampNeg p_))), (2, .int (rdA σ0 1 (Int32.toNatClampNeg p_))), (0, .ref (ad 0)), (1, .int p_)]) hx hb dX9_tell_57 rfl hl (by decide) rfl (fun ls hl => ?_)
          refine lv_iload_n hx hb dX9_tell_58 rfl (lv_at hl 1 rfl) ?_
          refine lv_if_ne (tgt := 66) hx hb dX9_tell_59 (by decide) (fun c6 => ?_) (fun c6 => ?_)
          · have hv := hv.1 c6
            refine lv_iload_n hx hb dX9_tell_66 rfl (lv_at hl 1 rfl) ?_
            refine lv_iconst (v := 1) hx hb dX9_tell_67 (by decide) ?_
            refine lv_icmp_ne (tgt := 78) hx hb dX9_tell_68 (by decide) (fun c5 => ?_) (fun c5 => ?_)
            · have hv := hv.1 c5
              refine lv_iconst (v := 2) hx hb dX9_tell_78 (by decide) ?_
              refine lv_iload_n hx hb dX9_tell_79 rfl (lv_at hl 0 rfl) ?_
              refine lv_imul hx hb dX9_tell_80 ?_
              refine lv_bipush (v := 100) hx hb dX9_tell_81 (by decide) ?_
              refine lv_iadd hx hb dX9_tell_83 ?_
              rw [hZ]; rw [hQ] at hv
              exact W.iret (v := ((2 * (rdA σ4 2 (Int32.toNatClampNeg p_))) + 100)) hx hb hr (fun t ht hW => ⟨⟨((2 * (rdA σ4 2 (Int32.toNatClampNeg p_))) + 100), σ4, rfl, hv, ⟨P_of ht hP, hD⟩⟩, hS.F ht⟩) hS.2.2 dX9_tell_84
            · have hv := hv.2 c5
              refine lv_iload_n hx hb dX9_tell_71 rfl (lv_at hl 0 rfl) ?_
              refine lv_bipush (v := 100) hx hb dX9_tell_72 (by decide) ?_
              refine lv_iadd hx hb dX9_tell_74 ?_
              refine lv_goto (tgt := 84) hx hb dX9_tell_75 (by decide) ?_
              rw [hZ]; rw [hQ] at hv
              exact W.iret (v := ((rdA σ4 2 (Int32.toNatClampNeg p_)) + 100)) hx hb hr (fun t ht hW => ⟨⟨((rdA σ4 2 (Int32.toNatClampNeg p_)) + 100), σ4, rfl, hv, ⟨P_of ht hP, hD⟩⟩, hS.F ht⟩) hS.2.2 dX9_tell_84
          · have hv := hv.2 c6
            refine lv_iload_n hx hb dX9_tell_62 rfl (lv_at hl 0 rfl) ?_
            refine lv_goto (tgt := 84) hx hb dX9_tell_63 (by decide) ?_
            rw [hZ]; rw [hQ] at hv
            exact W.iret (v := (rdA σ4 2 (Int32.toNatClampNeg p_))) hx hb hr (fun t ht hW => ⟨⟨(rdA σ4 2 (Int32.toNatClampNeg p_)), σ4, rfl, hv, ⟨P_of ht hP, hD⟩⟩, hS.F ht⟩) hS.2.2 dX9_tell_84
      · have hv := hv.2 c16
        refine lv_aload_n hx hb dX9_tell_31 rfl (lv_at hl 1 rfl) ?_
        refine lv_iconst (v := 2) hx hb dX9_tell_32 (by decide) ?_
        have hp := True.intro
        refine k_rel_v (w := wR cy ad) (va_runV (As := [.int 2]) (rest := []) ⟨hx, hb, hml, hown, hts⟩ (h_X9_traced D cy ad A 2 σ0 hp) (cwV 1 hts gX9_tell_X9_traced rfl rfl rfl (by decide +kernel) ⟨le_R hRf (Nat.le_of_ble_eq_true rfl), le_R hRl (Nat.le_of_ble_eq_true rfl)⟩) ⟨(fun a U g mk q => ⟨q.1, q.2.blind⟩), va_recv hK hP (ci := 9) (q0 := 0) rfl (wR_0 cy ad σ0), (fun U hU hW => ⟨rfl, WdR.pre hP hK hD hN hU hW⟩)⟩ rfl rfl hl.1 rfl (lv_room (Nat.le_of_ble_eq_true rfl)) dX9_tell_33 ⟨le_R hRc (Nat.le_refl 0), le_R hRs (Nat.le_refl 0)⟩) hS (fun σ8 H locs hr1 hP hD hS => ?_)
        have hv := hv σ8 hr1
        refine lv_aload_n hx hb dX9_tell_36 rfl (lv_at hl 1 rfl) ?_
        refine lv_iconst (v := 1) hx hb dX9_tell_37 (by decide) ?_
        have hp := True.intro
        refine k_rel_v (w := wR cy ad) (va_runV (As := [.int 1]) (rest := []) ⟨hx, hb, hml, hown, hts⟩ (h_X9_traced D cy ad A 1 σ8 hp) (cwV 1 hts gX9_tell_X9_traced rfl rfl rfl (by decide +kernel) ⟨le_R hRf (Nat.le_of_ble_eq_true rfl), le_R hRl (Nat.le_of_ble_eq_true rfl)⟩) ⟨(fun a U g mk q => ⟨q.1, q.2.blind⟩), va_recv hK hP (ci := 9) (q0 := 0) rfl (wR_0 cy ad σ8), (fun U hU hW => ⟨rfl, WdR.pre hP hK hD hN hU hW⟩)⟩ rfl rfl hl.1 rfl (lv_room (Nat.le_of_ble_eq_true rfl)) dX9_tell_38 ⟨le_R hRc (Nat.le_refl 0), le_R hRs (Nat.le_refl 0)⟩) hS (fun σ9 H locs hr1 hP hD hS => ?_)
        have hv := hv σ9 hr1
        refine lv_iload_n hx hb dX9_tell_41 rfl (lv_at hl 0 rfl) ?_
        refine lv_iconst (v := 2) hx hb dX9_tell_42 (by decide) ?_
        refine lv_icmp_ne (tgt := 51) hx hb dX9_tell_43 (by decide) (fun c15 => ?_) (fun c15 => ?_)
        · have hv := hv.1 c15
          refine lv_aload_n hx hb dX9_tell_51 rfl (lv_at hl 1 rfl) ?_
          refine va_get (ci := 9) (v := .ref (ad (2))) (C := RX9) (T := TX9) (N := 38) hx hb hts hinX9 hown hK hP 0 (wR_0 cy ad σ9) rfl 3 (by decide) (hts (.fieldLink RX9 13 "TaleBansModel" "mindsOf" "[I") (List.mem_of_getElem? (i := 2) rfl)) (fun x h => h) rfl dX9_tell_52 ?_
          refine lv_iload_n hx hb dX9_tell_55 rfl (lv_at hl 2 rfl) ?_
          obtain ⟨hi, hv⟩ := hv
          refine va_iald hx hb hK hP 2 0 (wR_2 cy ad σ9) rfl hi dX9_tell_56 ?_
          refine lv_istore_n (lv' := [(3, .int (rdA σ9 2 (Int32.toNatClampNeg p_))), (2, .int (rdA σ0 1 (Int32.toNatClampNeg p_))), (0, .ref (ad 0)), (1, .int p_)]) hx hb dX9_tell_57 rfl hl (by decide) rfl (fun ls hl => ?_)
          refine lv_iload_n hx hb dX9_tell_58 rfl (lv_at hl 1 rfl) ?_
          refine lv_if_ne (tgt := 66) hx hb dX9_tell_59 (by decide) (fun c11 => ?_) (fun c11 => ?_)
          · have hv := hv.1 c11
            refine lv_iload_n hx hb dX9_tell_66 rfl (lv_at hl 1 rfl) ?_
            refine lv_iconst (v := 1) hx hb dX9_tell_67 (by decide) ?_
            refine lv_icmp_ne (tgt := 78) hx hb dX9_tell_68 (by decide) (fun c10 => ?_) (fun c10 => ?_)
            · have hv := hv.1 c10
              refine lv_iconst (v := 2) hx hb dX9_tell_78 (by decide) ?_
              refine lv_iload_n hx hb dX9_tell_79 rfl (lv_at hl 0 rfl) ?_
              refine lv_imul hx hb dX9_tell_80 ?_
              refine lv_bipush (v := 100) hx hb dX9_tell_81 (by decide) ?_
              refine lv_iadd hx hb dX9_tell_83 ?_
              rw [hZ]; rw [hQ] at hv
              exact W.iret (v := ((2 * (rdA σ9 2 (Int32.toNatClampNeg p_))) + 100)) hx hb hr (fun t ht hW => ⟨⟨((2 * (rdA σ9 2 (Int32.toNatClampNeg p_))) + 100), σ9, rfl, hv, ⟨P_of ht hP, hD⟩⟩, hS.F ht⟩) hS.2.2 dX9_tell_84
            · have hv := hv.2 c10
              refine lv_iload_n hx hb dX9_tell_71 rfl (lv_at hl 0 rfl) ?_
              refine lv_bipush (v := 100) hx hb dX9_tell_72 (by decide) ?_
              refine lv_iadd hx hb dX9_tell_74 ?_
              refine lv_goto (tgt := 84) hx hb dX9_tell_75 (by decide) ?_
              rw [hZ]; rw [hQ] at hv
              exact W.iret (v := ((rdA σ9 2 (Int32.toNatClampNeg p_)) + 100)) hx hb hr (fun t ht hW => ⟨⟨((rdA σ9 2 (Int32.toNatClampNeg p_)) + 100), σ9, rfl, hv, ⟨P_of ht hP, hD⟩⟩, hS.F ht⟩) hS.2.2 dX9_tell_84
          · have hv := hv.2 c11
            refine lv_iload_n hx hb dX9_tell_62 rfl (lv_at hl 0 rfl) ?_
            refine lv_goto (tgt := 84) hx hb dX9_tell_63 (by decide) ?_
            rw [hZ]; rw [hQ] at hv
            exact W.iret (v := (rdA σ9 2 (Int32.toNatClampNeg p_))) hx hb hr (fun t ht hW => ⟨⟨(rdA σ9 2 (Int32.toNatClampNeg p_)), σ9, rfl, hv, ⟨P_of ht hP, hD⟩⟩, hS.F ht⟩) hS.2.2 dX9_tell_84
        · have hv := hv.2 c15
          refine lv_aload_n hx hb dX9_tell_46 rfl (lv_at hl 1 rfl) ?_
          refine lv_iconst (v := 1) hx hb dX9_tell_47 (by decide) ?_
          have hp := True.intro
          refine k_rel_v (w := wR cy ad) (va_runV (As := [.int 1]) (rest := []) ⟨hx, hb, hml, hown, hts⟩ (h_X9_traced D cy ad A 1 σ9 hp) (cwV 1 hts gX9_tell_X9_traced rfl rfl rfl (by decide +kernel) ⟨le_R hRf (Nat.le_of_ble_eq_true rfl), le_R hRl (Nat.le_of_ble_eq_true rfl)⟩) ⟨(fun a U g mk q => ⟨q.1, q.2.blind⟩), va_recv hK hP (ci := 9) (q0 := 0) rfl (wR_0 cy ad σ9), (fun U hU hW => ⟨rfl, WdR.pre hP hK hD hN hU hW⟩)⟩ rfl rfl hl.1 rfl (lv_room (Nat.le_of_ble_eq_true rfl)) dX9_tell_48 ⟨le_R hRc (Nat.le_refl 0), le_R hRs (Nat.le_refl 0)⟩) hS (fun σ12 H locs hr1 hP hD hS => ?_)
          have hv := hv σ12 hr1
          refine lv_aload_n hx hb dX9_tell_51 rfl (lv_at hl 1 rfl) ?_
          refine va_get (ci := 9) (v := .ref (ad (2))) (C := RX9) (T := TX9) (N := 38) hx hb hts hinX9 hown hK hP 0 (wR_0 cy ad σ12) rfl 3 (by decide) (hts (.fieldLink RX9 13 "TaleBansModel" "mindsOf" "[I") (List.mem_of_getElem? (i := 2) rfl)) (fun x h => h) rfl dX9_tell_52 ?_
          refine lv_iload_n hx hb dX9_tell_55 rfl (lv_at hl 2 rfl) ?_
          obtain ⟨hi, hv⟩ := hv
          refine va_iald hx hb hK hP 2 0 (wR_2 cy ad σ12) rfl hi dX9_tell_56 ?_
          refine lv_istore_n (lv' := [(3, .int (rdA σ12 2 (Int32.toNatClampNeg p_))), (2, .int (rdA σ0 1 (Int32.toNatClampNeg p_))), (0, .ref (ad 0)), (1, .int p_)]) hx hb dX9_tell_57 rfl hl (by decide) rfl (fun ls hl => ?_)
          refine lv_iload_n hx hb dX9_tell_58 rfl (lv_at hl 1 rfl) ?_
          refine lv_if_ne (tgt := 66) hx hb dX9_tell_59 (by decide) (fun c14 => ?_) (fun c14 => ?_)
          · have hv := hv.1 c14
            refine lv_iload_n hx hb dX9_tell_66 rfl (lv_at hl 1 rfl) ?_
            refine lv_iconst (v := 1) hx hb dX9_tell_67 (by decide) ?_
            refine lv_icmp_ne (tgt := 78) hx hb dX9_tell_68 (by decide) (fun c13 => ?_) (fun c13 => ?_)
            · have hv := hv.1 c13
              refine lv_iconst (v := 2) hx hb dX9_tell_78 (by decide) ?_
              refine lv_iload_n hx hb dX9_tell_79 rfl (lv_at hl 0 rfl) ?_
              refine lv_imul hx hb dX9_tell_80 ?_
              refine lv_bipush (v := 100) hx hb dX9_tell_81 (by decide) ?_
              refine lv_iadd hx hb dX9_tell_83 ?_
              rw [hZ]; rw [hQ] at hv
              exact W.iret (v := ((2 * (rdA σ12 2 (Int32.toNatClampNeg p_))) + 100)) hx hb hr (fun t ht hW => ⟨⟨((2 * (rdA σ12 2 (Int32.toNatClampNeg p_))) + 100), σ12, rfl, hv, ⟨P_of ht hP, hD⟩⟩, hS.F ht⟩) hS.2.2 dX9_tell_84
            · have hv := hv.2 c13
              refine lv_iload_n hx hb dX9_tell_71 rfl (lv_at hl 0 rfl) ?_
              refine lv_bipush (v := 100) hx hb dX9_tell_72 (by decide) ?_
              refine lv_iadd hx hb dX9_tell_74 ?_
              refine lv_goto (tgt := 84) hx hb dX9_tell_75 (by decide) ?_
              rw [hZ]; rw [hQ] at hv
              exact W.iret (v := ((rdA σ12 2 (Int32.toNatClampNeg p_)) + 100)) hx hb hr (fun t ht hW => ⟨⟨((rdA σ12 2 (Int32.toNatClampNeg p_)) + 100), σ12, rfl, hv, ⟨P_of ht hP, hD⟩⟩, hS.F ht⟩) hS.2.2 dX9_tell_84
          · have hv := hv.2 c14
            refine lv_iload_n hx hb dX9_tell_62 rfl (lv_at hl 0 rfl) ?_
            refine lv_goto (tgt := 84) hx hb dX9_tell_63 (by decide) ?_
            rw [hZ]; rw [hQ] at hv
            exact W.iret (v := (rdA σ12 2 (Int32.toNatClampNeg p_))) hx hb hr (fun t ht hW => ⟨⟨(rdA σ12 2 (Int32.toNatClampNeg p_)), σ12, rfl, hv, ⟨P_of ht hP, hD⟩⟩, hS.F ht⟩) hS.2.2 dX9_tell_84
    · have hv := hv.2 c34
      refine lv_aload_n hx hb dX9_tell_22 rfl (lv_at hl 1 rfl) ?_
      refine lv_iconst (v := 3) hx hb dX9_tell_23 (by decide) ?_
      have hp := True.intro
      refine k_rel_v (w := wR cy ad) (va_runV (As := [.int 3]) (rest := []) ⟨hx, hb, hml, hown, hts⟩ (h_X9_traced D cy ad A 3 σ0 hp) (cwV 1 hts gX9_tell_X9_traced rfl rfl rfl (by decide +kernel) ⟨le_R hRf (Nat.le_of_ble_eq_true rfl), le_R hRl (Nat.le_of_ble_eq_true rfl)⟩) ⟨(fun a U g mk q => ⟨q.1, q.2.blind⟩), va_recv hK hP (ci := 9) (q0 := 0) rfl (wR_0 cy ad σ0), (fun U hU hW => ⟨rfl, WdR.pre hP hK hD hN hU hW⟩)⟩ rfl rfl hl.1 rfl (lv_room (Nat.le_of_ble_eq_true rfl)) dX9_tell_24 ⟨le_R hRc (Nat.le_refl 0), le_R hRs (Nat.le_refl 0)⟩) hS (fun σ17 H locs hr1 hP hD hS => ?_)
      have hv := hv σ17 hr1
      refine lv_iload_n hx hb dX9_tell_27 rfl (lv_at hl 0 rfl) ?_
      refine lv_if_le (tgt := 36) hx hb dX9_tell_28 (by decide) (fun c33 => ?_) (fun c33 => ?_)
      · have hv := hv.1 c33
        refine lv_aload_n hx hb dX9_tell_36 rfl (lv_at hl 1 rfl) ?_
        refine lv_iconst (v := 1) hx hb dX9_tell_37 (by decide) ?_
        have hp := True.intro
        refine k_rel_v (w := wR cy ad) (va_runV (As := [.int 1]) (rest := []) ⟨hx, hb, hml, hown, hts⟩ (h_X9_traced D cy ad A 1 σ17 hp) (cwV 1 hts gX9_tell_X9_traced rfl rfl rfl (by decide +kernel) ⟨le_R hRf (Nat.le_of_ble_eq_true rfl), le_R hRl (Nat.le_of_ble_eq_true rfl)⟩) ⟨(fun a U g mk q => ⟨q.1, q.2.blind⟩), va_recv hK hP (ci := 9) (q0 := 0) rfl (wR_0 cy ad σ17), (fun U hU hW => ⟨rfl, WdR.pre hP hK hD hN hU hW⟩)⟩ rfl rfl hl.1 rfl (lv_room (Nat.le_of_ble_eq_true rfl)) dX9_tell_38 ⟨le_R hRc (Nat.le_refl 0), le_R hRs (Nat.le_refl 0)⟩) hS (fun σ18 H locs hr1 hP hD hS => ?_)
        have hv := hv σ18 hr1
        refine lv_iload_n hx hb dX9_tell_41 rfl (lv_at hl 0 rfl) ?_
        refine lv_iconst (v := 2) hx hb dX9_tell_42 (by decide) ?_
        refine lv_icmp_ne (tgt := 51) hx hb dX9_tell_43 (by decide) (fun c24 => ?_) (fun c24 => ?_)
        · have hv := hv.1 c24
          refine lv_aload_n hx hb dX9_tell_51 rfl (lv_at hl 1 rfl) ?_
          refine va_get (ci := 9) (v := .ref (ad (2))) (C := RX9) (T := TX9) (N := 38) hx hb hts hinX9 hown hK hP 0 (wR_0 cy ad σ18) rfl 3 (by decide) (hts (.fieldLink RX9 13 "TaleBansModel" "mindsOf" "[I") (List.mem_of_getElem? (i := 2) rfl)) (fun x h => h) rfl dX9_tell_52 ?_
          refine lv_iload_n hx hb dX9_tell_55 rfl (lv_at hl 2 rfl) ?_
          obtain ⟨hi, hv⟩ := hv
          refine va_iald hx hb hK hP 2 0 (wR_2 cy ad σ18) rfl hi dX9_tell_56 ?_
          refine lv_istore_n (lv' := [(3, .int (rdA σ18 2 (Int32.toNatClampNeg p_))), (2, .int (rdA σ0 1 (Int32.toNatClampNeg p_))), (0, .ref (ad 0)), (1, .int p_)]) hx hb dX9_tell_57 rfl hl (by decide) rfl (fun ls hl => ?_)
          refine lv_iload_n hx hb dX9_tell_58 rfl (lv_at hl 1 rfl) ?_
          refine lv_if_ne (tgt := 66) hx hb dX9_tell_59 (by decide) (fun c20 => ?_) (fun c20 => ?_)
          · have hv := hv.1 c20
            refine lv_iload_n hx hb dX9_tell_66 rfl (lv_at hl 1 rfl) ?_
            refine lv_iconst (v := 1) hx hb dX9_tell_67 (by decide) ?_
            refine lv_icmp_ne (tgt := 78) hx hb dX9_tell_68 (by decide) (fun c19 => ?_) (fun c19 => ?_)
            · have hv := hv.1 c19
              refine lv_iconst (v := 2) hx hb dX9_tell_78 (by decide) ?_
              refine lv_iload_n hx hb dX9_tell_79 rfl (lv_at hl 0 rfl) ?_
              refine lv_imul hx hb dX9_tell_80 ?_
              refine lv_bipush (v := 100) hx hb dX9_tell_81 (by decide) ?_
              refine lv_iadd hx hb dX9_tell_83 ?_
              rw [hZ]; rw [hQ] at hv
              exact W.iret (v := ((2 * (rdA σ18 2 (Int32.toNatClampNeg p_))) + 100)) hx hb hr (fun t ht hW => ⟨⟨((2 * (rdA σ18 2 (Int32.toNatClampNeg p_))) + 100), σ18, rfl, hv, ⟨P_of ht hP, hD⟩⟩, hS.F ht⟩) hS.2.2 dX9_tell_84
            · have hv := hv.2 c19
              refine lv_iload_n hx hb dX9_tell_71 rfl (lv_at hl 0 rfl) ?_
              refine lv_bipush (v := 100) hx hb dX9_tell_72 (by decide) ?_
              refine lv_iadd hx hb dX9_tell_74 ?_
              refine lv_goto (tgt := 84) hx hb dX9_tell_75 (by decide) ?_
              rw [hZ]; rw [hQ] at hv
              exact W.iret (v := ((rdA σ18 2 (Int32.toNatClampNeg p_)) + 100)) hx hb hr (fun t ht hW => ⟨⟨((rdA σ18 2 (Int32.toNatClampNeg p_)) + 100), σ18, rfl, hv, ⟨P_of ht hP, hD⟩⟩, hS.F ht⟩) hS.2.2 dX9_tell_84
          · have hv := hv.2 c20
            refine lv_iload_n hx hb dX9_tell_62 rfl (lv_at hl 0 rfl) ?_
            refine lv_goto (tgt := 84) hx hb dX9_tell_63 (by decide) ?_
            rw [hZ]; rw [hQ] at hv
            exact W.iret (v := (rdA σ18 2 (Int32.toNatClampNeg p_))) hx hb hr (fun t ht hW => ⟨⟨(rdA σ18 2 (Int32.toNatClampNeg p_)), σ18, rfl, hv, ⟨P_of ht hP, hD⟩⟩, hS.F ht⟩) hS.2.2 dX9_tell_84
        · have hv := hv.2 c24
          refine lv_aload_n hx hb dX9_tell_46 rfl (lv_at hl 1 rfl) ?_
          refine lv_iconst (v := 1) hx hb dX9_tell_47 (by decide) ?_
          have hp := True.intro
          refine k_rel_v (w := wR cy ad) (va_runV (As := [.int 1]) (rest := []) ⟨hx, hb, hml, hown, hts⟩ (h_X9_traced D cy ad A 1 σ18 hp) (cwV 1 hts gX9_tell_X9_traced rfl rfl rfl (by decide +kernel) ⟨le_R hRf (Nat.le_of_ble_eq_true rfl), le_R hRl (Nat.le_of_ble_eq_true rfl)⟩) ⟨(fun a U g mk q => ⟨q.1, q.2.blind⟩), va_recv hK hP (ci := 9) (q0 := 0) rfl (wR_0 cy ad σ18), (fun U hU hW => ⟨rfl, WdR.pre hP hK hD hN hU hW⟩)⟩ rfl rfl hl.1 rfl (lv_room (Nat.le_of_ble_eq_true rfl)) dX9_tell_48 ⟨le_R hRc (Nat.le_refl 0), le_R hRs (Nat.le_refl 0)⟩) hS (fun σ21 H locs hr1 hP hD hS => ?_)
          have hv := hv σ21 hr1
          refine lv_aload_n hx hb dX9_tell_51 rfl (lv_at hl 1 rfl) ?_
          refine va_get (ci := 9) (v := .ref (ad (2))) (C := RX9) (T := TX9) (N := 38) hx hb hts hinX9 hown hK hP 0 (wR_0 cy ad σ21) rfl 3 (by decide) (hts (.fieldLink RX9 13 "TaleBansModel" "mindsOf" "[I") (List.mem_of_getElem? (i := 2) rfl)) (fun x h => h) rfl dX9_tell_52 ?_
          refine lv_iload_n hx hb dX9_tell_55 rfl (lv_at hl 2 rfl) ?_
          obtain ⟨hi, hv⟩ := hv
          refine va_iald hx hb hK hP 2 0 (wR_2 cy ad σ21) rfl hi dX9_tell_56 ?_
          refine lv_istore_n (lv' := [(3, .int (rdA σ21 2 (Int32.toNatClampNeg p_))), (2, .int (rdA σ0 1 (Int32.toNatClampNeg p_))), (0, .ref (ad 0)), (1, .int p_)]) hx hb dX9_tell_57 rfl hl (by decide) rfl (fun ls hl => ?_)
          refine lv_iload_n hx hb dX9_tell_58 rfl (lv_at hl 1 rfl) ?_
          refine lv_if_ne (tgt := 66) hx hb dX9_tell_59 (by decide) (fun c23 => ?_) (fun c23 => ?_)
          · have hv := hv.1 c23
            refine lv_iload_n hx hb dX9_tell_66 rfl (lv_at hl 1 rfl) ?_
            refine lv_iconst (v := 1) hx hb dX9_tell_67 (by decide) ?_
            refine lv_icmp_ne (tgt := 78) hx hb dX9_tell_68 (by decide) (fun c22 => ?_) (fun c22 => ?_)
            · have hv := hv.1 c22
              refine lv_iconst (v := 2) hx hb dX9_tell_78 (by decide) ?_
              refine lv_iload_n hx hb dX9_tell_79 rfl (lv_at hl 0 rfl) ?_
              refine lv_imul hx hb dX9_tell_80 ?_
              refine lv_bipush (v := 100) hx hb dX9_tell_81 (by decide) ?_
              refine lv_iadd hx hb dX9_tell_83 ?_
              rw [hZ]; rw [hQ] at hv
              exact W.iret (v := ((2 * (rdA σ21 2 (Int32.toNatClampNeg p_))) + 100)) hx hb hr (fun t ht hW => ⟨⟨((2 * (rdA σ21 2 (Int32.toNatClampNeg p_))) + 100), σ21, rfl, hv, ⟨P_of ht hP, hD⟩⟩, hS.F ht⟩) hS.2.2 dX9_tell_84
            · have hv := hv.2 c22
              refine lv_iload_n hx hb dX9_tell_71 rfl (lv_at hl 0 rfl) ?_
              refine lv_bipush (v := 100) hx hb dX9_tell_72 (by decide) ?_
              refine lv_iadd hx hb dX9_tell_74 ?_
              refine lv_goto (tgt := 84) hx hb dX9_tell_75 (by decide) ?_
              rw [hZ]; rw [hQ] at hv
              exact W.iret (v := ((rdA σ21 2 (Int32.toNatClampNeg p_)) + 100)) hx hb hr (fun t ht hW => ⟨⟨((rdA σ21 2 (Int32.toNatClampNeg p_)) + 100), σ21, rfl, hv, ⟨P_of ht hP, hD⟩⟩, hS.F ht⟩) hS.2.2 dX9_tell_84
          · have hv := hv.2 c23
            refine lv_iload_n hx hb dX9_tell_62 rfl (lv_at hl 0 rfl) ?_
            refine lv_goto (tgt := 84) hx hb dX9_tell_63 (by decide) ?_
            rw [hZ]; rw [hQ] at hv
            exact W.iret (v := (rdA σ21 2 (Int32.toNatClampNeg p_))) hx hb hr (fun t ht hW => ⟨⟨(rdA σ21 2 (Int32.toNatClampNeg p_)), σ21, rfl, hv, ⟨P_of ht hP, hD⟩⟩, hS.F ht⟩) hS.2.2 dX9_tell_84
      · have hv := hv.2 c33
        refine lv_aload_n hx hb dX9_tell_31 rfl (lv_at hl 1 rfl) ?_
        refine lv_iconst (v := 2) hx hb dX9_tell_32 (by decide) ?_
        have hp := True.intro
        refine k_rel_v (w := wR cy ad) (va_runV (As := [.int 2]) (rest := []) ⟨hx, hb, hml, hown, hts⟩ (h_X9_traced D cy ad A 2 σ17 hp) (cwV 1 hts gX9_tell_X9_traced rfl rfl rfl (by decide +kernel) ⟨le_R hRf (Nat.le_of_ble_eq_true rfl), le_R hRl (Nat.le_of_ble_eq_true rfl)⟩) ⟨(fun a U g mk q => ⟨q.1, q.2.blind⟩), va_recv hK hP (ci := 9) (q0 := 0) rfl (wR_0 cy ad σ17), (fun U hU hW => ⟨rfl, WdR.pre hP hK hD hN hU hW⟩)⟩ rfl rfl hl.1 rfl (lv_room (Nat.le_of_ble_eq_true rfl)) dX9_tell_33 ⟨le_R hRc (Nat.le_refl 0), le_R hRs (Nat.le_refl 0)⟩) hS (fun σ25 H locs hr1 hP hD hS => ?_)
        have hv := hv σ25 hr1
        refine lv_aload_n hx hb dX9_tell_36 rfl (lv_at hl 1 rfl) ?_
        refine lv_iconst (v := 1) hx hb dX9_tell_37 (by decide) ?_
        have hp := True.intro
        refine k_rel_v (w := wR cy ad) (va_runV (As := [.int 1]) (rest := []) ⟨hx, hb, hml, hown, hts⟩ (h_X9_traced D cy ad A 1 σ25 hp) (cwV 1 hts gX9_tell_X9_traced rfl rfl rfl (by decide +kernel) ⟨le_R hRf (Nat.le_of_ble_eq_true rfl), le_R hRl (Nat.le_of_ble_eq_true rfl)⟩) ⟨(fun a U g mk q => ⟨q.1, q.2.blind⟩), va_recv hK hP (ci := 9) (q0 := 0) rfl (wR_0 cy ad σ25), (fun U hU hW => ⟨rfl, WdR.pre hP hK hD hN hU hW⟩)⟩ rfl rfl hl.1 rfl (lv_room (Nat.le_of_ble_eq_true rfl)) dX9_tell_38 ⟨le_R hRc (Nat.le_refl 0), le_R hRs (Nat.le_refl 0)⟩) hS (fun σ26 H locs hr1 hP hD hS => ?_)
        have hv := hv σ26 hr1
        refine lv_iload_n hx hb dX9_tell_41 rfl (lv_at hl 0 rfl) ?_
        refine lv_iconst (v := 2) hx hb dX9_tell_42 (by decide) ?_
        refine lv_icmp_ne (tgt := 51) hx hb dX9_tell_43 (by decide) (fun c32 => ?_) (fun c32 => ?_)
        · have hv := hv.1 c32
          refine lv_aload_n hx hb dX9_tell_51 rfl (lv_at hl 1 rfl) ?_
          refine va_get (ci := 9) (v := .ref (ad (2))) (C := RX9) (T := TX9) (N := 38) hx hb hts hinX9 hown hK hP 0 (wR_0 cy ad σ26) rfl 3 (by decide) (hts (.fieldLink RX9 13 "TaleBansModel" "mindsOf" "[I") (List.mem_of_getElem? (i := 2) rfl)) (fun x h => h) rfl dX9_tell_52 ?_
          refine lv_iload_n hx hb dX9_tell_55 rfl (lv_at hl 2 rfl) ?_
          obtain ⟨hi, hv⟩ := hv
          refine va_iald hx hb hK hP 2 0 (wR_2 cy ad σ26) rfl hi dX9_tell_56 ?_
          refine lv_istore_n (lv' := [(3, .int (rdA σ26 2 (Int32.toNatClampNeg p_))), (2, .int (rdA σ0 1 (Int32.toNatClampNeg p_))), (0, .ref (ad 0)), (1, .int p_)]) hx hb dX9_tell_57 rfl hl (by decide) rfl (fun ls hl => ?_)
          refine lv_iload_n hx hb dX9_tell_58 rfl (lv_at hl 1 rfl) ?_
          refine lv_if_ne (tgt := 66) hx hb dX9_tell_59 (by decide) (fun c28 => ?_) (fun c28 => ?_)
          · have hv := hv.1 c28
            refine lv_iload_n hx hb dX9_tell_66 rfl (lv_at hl 1 rfl) ?_
            refine lv_iconst (v := 1) hx hb dX9_tell_67 (by decide) ?_
            refine lv_icmp_ne (tgt := 78) hx hb dX9_tell_68 (by decide) (fun c27 => ?_) (fun c27 => ?_)
            · have hv := hv.1 c27
              refine lv_iconst (v := 2) hx hb dX9_tell_78 (by decide) ?_
              refine lv_iload_n hx hb dX9_tell_79 rfl (lv_at hl 0 rfl) ?_
              refine lv_imul hx hb dX9_tell_80 ?_
              refine lv_bipush (v := 100) hx hb dX9_tell_81 (by decide) ?_
              refine lv_iadd hx hb dX9_tell_83 ?_
              rw [hZ]; rw [hQ] at hv
              exact W.iret (v := ((2 * (rdA σ26 2 (Int32.toNatClampNeg p_))) + 100)) hx hb hr (fun t ht hW => ⟨⟨((2 * (rdA σ26 2 (Int32.toNatClampNeg p_))) + 100), σ26, rfl, hv, ⟨P_of ht hP, hD⟩⟩, hS.F ht⟩) hS.2.2 dX9_tell_84
            · have hv := hv.2 c27
              refine lv_iload_n hx hb dX9_tell_71 rfl (lv_at hl 0 rfl) ?_
              refine lv_bipush (v := 100) hx hb dX9_tell_72 (by decide) ?_
              refine lv_iadd hx hb dX9_tell_74 ?_
              refine lv_goto (tgt := 84) hx hb dX9_tell_75 (by decide) ?_
              rw [hZ]; rw [hQ] at hv
              exact W.iret (v := ((rdA σ26 2 (Int32.toNatClampNeg p_)) + 100)) hx hb hr (fun t ht hW => ⟨⟨((rdA σ26 2 (Int32.toNatClampNeg p_)) + 100), σ26, rfl, hv, ⟨P_of ht hP, hD⟩⟩, hS.F ht⟩) hS.2.2 dX9_tell_84
          · have hv := hv.2 c28
            refine lv_iload_n hx hb dX9_tell_62 rfl (lv_at hl 0 rfl) ?_
            refine lv_goto (tgt := 84) hx hb dX9_tell_63 (by decide) ?_
            rw [hZ]; rw [hQ] at hv
            exact W.iret (v := (rdA σ26 2 (Int32.toNatClampNeg p_))) hx hb hr (fun t ht hW => ⟨⟨(rdA σ26 2 (Int32.toNatClampNeg p_)), σ26, rfl, hv, ⟨P_of ht hP, hD⟩⟩, hS.F ht⟩) hS.2.2 dX9_tell_84
        · have hv := hv.2 c32
          refine lv_aload_n hx hb dX9_tell_46 rfl (lv_at hl 1 rfl) ?_
          refine lv_iconst (v := 1) hx hb dX9_tell_47 (by decide) ?_
          have hp := True.intro
          refine k_rel_v (w := wR cy ad) (va_runV (As := [.int 1]) (rest := []) ⟨hx, hb, hml, hown, hts⟩ (h_X9_traced D cy ad A 1 σ26 hp) (cwV 1 hts gX9_tell_X9_traced rfl rfl rfl (by decide +kernel) ⟨le_R hRf (Nat.le_of_ble_eq_true rfl), le_R hRl (Nat.le_of_ble_eq_true rfl)⟩) ⟨(fun a U g mk q => ⟨q.1, q.2.blind⟩), va_recv hK hP (ci := 9) (q0 := 0) rfl (wR_0 cy ad σ26), (fun U hU hW => ⟨rfl, WdR.pre hP hK hD hN hU hW⟩)⟩ rfl rfl hl.1 rfl (lv_room (Nat.le_of_ble_eq_true rfl)) dX9_tell_48 ⟨le_R hRc (Nat.le_refl 0), le_R hRs (Nat.le_refl 0)⟩) hS (fun σ29 H locs hr1 hP hD hS => ?_)
          have hv := hv σ29 hr1
          refine lv_aload_n hx hb dX9_tell_51 rfl (lv_at hl 1 rfl) ?_
          refine va_get (ci := 9) (v := .ref (ad (2))) (C := RX9) (T := TX9) (N := 38) hx hb hts hinX9 hown hK hP 0 (wR_0 cy ad σ29) rfl 3 (by decide) (hts (.fieldLink RX9 13 "TaleBansModel" "mindsOf" "[I") (List.mem_of_getElem? (i := 2) rfl)) (fun x h => h) rfl dX9_tell_52 ?_
          refine lv_iload_n hx hb dX9_tell_55 rfl (lv_at hl 2 rfl) ?_
          obtain ⟨hi, hv⟩ := hv
          refine va_iald hx hb hK hP 2 0 (wR_2 cy ad σ29) rfl hi dX9_tell_56 ?_
          refine lv_istore_n (lv' := [(3, .int (rdA σ29 2 (Int32.toNatClampNeg p_))), (2, .int (rdA σ0 1 (Int32.toNatClampNeg p_))), (0, .ref (ad 0)), (1, .int p_)]) hx hb dX9_tell_57 rfl hl (by decide) rfl (fun ls hl => ?_)
          refine lv_iload_n hx hb dX9_tell_58 rfl (lv_at hl 1 rfl) ?_
          refine lv_if_ne (tgt := 66) hx hb dX9_tell_59 (by decide) (fun c31 => ?_) (fun c31 => ?_)
          · have hv := hv.1 c31
            refine lv_iload_n hx hb dX9_tell_66 rfl (lv_at hl 1 rfl) ?_
            refine lv_iconst (v := 1) hx hb dX9_tell_67 (by decide) ?_
            refine lv_icmp_ne (tgt := 78) hx hb dX9_tell_68 (by decide) (fun c30 => ?_) (fun c30 => ?_)
            · have hv := hv.1 c30
              refine lv_iconst (v := 2) hx hb dX9_tell_78 (by decide) ?_
              refine lv_iload_n hx hb dX9_tell_79 rfl (lv_at hl 0 rfl) ?_
              refine lv_imul hx hb dX9_tell_80 ?_
              refine lv_bipush (v := 100) hx hb dX9_tell_81 (by decide) ?_
              refine lv_iadd hx hb dX9_tell_83 ?_
              rw [hZ]; rw [hQ] at hv
              exact W.iret (v := ((2 * (rdA σ29 2 (Int32.toNatClampNeg p_))) + 100)) hx hb hr (fun t ht hW => ⟨⟨((2 * (rdA σ29 2 (Int32.toNatClampNeg p_))) + 100), σ29, rfl, hv, ⟨P_of ht hP, hD⟩⟩, hS.F ht⟩) hS.2.2 dX9_tell_84
            · have hv := hv.2 c30
              refine lv_iload_n hx hb dX9_tell_71 rfl (lv_at hl 0 rfl) ?_
              refine lv_bipush (v := 100) hx hb dX9_tell_72 (by decide) ?_
              refine lv_iadd hx hb dX9_tell_74 ?_
              refine lv_goto (tgt := 84) hx hb dX9_tell_75 (by decide) ?_
              rw [hZ]; rw [hQ] at hv
              exact W.iret (v := ((rdA σ29 2 (Int32.toNatClampNeg p_)) + 100)) hx hb hr (fun t ht hW => ⟨⟨((rdA σ29 2 (Int32.toNatClampNeg p_)) + 100), σ29, rfl, hv, ⟨P_of ht hP, hD⟩⟩, hS.F ht⟩) hS.2.2 dX9_tell_84
          · have hv := hv.2 c31
            refine lv_iload_n hx hb dX9_tell_62 rfl (lv_at hl 0 rfl) ?_
            refine lv_goto (tgt := 84) hx hb dX9_tell_63 (by decide) ?_
            rw [hZ]; rw [hQ] at hv
            exact W.iret (v := (rdA σ29 2 (Int32.toNatClampNeg p_))) hx hb hr (fun t ht hW => ⟨⟨(rdA σ29 2 (Int32.toNatClampNeg p_)), σ29, rfl, hv, ⟨P_of ht hP, hD⟩⟩, hS.F ht⟩) hS.2.2 dX9_tell_84
  · have hv := hv.2 c35
    refine lv_iconst (v := (-1)) hx hb dX9_tell_8 (by decide) ?_
    rw [hZ]; rw [hQ] at hv
    exact W.iret (v := (-1)) hx hb hr (fun t ht hW => ⟨⟨(-1), σ0, rfl, hv, ⟨P_of ht hP, hD⟩⟩, hS.F ht⟩) hS.2.2 dX9_tell_9
set_option maxHeartbeats 4000000 in
set_option maxRecDepth 100000 in
theorem wk_X9_greet (l : Launch) (h_X9_noPerson : Ct_X9_noPerson l) (h_X9_traced : Ct_X9_traced l) (sp : Sp_X9_greet) : Ct_X9_greet l := by
  intro D cy ad A p_ ag σ0  hpre
  refine Met.ofW (cc := cX9_greet) (maxL := 2) (ret := (some .int)) (by decide) rfl ?_
  intro p e s m args below meth c s₁ B hml hv0
  obtain ⟨rfl, hP, hK, hD, hN⟩ := hv0
  have hx := B.exec
  have hb := B.bytes
  have hr := B.returns
  have hts := atoms_spec (ws := wsX9_greet) B.pre
  have hown : s.vm.findClass RX9 = some m.cls := findClass_of_methodNamed B.named
  have hlocks := B.notSynchronized
  have hv := sp p_ ag σ0 hpre
  have hl := lv_entry ([.ref (ad 0), .int p_]) (n := 2) (Nat.le_of_ble_eq_true rfl)
  rw [lg_entry_eq]
  generalize (lg_sl ([.ref (ad 0), .int p_]) ++ List.replicate (2 - (lg_sl ([.ref (ad 0), .int p_])).length) Slot.unset).toArray = ls at hl ⊢
  have hl : lv_has ls 2 [(0, .ref (ad 0)), (1, .int p_)] := hl
  refine W_gen (fun R Z H locs hR hZ hH hlo => ?_)
  have hRf : R.frames = 2 := by rw [hR]; rfl
  have hRl : R.locals = 46 := by rw [hR]; rfl
  have hRc : R.cells = 0 := by rw [hR]; rfl
  have hRs : R.slots = 0 := by rw [hR]; rfl
  have hS : va_S A s.heap H locs := by rw [hH, hlo]; exact va_S.rf
  rw [← hH] at hP
  obtain ⟨Q, hQ⟩ : ∃ q : Int32 → S_ → Prop, q = (post_X9_greet p_ ag σ0) := ⟨_, rfl⟩
  rw [← hQ] at hv
  have hinX9 : ∀ w ∈ wsX90, w ∈ wsX9_greet := by decide +kernel
  refine lv_aload_n hx hb dX9_greet_0 rfl (lv_at hl 0 rfl) ?_
  refine lv_iload_n hx hb dX9_greet_1 rfl (lv_at hl 1 rfl) ?_
  have hp := True.intro
  refine k_read_i (w := wR cy ad) (va_runV (As := [.int p_]) (rest := []) ⟨hx, hb, hml, hown, hts⟩ (h_X9_noPerson D cy ad A p_ σ0 hp) (cwV 1 hts gX9_greet_X9_noPerson rfl rfl rfl (by decide +kernel) ⟨le_R hRf (Nat.le_of_ble_eq_true rfl), le_R hRl (Nat.le_of_ble_eq_true rfl)⟩) ⟨(fun a U g mk q => ⟨q.1, q.2.blind⟩), va_recv hK hP (ci := 9) (q0 := 0) rfl (wR_0 cy ad σ0), (fun U hU hW => ⟨rfl, WdR.pre hP hK hD hN hU hW⟩)⟩ rfl rfl hl.1 rfl (lv_room (Nat.le_of_ble_eq_true rfl)) dX9_greet_2 ⟨le_R hRc (Nat.le_refl 0), le_R hRs (Nat.le_refl 0)⟩) hS (fun r H locs hr1 hP hS => ?_)
  subst hr1
  refine lv_if_eq (tgt := 10) hx hb dX9_greet_5 (by decide) (fun c7 => ?_) (fun c7 => ?_)
  · have hv := hv.1 c7
    refine lv_aload_n hx hb dX9_greet_10 rfl (lv_at hl 0 rfl) ?_
    refine lv_aload_n hx hb dX9_greet_11 rfl (lv_at hl 0 rfl) ?_
    refine va_get (ci := 9) (v := .ref (ad (1))) (C := RX9) (T := TX9) (N := 38) hx hb hts hinX9 hown hK hP 0 (wR_0 cy ad σ0) rfl 2 (by decide) (hts (.fieldLink RX9 7 "TaleBansModel" "kindOf" "[I") (List.mem_of_getElem? (i := 1) rfl)) (fun x h => h) rfl dX9_greet_12 ?_
    refine lv_iload_n hx hb dX9_greet_15 rfl (lv_at hl 1 rfl) ?_
    obtain ⟨hi, hv⟩ := hv
    refine va_iald hx hb hK hP 1 0 (wR_1 cy ad σ0) rfl hi dX9_greet_16 ?_
    refine lv_iconst (v := 2) hx hb dX9_greet_17 (by decide) ?_
    obtain ⟨P1, hv, hvr⟩ := hv
    have jn2 : ∀ (b3 : Int32) (H : Heap) (locs : List Loc) (ls : Array Slot), P1 b3 → va_P D vwCl (wR cy ad σ0) H → va_S A s.heap H locs → lv_has ls 2 [(0, .ref (ad 0)), (1, .int p_)] → W p l e R s m ([.ref (ad 0), .int p_] : List Value).toArray below meth c H locs 0 0 Z (F0 m 26 ls [.int b3, .ref (ad 0)]) := by
      intro b3 H locs ls hv hP hS hl
      have hv := hvr b3 hv
      have hp := True.intro
      refine k_rel_v (w := wR cy ad) (va_runV (As := [.int b3]) (rest := []) ⟨hx, hb, hml, hown, hts⟩ (h_X9_traced D cy ad A b3 σ0 hp) (cwV 1 hts gX9_greet_X9_traced rfl rfl rfl (by decide +kernel) ⟨le_R hRf (Nat.le_of_ble_eq_true rfl), le_R hRl (Nat.le_of_ble_eq_true rfl)⟩) ⟨(fun a U g mk q => ⟨q.1, q.2.blind⟩), va_recv hK hP (ci := 9) (q0 := 0) rfl (wR_0 cy ad σ0), (fun U hU hW => ⟨rfl, WdR.pre hP hK hD hN hU hW⟩)⟩ rfl rfl hl.1 rfl (lv_room (Nat.le_of_ble_eq_true rfl)) dX9_greet_26 ⟨le_R hRc (Nat.le_refl 0), le_R hRs (Nat.le_refl 0)⟩) hS (fun σ5 H locs hr1 hP hD hS => ?_)
      have hv := hv σ5 hr1
      refine lv_aload_n hx hb dX9_greet_29 rfl (lv_at hl 0 rfl) ?_
      refine va_get (ci := 9) (v := .ref (ad (1))) (C := RX9) (T := TX9) (N := 38) hx hb hts hinX9 hown hK hP 0 (wR_0 cy ad σ5) rfl 2 (by decide) (hts (.fieldLink RX9 7 "TaleBansModel" "kindOf" "[I") (List.mem_of_getElem? (i := 1) rfl)) (fun x h => h) rfl dX9_greet_30 ?_
      refine lv_iload_n hx hb dX9_greet_33 rfl (lv_at hl 1 rfl) ?_
      obtain ⟨hi, hv⟩ := hv
      refine va_iald hx hb hK hP 1 0 (wR_1 cy ad σ5) rfl hi dX9_greet_34 ?_
      refine lv_iconst (v := 2) hx hb dX9_greet_35 (by decide) ?_
      refine lv_icmp_ne (tgt := 44) hx hb dX9_greet_36 (by decide) (fun c6 => ?_) (fun c6 => ?_)
      · have hv := hv.1 c6
        refine lv_iload_n hx hb dX9_greet_44 rfl (lv_at hl 1 rfl) ?_
        rw [hZ]; rw [hQ] at hv
        exact W.iret (v := p_) hx hb hr (fun t ht hW => ⟨⟨p_, σ5, rfl, hv, ⟨P_of ht hP, hD⟩⟩, hS.F ht⟩) hS.2.2 dX9_greet_45
      · have hv := hv.2 c6
        refine lv_bipush (v := 70) hx hb dX9_greet_39 (by decide) ?_
        refine lv_goto (tgt := 45) hx hb dX9_greet_41 (by decide) ?_
        rw [hZ]; rw [hQ] at hv
        exact W.iret (v := 70) hx hb hr (fun t ht hW => ⟨⟨70, σ5, rfl, hv, ⟨P_of ht hP, hD⟩⟩, hS.F ht⟩) hS.2.2 dX9_greet_45
    refine lv_icmp_ne (tgt := 25) hx hb dX9_greet_18 (by decide) (fun c4 => ?_) (fun c4 => ?_)
    · have hv := hv.1 c4
      refine lv_iconst (v := 4) hx hb dX9_greet_25 (by decide) ?_
      exact jn2 4 _ _ _ hv hP hS hl
    · have hv := hv.2 c4
      refine lv_iconst (v := 5) hx hb dX9_greet_21 (by decide) ?_
      refine lv_goto (tgt := 26) hx hb dX9_greet_22 (by decide) ?_
      exact jn2 5 _ _ _ hv hP hS hl
  · have hv := hv.2 c7
    refine lv_iconst (v := (-1)) hx hb dX9_greet_8 (by decide) ?_
    rw [hZ]; rw [hQ] at hv
    exact W.iret (v := (-1)) hx hb hr (fun t ht hW => ⟨⟨(-1), σ0, rfl, hv, ⟨P_of ht hP, hD⟩⟩, hS.F ht⟩) hS.2.2 dX9_greet_9
set_option maxHeartbeats 4000000 in
set_option maxRecDepth 100000 in
theorem wk_X9_as (l : Launch) (h_X9_failed : Ct_X9_failed l) (h_X9_in : Ct_X9_in l) (h_X9_noPerson : Ct_X9_noPerson l) (h_X9_refused : Ct_X9_refused l) (sp : Sp_X9_as) : Ct_X9_as l := by
  intro D cy ad A p_ kind_ ag σ0  hpre
  refine Met.ofW (cc := cX9_as) (maxL := 3) (ret := (some .int)) (by decide) rfl ?_
  intro p e s m args below meth c s₁ B hml hv0
  obtain ⟨rfl, hP, hK, hD, hN⟩ := hv0
  have hx := B.exec
  have hb := B.bytes
  have hr := B.returns
  have hts := atoms_spec (ws := wsX9_as) B.pre
  have hown : s.vm.findClass RX9 = some m.cls := findClass_of_methodNamed B.named
  have hlocks := B.notSynchronized
  have hv := sp p_ kind_ ag σ0 hpre
  have hl := lv_entry ([.ref (ad 0), .int p_, .int kind_]) (n := 3) (Nat.le_of_ble_eq_true rfl)
  rw [lg_entry_eq]
  generalize (lg_sl ([.ref (ad 0), .int p_, .int kind_]) ++ List.replicate (3 - (lg_sl ([.ref (ad 0), .int p_, .int kind_])).length) Slot.unset).toArray = ls at hl ⊢
  have hl : lv_has ls 3 [(0, .ref (ad 0)), (1, .int p_), (2, .int kind_)] := hl
  refine W_gen (fun R Z H locs hR hZ hH hlo => ?_)
  have hRf : R.frames = 2 := by rw [hR]; rfl
  have hRl : R.locals = 46 := by rw [hR]; rfl
  have hRc : R.cells = 0 := by rw [hR]; rfl
  have hRs : R.slots = 0 := by rw [hR]; rfl
  have hS : va_S A s.heap H locs := by rw [hH, hlo]; exact va_S.rf
  rw [← hH] at hP
  obtain ⟨Q, hQ⟩ : ∃ q : Int32 → S_ → Prop, q = (post_X9_as p_ kind_ ag σ0) := ⟨_, rfl⟩
  rw [← hQ] at hv
  have hinX9 : ∀ w ∈ wsX90, w ∈ wsX9_as := by decide +kernel
  refine lv_aload_n hx hb dX9_as_0 rfl (lv_at hl 0 rfl) ?_
  refine lv_iload_n hx hb dX9_as_1 rfl (lv_at hl 1 rfl) ?_
  have hp := True.intro
  refine k_read_i (w := wR cy ad) (va_runV (As := [.int p_]) (rest := []) ⟨hx, hb, hml, hown, hts⟩ (h_X9_noPerson D cy ad A p_ σ0 hp) (cwV 1 hts gX9_as_X9_noPerson rfl rfl rfl (by decide +kernel) ⟨le_R hRf (Nat.le_of_ble_eq_true rfl), le_R hRl (Nat.le_of_ble_eq_true rfl)⟩) ⟨(fun a U g mk q => ⟨q.1, q.2.blind⟩), va_recv hK hP (ci := 9) (q0 := 0) rfl (wR_0 cy ad σ0), (fun U hU hW => ⟨rfl, WdR.pre hP hK hD hN hU hW⟩)⟩ rfl rfl hl.1 rfl (lv_room (Nat.le_of_ble_eq_true rfl)) dX9_as_2 ⟨le_R hRc (Nat.le_refl 0), le_R hRs (Nat.le_refl 0)⟩) hS (fun r H locs hr1 hP hS => ?_)
  subst hr1
  refine lv_if_eq (tgt := 14) hx hb dX9_as_5 (by decide) (fun c11 => ?_) (fun c11 => ?_)
  · have hv := hv.1 c11
    refine lv_iload_n hx hb dX9_as_14 rfl (lv_at hl 2 rfl) ?_
    refine lv_i2l hx hb dX9_as_15 rfl ?_
    refine lv_lconst (v := 0) hx hb dX9_as_16 rfl ?_
    refine lv_ldc2 (v := (2)) hx hb hown (hts (.constantLong RX9 114 (2)) (List.mem_of_getElem? (i := 1) rfl)) dX9_as_17 ?_
    refine k_pure_i (va_runS (As := [.long (Int32.toInt64 kind_), .long 0, .long (2)]) (rest := []) ⟨hx, hb, hml, hown, hts⟩ (h_X9_in (Int32.toInt64 kind_) 0 (2)) (va_cwS 3 hts gX9_as_X9_in rfl rfl rfl (by decide +kernel) ⟨le_R hRf (Nat.le_of_ble_eq_true rfl), le_R hRl (Nat.le_of_ble_eq_true rfl)⟩) ⟨(fun a U g mk q => ⟨q.1, trivial⟩), (fun U hU hW => ⟨rfl, trivial⟩)⟩ rfl rfl hl.1 rfl (lv_room (Nat.le_of_ble_eq_true rfl)) dX9_as_20 ⟨le_R hRc (Nat.le_refl 0), le_R hRs (Nat.le_refl 0)⟩) hS hP (fun r H locs hr1 hP hS => ?_)
    subst hr1
    refine lv_if_ne (tgt := 33) hx hb dX9_as_23 (by decide) (fun c8 => ?_) (fun c8 => ?_)
    · have hv := hv.1 c8
      refine lv_aload_n hx hb dX9_as_33 rfl (lv_at hl 0 rfl) ?_
      refine va_get (ci := 9) (v := .ref (ad (1))) (C := RX9) (T := TX9) (N := 38) hx hb hts hinX9 hown hK hP 0 (wR_0 cy ad σ0) rfl 2 (by decide) (hts (.fieldLink RX9 7 "TaleBansModel" "kindOf" "[I") (List.mem_of_getElem? (i := 2) rfl)) (fun x h => h) rfl dX9_as_34 ?_
      refine lv_iload_n hx hb dX9_as_37 rfl (lv_at hl 1 rfl) ?_
      obtain ⟨hi, hv⟩ := hv
      refine va_iald hx hb hK hP 1 0 (wR_1 cy ad σ0) rfl hi dX9_as_38 ?_
      refine lv_iload_n hx hb dX9_as_39 rfl (lv_at hl 2 rfl) ?_
      refine lv_icmp_lt (tgt := 51) hx hb dX9_as_40 (by decide) (fun c5 => ?_) (fun c5 => ?_)
      · have hv := hv.1 c5
        refine lv_aload_n hx hb dX9_as_51 rfl (lv_at hl 0 rfl) ?_
        refine lv_iconst (v := 2) hx hb dX9_as_52 (by decide) ?_
        have hp := True.intro
        refine k_rel_i (w := wR cy ad) (va_runV (As := [.int 2]) (rest := []) ⟨hx, hb, hml, hown, hts⟩ (h_X9_failed D cy ad A 2 σ0 hp) (cwV 1 hts gX9_as_X9_failed rfl rfl rfl (by decide +kernel) ⟨le_R hRf (Nat.le_of_ble_eq_true rfl), le_R hRl (Nat.le_of_ble_eq_true rfl)⟩) ⟨(fun a U g mk q => ⟨q.1, q.2.blind⟩), va_recv hK hP (ci := 9) (q0 := 0) rfl (wR_0 cy ad σ0), (fun U hU hW => ⟨rfl, WdR.pre hP hK hD hN hU hW⟩)⟩ rfl rfl hl.1 rfl (lv_room (Nat.le_of_ble_eq_true rfl)) dX9_as_53 ⟨le_R hRc (Nat.le_refl 0), le_R hRs (Nat.le_refl 0)⟩) hS (fun r2 σ1 H locs hr1 hP hD hS => ?_)
        have hv := hv r2 σ1 hr1
        rw [hZ]; rw [hQ] at hv
        exact W.iret (v := r2) hx hb hr (fun t ht hW => ⟨⟨r2, σ1, rfl, hv, ⟨P_of ht hP, hD⟩⟩, hS.F ht⟩) hS.2.2 dX9_as_56
      · have hv := hv.2 c5
        refine lv_aload_n hx hb dX9_as_43 rfl (lv_at hl 0 rfl) ?_
        refine lv_iconst (v := 1) hx hb dX9_as_44 (by decide) ?_
        have hp := True.intro
        refine k_rel_i (w := wR cy ad) (va_runV (As := [.int 1]) (rest := []) ⟨hx, hb, hml, hown, hts⟩ (h_X9_refused D cy ad A 1 σ0 hp) (cwV 1 hts gX9_as_X9_refused rfl rfl rfl (by decide +kernel) ⟨le_R hRf (Nat.le_of_ble_eq_true rfl), le_R hRl (Nat.le_of_ble_eq_true rfl)⟩) ⟨(fun a U g mk q => ⟨q.1, q.2.blind⟩), va_recv hK hP (ci := 9) (q0 := 0) rfl (wR_0 cy ad σ0), (fun U hU hW => ⟨rfl, WdR.pre hP hK hD hN hU hW⟩)⟩ rfl rfl hl.1 rfl (lv_room (Nat.le_of_ble_eq_true rfl)) dX9_as_45 ⟨le_R hRc (Nat.le_refl 0), le_R hRs (Nat.le_refl 0)⟩) hS (fun r4 σ3 H locs hr1 hP hD hS => ?_)
        have hv := hv r4 σ3 hr1
        refine lv_goto (tgt := 56) hx hb dX9_as_48 (by decide) ?_
        rw [hZ]; rw [hQ] at hv
        exact W.iret (v := r4) hx hb hr (fun t ht hW => ⟨⟨r4, σ3, rfl, hv, ⟨P_of ht hP, hD⟩⟩, hS.F ht⟩) hS.2.2 dX9_as_56
    · have hv := hv.2 c8
      refine lv_aload_n hx hb dX9_as_26 rfl (lv_at hl 0 rfl) ?_
      refine lv_bipush (v := (-2)) hx hb dX9_as_27 (by decide) ?_
      have hp := True.intro
      refine k_rel_i (w := wR cy ad) (va_runV (As := [.int (-2)]) (rest := []) ⟨hx, hb, hml, hown, hts⟩ (h_X9_refused D cy ad A (-2) σ0 hp) (cwV 1 hts gX9_as_X9_refused rfl rfl rfl (by decide +kernel) ⟨le_R hRf (Nat.le_of_ble_eq_true rfl), le_R hRl (Nat.le_of_ble_eq_true rfl)⟩) ⟨(fun a U g mk q => ⟨q.1, q.2.blind⟩), va_recv hK hP (ci := 9) (q0 := 0) rfl (wR_0 cy ad σ0), (fun U hU hW => ⟨rfl, WdR.pre hP hK hD hN hU hW⟩)⟩ rfl rfl hl.1 rfl (lv_room (Nat.le_of_ble_eq_true rfl)) dX9_as_29 ⟨le_R hRc (Nat.le_refl 0), le_R hRs (Nat.le_refl 0)⟩) hS (fun r7 σ6 H locs hr1 hP hD hS => ?_)
      have hv := hv r7 σ6 hr1
      rw [hZ]; rw [hQ] at hv
      exact W.iret (v := r7) hx hb hr (fun t ht hW => ⟨⟨r7, σ6, rfl, hv, ⟨P_of ht hP, hD⟩⟩, hS.F ht⟩) hS.2.2 dX9_as_32
  · have hv := hv.2 c11
    refine lv_aload_n hx hb dX9_as_8 rfl (lv_at hl 0 rfl) ?_
    refine lv_iconst (v := (-1)) hx hb dX9_as_9 (by decide) ?_
    have hp := True.intro
    refine k_rel_i (w := wR cy ad) (va_runV (As := [.int (-1)]) (rest := []) ⟨hx, hb, hml, hown, hts⟩ (h_X9_refused D cy ad A (-1) σ0 hp) (cwV 1 hts gX9_as_X9_refused rfl rfl rfl (by decide +kernel) ⟨le_R hRf (Nat.le_of_ble_eq_true rfl), le_R hRl (Nat.le_of_ble_eq_true rfl)⟩) ⟨(fun a U g mk q => ⟨q.1, q.2.blind⟩), va_recv hK hP (ci := 9) (q0 := 0) rfl (wR_0 cy ad σ0), (fun U hU hW => ⟨rfl, WdR.pre hP hK hD hN hU hW⟩)⟩ rfl rfl hl.1 rfl (lv_room (Nat.le_of_ble_eq_true rfl)) dX9_as_10 ⟨le_R hRc (Nat.le_refl 0), le_R hRs (Nat.le_refl 0)⟩) hS (fun r10 σ9 H locs hr1 hP hD hS => ?_)
    have hv := hv r10 σ9 hr1
    rw [hZ]; rw [hQ] at hv
    exact W.iret (v := r10) hx hb hr (fun t ht hW => ⟨⟨r10, σ9, rfl, hv, ⟨P_of ht hP, hD⟩⟩, hS.F ht⟩) hS.2.2 dX9_as_13
set_option maxHeartbeats 4000000 in
set_option maxRecDepth 100000 in
theorem wk_X9_trace (l : Launch) (sp : Sp_X9_trace) : Ct_X9_trace l := by
  intro D cy ad A  ag σ0  hpre
  refine Met.ofW (cc := cX9_trace) (maxL := 1) (ret := (some .int)) (by decide) rfl ?_
  intro p e s m args below meth c s₁ B hml hv0
  obtain ⟨rfl, hP, hK, hD, hN⟩ := hv0
  have hx := B.exec
  have hb := B.bytes
  have hr := B.returns
  have hts := atoms_spec (ws := wsX9_trace) B.pre
  have hown : s.vm.findClass RX9 = some m.cls := findClass_of_methodNamed B.named
  have hlocks := B.notSynchronized
  have hv := sp  ag σ0 hpre
  have hl := lv_entry ([.ref (ad 0)]) (n := 1) (Nat.le_of_ble_eq_true rfl)
  rw [lg_entry_eq]
  generalize (lg_sl ([.ref (ad 0)]) ++ List.replicate (1 - (lg_sl ([.ref (ad 0)])).length) Slot.unset).toArray = ls at hl ⊢
  have hl : lv_has ls 1 [(0, .ref (ad 0))] := hl
  refine W_gen (fun R Z H locs hR hZ hH hlo => ?_)
  have hRf : R.frames = 0 := by rw [hR]; rfl
  have hRl : R.locals = 0 := by rw [hR]; rfl
  have hRc : R.cells = 0 := by rw [hR]; rfl
  have hRs : R.slots = 0 := by rw [hR]; rfl
  have hS : va_S A s.heap H locs := by rw [hH, hlo]; exact va_S.rf
  rw [← hH] at hP
  obtain ⟨Q, hQ⟩ : ∃ q : Int32 → S_ → Prop, q = (post_X9_trace  ag σ0) := ⟨_, rfl⟩
  rw [← hQ] at hv
  have hinX9 : ∀ w ∈ wsX90, w ∈ wsX9_trace := by decide +kernel
  refine lv_aload_n hx hb dX9_trace_0 rfl (lv_at hl 0 rfl) ?_
  refine va_get (ci := 9) (v := .int (rdI σ0 10)) (C := RX9) (T := TX9) (N := 38) hx hb hts hinX9 hown hK hP 0 (wR_0 cy ad σ0) rfl 37 (by decide) (hts (.fieldLink RX9 257 "TaleBansModel" "traceNow" "I") (List.mem_of_getElem? (i := 1) rfl)) (fun x h => h) rfl dX9_trace_1 ?_
  rw [hZ]; rw [hQ] at hv
  exact W.iret (v := (rdI σ0 10)) hx hb hr (fun t ht hW => ⟨⟨(rdI σ0 10), σ0, rfl, hv, ⟨P_of ht hP, hD⟩⟩, hS.F ht⟩) hS.2.2 dX9_trace_4
set_option maxHeartbeats 4000000 in
set_option maxRecDepth 100000 in
theorem wk_X9_fault (l : Launch) (sp : Sp_X9_fault) : Ct_X9_fault l := by
  intro D cy ad A  ag σ0  hpre
  refine Met.ofW (cc := cX9_fault) (maxL := 1) (ret := (some .int)) (by decide) rfl ?_
  intro p e s m args below meth c s₁ B hml hv0
  obtain ⟨rfl, hP, hK, hD, hN⟩ := hv0
  have hx := B.exec
  have hb := B.bytes
  have hr := B.returns
  have hts := atoms_spec (ws := wsX9_fault) B.pre
  have hown : s.vm.findClass RX9 = some m.cls := findClass_of_methodNamed B.named
  have hlocks := B.notSynchronized
  have hv := sp  ag σ0 hpre
  have hl := lv_entry ([.ref (ad 0)]) (n := 1) (Nat.le_of_ble_eq_true rfl)
  rw [lg_entry_eq]
  generalize (lg_sl ([.ref (ad 0)]) ++ List.replicate (1 - (lg_sl ([.ref (ad 0)])).length) Slot.unset).toArray = ls at hl ⊢
  have hl : lv_has ls 1 [(0, .ref (ad 0))] := hl
  refine W_gen (fun R Z H locs hR hZ hH hlo => ?_)
  have hRf : R.frames = 0 := by rw [hR]; rfl
  have hRl : R.locals = 0 := by rw [hR]; rfl
  have hRc : R.cells = 0 := by rw [hR]; rfl
  have hRs : R.slots = 0 := by rw [hR]; rfl
  have hS : va_S A s.heap H locs := by rw [hH, hlo]; exact va_S.rf
  rw [← hH] at hP
  obtain ⟨Q, hQ⟩ : ∃ q : Int32 → S_ → Prop, q = (post_X9_fault  ag σ0) := ⟨_, rfl⟩
  rw [← hQ] at hv
  have hinX9 : ∀ w ∈ wsX90, w ∈ wsX9_fault := by decide +kernel
  refine lv_aload_n hx hb dX9_fault_0 rfl (lv_at hl 0 rfl) ?_
  refine va_get (ci := 9) (v := .int (rdI σ0 0)) (C := RX9) (T := TX9) (N := 38) hx hb hts hinX9 hown hK hP 0 (wR_0 cy ad σ0) rfl 0 (by decide) (hts (.fieldLink RX9 94 "TaleBansModel" "fault" "I") (List.mem_of_getElem? (i := 1) rfl)) (fun x h => h) rfl dX9_fault_1 ?_
  rw [hZ]; rw [hQ] at hv
  exact W.iret (v := (rdI σ0 0)) hx hb hr (fun t ht hW => ⟨⟨(rdI σ0 0), σ0, rfl, hv, ⟨P_of ht hP, hD⟩⟩, hS.F ht⟩) hS.2.2 dX9_fault_4
set_option maxHeartbeats 4000000 in
set_option maxRecDepth 100000 in
theorem wk_X9_many (l : Launch) (sp : Sp_X9_many) : Ct_X9_many l := by
  intro D cy ad A what_ ag σ0  hpre
  refine Met.ofW (cc := cX9_many) (maxL := 2) (ret := (some .int)) (by decide) rfl ?_
  intro p e s m args below meth c s₁ B hml hv0
  obtain ⟨rfl, hP, hK, hD, hN⟩ := hv0
  have hx := B.exec
  have hb := B.bytes
  have hr := B.returns
  have hts := atoms_spec (ws := wsX9_many) B.pre
  have hown : s.vm.findClass RX9 = some m.cls := findClass_of_methodNamed B.named
  have hlocks := B.notSynchronized
  have hv := sp what_ ag σ0 hpre
  have hl := lv_entry ([.ref (ad 0), .int what_]) (n := 2) (Nat.le_of_ble_eq_true rfl)
  rw [lg_entry_eq]
  generalize (lg_sl ([.ref (ad 0), .int what_]) ++ List.replicate (2 - (lg_sl ([.ref (ad 0), .int what_])).length) Slot.unset).toArray = ls at hl ⊢
  have hl : lv_has ls 2 [(0, .ref (ad 0)), (1, .int what_)] := hl
  refine W_gen (fun R Z H locs hR hZ hH hlo => ?_)
  have hRf : R.frames = 0 := by rw [hR]; rfl
  have hRl : R.locals = 0 := by rw [hR]; rfl
  have hRc : R.cells = 0 := by rw [hR]; rfl
  have hRs : R.slots = 0 := by rw [hR]; rfl
  have hS : va_S A s.heap H locs := by rw [hH, hlo]; exact va_S.rf
  rw [← hH] at hP
  obtain ⟨Q, hQ⟩ : ∃ q : Int32 → S_ → Prop, q = (post_X9_many what_ ag σ0) := ⟨_, rfl⟩
  rw [← hQ] at hv
  have hinX9 : ∀ w ∈ wsX90, w ∈ wsX9_many := by decide +kernel
  refine lv_iload_n hx hb dX9_many_0 rfl (lv_at hl 1 rfl) ?_
  by_cases c2 : what_ = 0
  · have hv := hv.1 c2
    refine lv_tableIn (tgt := 40) hx hb dX9_many_1 (by rw [c2]; decide) (by rw [c2]; decide) (by first | (rw [c2]; done) | (rw [c2]; rfl)) (by decide) ?_
    refine lv_aload_n hx hb dX9_many_40 rfl (lv_at hl 0 rfl) ?_
    refine va_get (ci := 9) (v := .int (rdI σ0 1)) (C := RX9) (T := TX9) (N := 38) hx hb hts hinX9 hown hK hP 0 (wR_0 cy ad σ0) rfl 1 (by decide) (hts (.fieldLink RX9 102 "TaleBansModel" "persons" "I") (List.mem_of_getElem? (i := 1) rfl)) (fun x h => h) rfl dX9_many_41 ?_
    rw [hZ]; rw [hQ] at hv
    exact W.iret (v := (rdI σ0 1)) hx hb hr (fun t ht hW => ⟨⟨(rdI σ0 1), σ0, rfl, hv, ⟨P_of ht hP, hD⟩⟩, hS.F ht⟩) hS.2.2 dX9_many_44
  · have hv := hv.2 c2
    by_cases c3 : what_ = 1
    · have hv := hv.1 c3
      refine lv_tableIn (tgt := 45) hx hb dX9_many_1 (by rw [c3]; decide) (by rw [c3]; decide) (by first | (rw [c3]; done) | (rw [c3]; rfl)) (by decide) ?_
      refine lv_aload_n hx hb dX9_many_45 rfl (lv_at hl 0 rfl) ?_
      refine va_get (ci := 9) (v := .int (rdI σ0 6)) (C := RX9) (T := TX9) (N := 38) hx hb hts hinX9 hown hK hP 0 (wR_0 cy ad σ0) rfl 12 (by decide) (hts (.fieldLink RX9 109 "TaleBansModel" "tales" "I") (List.mem_of_getElem? (i := 2) rfl)) (fun x h => h) rfl dX9_many_46 ?_
      rw [hZ]; rw [hQ] at hv
      exact W.iret (v := (rdI σ0 6)) hx hb hr (fun t ht hW => ⟨⟨(rdI σ0 6), σ0, rfl, hv, ⟨P_of ht hP, hD⟩⟩, hS.F ht⟩) hS.2.2 dX9_many_49
    · have hv := hv.2 c3
      by_cases c4 : what_ = 2
      · have hv := hv.1 c4
        refine lv_tableIn (tgt := 50) hx hb dX9_many_1 (by rw [c4]; decide) (by rw [c4]; decide) (by first | (rw [c4]; done) | (rw [c4]; rfl)) (by decide) ?_
        refine lv_aload_n hx hb dX9_many_50 rfl (lv_at hl 0 rfl) ?_
        refine va_get (ci := 9) (v := .int (rdI σ0 7)) (C := RX9) (T := TX9) (N := 38) hx hb hts hinX9 hown hK hP 0 (wR_0 cy ad σ0) rfl 17 (by decide) (hts (.fieldLink RX9 164 "TaleBansModel" "moves" "I") (List.mem_of_getElem? (i := 3) rfl)) (fun x h => h) rfl dX9_many_51 ?_
        rw [hZ]; rw [hQ] at hv
        exact W.iret (v := (rdI σ0 7)) hx hb hr (fun t ht hW => ⟨⟨(rdI σ0 7), σ0, rfl, hv, ⟨P_of ht hP, hD⟩⟩, hS.F ht⟩) hS.2.2 dX9_many_54
      · have hv := hv.2 c4
        by_cases c5 : what_ = 3
        · have hv := hv.1 c5
          refine lv_tableIn (tgt := 55) hx hb dX9_many_1 (by rw [c5]; decide) (by rw [c5]; decide) (by first | (rw [c5]; done) | (rw [c5]; rfl)) (by decide) ?_
          refine lv_aload_n hx hb dX9_many_55 rfl (lv_at hl 0 rfl) ?_
          refine va_get (ci := 9) (v := .int (rdI σ0 8)) (C := RX9) (T := TX9) (N := 38) hx hb hts hinX9 hown hK hP 0 (wR_0 cy ad σ0) rfl 25 (by decide) (hts (.fieldLink RX9 167 "TaleBansModel" "needs" "I") (List.mem_of_getElem? (i := 4) rfl)) (fun x h => h) rfl dX9_many_56 ?_
          rw [hZ]; rw [hQ] at hv
          exact W.iret (v := (rdI σ0 8)) hx hb hr (fun t ht hW => ⟨⟨(rdI σ0 8), σ0, rfl, hv, ⟨P_of ht hP, hD⟩⟩, hS.F ht⟩) hS.2.2 dX9_many_59
        · have hv := hv.2 c5
          by_cases c6 : what_ = 4
          · have hv := hv.1 c6
            refine lv_tableIn (tgt := 60) hx hb dX9_many_1 (by rw [c6]; decide) (by rw [c6]; decide) (by first | (rw [c6]; done) | (rw [c6]; rfl)) (by decide) ?_
            refine lv_aload_n hx hb dX9_many_60 rfl (lv_at hl 0 rfl) ?_
            refine va_get (ci := 9) (v := .int (rdI σ0 9)) (C := RX9) (T := TX9) (N := 38) hx hb hts hinX9 hown hK hP 0 (wR_0 cy ad σ0) rfl 28 (by decide) (hts (.fieldLink RX9 170 "TaleBansModel" "readings" "I") (List.mem_of_getElem? (i := 5) rfl)) (fun x h => h) rfl dX9_many_61 ?_
            rw [hZ]; rw [hQ] at hv
            exact W.iret (v := (rdI σ0 9)) hx hb hr (fun t ht hW => ⟨⟨(rdI σ0 9), σ0, rfl, hv, ⟨P_of ht hP, hD⟩⟩, hS.F ht⟩) hS.2.2 dX9_many_64
          · have hv := hv.2 c6
            by_cases c7 : what_ = 5
            · have hv := hv.1 c7
              refine lv_tableIn (tgt := 65) hx hb dX9_many_1 (by rw [c7]; decide) (by rw [c7]; decide) (by first | (rw [c7]; done) | (rw [c7]; rfl)) (by decide) ?_
              refine lv_aload_n hx hb dX9_many_65 rfl (lv_at hl 0 rfl) ?_
              refine va_get (ci := 9) (v := .int (rdI σ0 3)) (C := RX9) (T := TX9) (N := 38) hx hb hts hinX9 hown hK hP 0 (wR_0 cy ad σ0) rfl 6 (by decide) (hts (.fieldLink RX9 161 "TaleBansModel" "lawNow" "I") (List.mem_of_getElem? (i := 6) rfl)) (fun x h => h) rfl dX9_many_66 ?_
              rw [hZ]; rw [hQ] at hv
              exact W.iret (v := (rdI σ0 3)) hx hb hr (fun t ht hW => ⟨⟨(rdI σ0 3), σ0, rfl, hv, ⟨P_of ht hP, hD⟩⟩, hS.F ht⟩) hS.2.2 dX9_many_69
            · have hv := hv.2 c7
              refine lv_tableOut (tgt := 70) hx hb dX9_many_1 (sw_out (lo := 0) (hi := 5) what_ (fun k h1 h2 hk => by
                have h3 : k = 0 ∨ k = 1 ∨ k = 2 ∨ k = 3 ∨ k = 4 ∨ k = 5 := by omega
                rcases h3 with rfl | rfl | rfl | rfl | rfl | rfl
                · exact c2 (sw_k hk (by decide))
                · exact c3 (sw_k hk (by decide))
                · exact c4 (sw_k hk (by decide))
                · exact c5 (sw_k hk (by decide))
                · exact c6 (sw_k hk (by decide))
                · exact c7 (sw_k hk (by decide)))) (by decide) ?_
              refine lv_bipush (v := (-2)) hx hb dX9_many_70 (by decide) ?_
              rw [hZ]; rw [hQ] at hv
              exact W.iret (v := (-2)) hx hb hr (fun t ht hW => ⟨⟨(-2), σ0, rfl, hv, ⟨P_of ht hP, hD⟩⟩, hS.F ht⟩) hS.2.2 dX9_many_72
set_option maxHeartbeats 4000000 in
set_option maxRecDepth 100000 in
theorem wk_X9_in (l : Launch) (sp : Sp_X9_in) : Ct_X9_in l := by
  intro v_ l_ h_
  refine Met.ofW (cc := cX9_in) (maxL := 6) (ret := (some .boolean)) (by decide) rfl ?_
  intro p e s m args below meth c s₁ B hml hv0
  obtain ⟨rfl, -⟩ := hv0
  have hx := B.exec
  have hb := B.bytes
  have hr := B.returns
  have hts := atoms_spec (ws := wsX9_in) B.pre
  have hown : s.vm.findClass RX9 = some m.cls := findClass_of_methodNamed B.named
  have hlocks := B.notSynchronized
  have hv := sp v_ l_ h_
  have hl := lv_entry ([.long v_, .long l_, .long h_]) (n := 6) (Nat.le_of_ble_eq_true rfl)
  rw [lg_entry_eq]
  generalize (lg_sl ([.long v_, .long l_, .long h_]) ++ List.replicate (6 - (lg_sl ([.long v_, .long l_, .long h_])).length) Slot.unset).toArray = ls at hl ⊢
  have hl : lv_has ls 6 [(0, .long v_), (2, .long l_), (4, .long h_)] := hl
  refine W_gen (fun R Z H locs hR hZ hH hlo => ?_)
  have hRf : R.frames = 0 := by rw [hR]; rfl
  have hRl : R.locals = 0 := by rw [hR]; rfl
  have hRc : R.cells = 0 := by rw [hR]; rfl
  have hRs : R.slots = 0 := by rw [hR]; rfl
  have hS : va_S (fun _ => False) s.heap H locs := by rw [hH, hlo]; exact va_S.rf
  obtain ⟨Q, hQ⟩ : ∃ q : Int32 → Prop, q = (fun r => r = fn_X9_in v_ l_ h_) := ⟨_, rfl⟩
  rw [← hQ] at hv
  refine lv_lload_n hx hb dX9_in_0 rfl (lv_at hl 0 rfl) ?_
  refine lv_lload_n hx hb dX9_in_1 rfl (lv_at hl 1 rfl) ?_
  refine W.lcmp hx hb dX9_in_2 ?_
  refine lv_if_lt (tgt := 17) hx hb dX9_in_3 (by decide) (fun c2 => ?_) (fun c2 => ?_)
  · have hv := hv.1 c2
    refine lv_iconst (v := 0) hx hb dX9_in_17 (by decide) ?_
    rw [hZ]; rw [hQ] at hv
    exact W.zret (v := 0) hx hb hr rfl (fun t ht hW => ⟨⟨0, (), rfl, hv, trivial⟩, hS.F ht⟩) hS.2.2 dX9_in_18
  · have hv := hv.2 c2
    refine lv_lload_n hx hb dX9_in_6 rfl (lv_at hl 0 rfl) ?_
    refine lv_lload hx hb dX9_in_7 (lv_at hl 2 rfl) ?_
    refine W.lcmp hx hb dX9_in_9 ?_
    refine lv_if_gt (tgt := 17) hx hb dX9_in_10 (by decide) (fun c1 => ?_) (fun c1 => ?_)
    · have hv := hv.1 c1
      refine lv_iconst (v := 0) hx hb dX9_in_17 (by decide) ?_
      rw [hZ]; rw [hQ] at hv
      exact W.zret (v := 0) hx hb hr rfl (fun t ht hW => ⟨⟨0, (), rfl, hv, trivial⟩, hS.F ht⟩) hS.2.2 dX9_in_18
    · have hv := hv.2 c1
      refine lv_iconst (v := 1) hx hb dX9_in_13 (by decide) ?_
      refine lv_goto (tgt := 18) hx hb dX9_in_14 (by decide) ?_
      rw [hZ]; rw [hQ] at hv
      exact W.zret (v := 1) hx hb hr rfl (fun t ht hW => ⟨⟨1, (), rfl, hv, trivial⟩, hS.F ht⟩) hS.2.2 dX9_in_18
set_option maxHeartbeats 4000000 in
set_option maxRecDepth 100000 in
theorem wk_X9_lost (l : Launch) (sp : Sp_X9_lost) : Ct_X9_lost l := by
  skip
  refine Met.ofW (cc := cX9_lost) (maxL := 0) (ret := (some .long)) (by decide) rfl ?_
  intro p e s m args below meth c s₁ B hml hv0
  obtain ⟨rfl, -⟩ := hv0
  have hx := B.exec
  have hb := B.bytes
  have hr := B.returns
  have hts := atoms_spec (ws := wsX9_lost) B.pre
  have hown : s.vm.findClass RX9 = some m.cls := findClass_of_methodNamed B.named
  have hlocks := B.notSynchronized
  have hv := sp 
  unfold Sp_X9_lost at hv
  have hl := lv_entry ([]) (n := 0) (Nat.le_of_ble_eq_true rfl)
  rw [lg_entry_eq]
  generalize (lg_sl ([]) ++ List.replicate (0 - (lg_sl ([])).length) Slot.unset).toArray = ls at hl ⊢
  have hl : lv_has ls 0 [] := hl
  refine W_gen (fun R Z H locs hR hZ hH hlo => ?_)
  have hRf : R.frames = 0 := by rw [hR]; rfl
  have hRl : R.locals = 0 := by rw [hR]; rfl
  have hRc : R.cells = 0 := by rw [hR]; rfl
  have hRs : R.slots = 0 := by rw [hR]; rfl
  have hS : va_S (fun _ => False) s.heap H locs := by rw [hH, hlo]; exact va_S.rf
  obtain ⟨Q, hQ⟩ : ∃ q : Int64 → Prop, q = (fun r => r = fn_X9_lost) := ⟨_, rfl⟩
  rw [← hQ] at hv
  refine lv_ldc2 (v := (-9223372036854775808)) hx hb hown (hts (.constantLong RX9 92 (-9223372036854775808)) (List.mem_of_getElem? (i := 1) rfl)) dX9_lost_0 ?_
  rw [hZ]; rw [hQ] at hv
  exact W.lret (v := (-9223372036854775808)) hx hb hr (fun t ht hW => ⟨⟨(-9223372036854775808), (), rfl, hv, trivial⟩, hS.F ht⟩) hS.2.2 dX9_lost_3
set_option maxHeartbeats 4000000 in
set_option maxRecDepth 100000 in
theorem wk_X9_isIn (l : Launch) (sp : Sp_X9_isIn) : Ct_X9_isIn l := by
  intro set_ k_
  refine Met.ofW (cc := cX9_isIn) (maxL := 2) (ret := (some .boolean)) (by decide) rfl ?_
  intro p e s m args below meth c s₁ B hml hv0
  obtain ⟨rfl, -⟩ := hv0
  have hx := B.exec
  have hb := B.bytes
  have hr := B.returns
  have hts := atoms_spec (ws := wsX9_isIn) B.pre
  have hown : s.vm.findClass RX9 = some m.cls := findClass_of_methodNamed B.named
  have hlocks := B.notSynchronized
  have hv := sp set_ k_
  have hl := lv_entry ([.int set_, .int k_]) (n := 2) (Nat.le_of_ble_eq_true rfl)
  rw [lg_entry_eq]
  generalize (lg_sl ([.int set_, .int k_]) ++ List.replicate (2 - (lg_sl ([.int set_, .int k_])).length) Slot.unset).toArray = ls at hl ⊢
  have hl : lv_has ls 2 [(0, .int set_), (1, .int k_)] := hl
  refine W_gen (fun R Z H locs hR hZ hH hlo => ?_)
  have hRf : R.frames = 0 := by rw [hR]; rfl
  have hRl : R.locals = 0 := by rw [hR]; rfl
  have hRc : R.cells = 0 := by rw [hR]; rfl
  have hRs : R.slots = 0 := by rw [hR]; rfl
  have hS : va_S (fun _ => False) s.heap H locs := by rw [hH, hlo]; exact va_S.rf
  obtain ⟨Q, hQ⟩ : ∃ q : Int32 → Prop, q = (fun r => r = fn_X9_isIn set_ k_) := ⟨_, rfl⟩
  rw [← hQ] at hv
  refine lv_iload_n hx hb dX9_isIn_0 rfl (lv_at hl 0 rfl) ?_
  refine lv_iload_n hx hb dX9_isIn_1 rfl (lv_at hl 1 rfl) ?_
  refine lv_ishr hx hb dX9_isIn_2 ?_
  refine lv_iconst (v := 1) hx hb dX9_isIn_3 (by decide) ?_
  refine lv_iand hx hb dX9_isIn_4 ?_
  refine lv_iconst (v := 1) hx hb dX9_isIn_5 (by decide) ?_
  refine lv_icmp_ne (tgt := 13) hx hb dX9_isIn_6 (by decide) (fun c1 => ?_) (fun c1 => ?_)
  · have hv := hv.1 c1
    refine lv_iconst (v := 0) hx hb dX9_isIn_13 (by decide) ?_
    rw [hZ]; rw [hQ] at hv
    exact W.zret (v := 0) hx hb hr rfl (fun t ht hW => ⟨⟨0, (), rfl, hv, trivial⟩, hS.F ht⟩) hS.2.2 dX9_isIn_14
  · have hv := hv.2 c1
    refine lv_iconst (v := 1) hx hb dX9_isIn_9 (by decide) ?_
    refine lv_goto (tgt := 14) hx hb dX9_isIn_10 (by decide) ?_
    rw [hZ]; rw [hQ] at hv
    exact W.zret (v := 1) hx hb hr rfl (fun t ht hW => ⟨⟨1, (), rfl, hv, trivial⟩, hS.F ht⟩) hS.2.2 dX9_isIn_14
set_option maxHeartbeats 4000000 in
set_option maxRecDepth 100000 in
theorem wk_X9_bits (l : Launch) (sp : Sp_X9_bits) : Ct_X9_bits l := by
  intro set_
  refine Met.ofW (cc := cX9_bits) (maxL := 3) (ret := (some .int)) (by decide) rfl ?_
  intro p e s m args below meth c s₁ B hml hv0
  obtain ⟨rfl, -⟩ := hv0
  have hx := B.exec
  have hb := B.bytes
  have hr := B.returns
  have hts := atoms_spec (ws := wsX9_bits) B.pre
  have hown : s.vm.findClass RX9 = some m.cls := findClass_of_methodNamed B.named
  have hlocks := B.notSynchronized
  have hv := sp set_
  have hl := lv_entry ([.int set_]) (n := 3) (Nat.le_of_ble_eq_true rfl)
  rw [lg_entry_eq]
  generalize (lg_sl ([.int set_]) ++ List.replicate (3 - (lg_sl ([.int set_])).length) Slot.unset).toArray = ls at hl ⊢
  have hl : lv_has ls 3 [(0, .int set_)] := hl
  refine W_gen (fun R Z H locs hR hZ hH hlo => ?_)
  have hRf : R.frames = 0 := by rw [hR]; rfl
  have hRl : R.locals = 0 := by rw [hR]; rfl
  have hRc : R.cells = 0 := by rw [hR]; rfl
  have hRs : R.slots = 0 := by rw [hR]; rfl
  have hS : va_S (fun _ => False) s.heap H locs := by rw [hH, hlo]; exact va_S.rf
  obtain ⟨Q, hQ⟩ : ∃ q : Int32 → Prop, q = (fun r => r = fn_X9_bits set_) := ⟨_, rfl⟩
  rw [← hQ] at hv
  refine lv_iconst (v := 0) hx hb dX9_bits_0 (by decide) ?_
  refine lv_istore_n (lv' := [(1, .int 0), (0, .int set_)]) hx hb dX9_bits_1 rfl hl (by decide) rfl (fun ls hl => ?_)
  refine lv_iload_n hx hb dX9_bits_2 rfl (lv_at hl 1 rfl) ?_
  refine lv_istore_n (lv' := [(2, .int set_), (1, .int 0), (0, .int set_)]) hx hb dX9_bits_3 rfl hl (by decide) rfl (fun ls hl => ?_)
  obtain ⟨n4, hv⟩ := hv
  have lp4 : ∀ (nn4 : Nat) (x1 : Int32) (x2 : Int32) (H : Heap) (locs : List Loc) (ls : Array Slot), vl_X9_bits_4 Q nn4 x1 x2 → va_S (fun _ => False) s.heap H locs → lv_has ls 3 [(1, .int x1), (2, .int x2)] → W p l e R s m ([.int set_] : List Value).toArray  below meth c H locs 0 0 Z (F0 m 4 ls []) := by
    intro nn4
    induction nn4 with
    | zero => intro x1 x2 H locs ls hv; exact absurd hv id
    | succ mm4 ih4 =>
      intro x1 x2 H locs ls hv hS hl
      refine lv_iload_n hx hb dX9_bits_4 rfl (lv_at hl 1 rfl) ?_
      refine lv_if_le (tgt := 21) hx hb dX9_bits_5 (by decide) (fun c3 => ?_) (fun c3 => ?_)
      · have hv := hv.1 c3
        refine lv_iload_n hx hb dX9_bits_21 rfl (lv_at hl 0 rfl) ?_
        rw [hZ]; rw [hQ] at hv
        exact W.iret (v := x1) hx hb hr (fun t ht hW => ⟨⟨x1, (), rfl, hv, trivial⟩, hS.F ht⟩) hS.2.2 dX9_bits_22
      · have hv := hv.2 c3
        refine lv_iload_n hx hb dX9_bits_8 rfl (lv_at hl 0 rfl) ?_
        refine lv_iload_n hx hb dX9_bits_9 rfl (lv_at hl 1 rfl) ?_
        refine lv_iconst (v := 1) hx hb dX9_bits_10 (by decide) ?_
        refine lv_iand hx hb dX9_bits_11 ?_
        refine lv_iadd hx hb dX9_bits_12 ?_
        refine lv_istore_n (lv' := [(1, .int (x1 + (x2 &&& 1))), (2, .int x2)]) hx hb dX9_bits_13 rfl hl (by decide) rfl (fun ls hl => ?_)
        refine lv_iload_n hx hb dX9_bits_14 rfl (lv_at hl 1 rfl) ?_
        refine lv_iconst (v := 1) hx hb dX9_bits_15 (by decide) ?_
        refine lv_ishr hx hb dX9_bits_16 ?_
        refine lv_istore_n (lv' := [(2, .int (x2 >>> (1 &&& 31))), (1, .int (x1 + (x2 &&& 1)))]) hx hb dX9_bits_17 rfl hl (by decide) rfl (fun ls hl => ?_)
        refine lv_goto (tgt := 4) hx hb dX9_bits_18 (by decide) ?_
        exact ih4 (x1 + (x2 &&& 1)) (x2 >>> (1 &&& 31)) _ _ _ hv hS (lv_sub hl [1, 0] rfl)
  exact lp4 n4 0 set_ _ _ _ hv hS (lv_sub hl [1, 0] rfl)
set_option maxHeartbeats 4000000 in
set_option maxRecDepth 100000 in
theorem wk_X9_shareOf (l : Launch) (sp : Sp_X9_shareOf) : Ct_X9_shareOf l := by
  intro D cy ad A up_ down_ which_ ug dg σ0  hpre
  refine Met.ofW (cc := cX9_shareOf) (maxL := 11) (ret := (some .long)) (by decide) rfl ?_
  intro p e s m args below meth c s₁ B hml hv0
  obtain ⟨rfl, hP, hK, hD, hN⟩ := hv0
  have hx := B.exec
  have hb := B.bytes
  have hr := B.returns
  have hts := atoms_spec (ws := wsX9_shareOf) B.pre
  have hown : s.vm.findClass RX9 = some m.cls := findClass_of_methodNamed B.named
  have hlocks := B.notSynchronized
  have hv := sp up_ down_ which_ ug dg σ0 hpre
  have hl := lv_entry ([.long up_, .long down_, .int which_]) (n := 11) (Nat.le_of_ble_eq_true rfl)
  rw [lg_entry_eq]
  generalize (lg_sl ([.long up_, .long down_, .int which_]) ++ List.replicate (11 - (lg_sl ([.long up_, .long down_, .int which_])).length) Slot.unset).toArray = ls at hl ⊢
  have hl : lv_has ls 11 [(0, .long up_), (2, .long down_), (4, .int which_)] := hl
  refine W_gen (fun R Z H locs hR hZ hH hlo => ?_)
  have hRf : R.frames = 0 := by rw [hR]; rfl
  have hRl : R.locals = 0 := by rw [hR]; rfl
  have hRc : R.cells = 0 := by rw [hR]; rfl
  have hRs : R.slots = 0 := by rw [hR]; rfl
  have hS : va_S A s.heap H locs := by rw [hH, hlo]; exact va_S.rf
  rw [← hH] at hP
  obtain ⟨Q, hQ⟩ : ∃ q : Int64 → Prop, q = (fun r => post_X9_shareOf up_ down_ which_ ug dg σ0 r) := ⟨_, rfl⟩
  rw [← hQ] at hv
  refine lv_lload_n hx hb dX9_shareOf_0 rfl (lv_at hl 0 rfl) ?_
  refine lv_lstore (lv' := [(5, .long up_), (0, .long up_), (2, .long down_), (4, .int which_)]) hx hb dX9_shareOf_1 hl (by decide) rfl (fun ls hl => ?_)
  refine lv_lload_n hx hb dX9_shareOf_3 rfl (lv_at hl 2 rfl) ?_
  refine lv_lstore (lv' := [(7, .long down_), (5, .long up_), (0, .long up_), (2, .long down_), (4, .int which_)]) hx hb dX9_shareOf_4 hl (by decide) rfl (fun ls hl => ?_)
  obtain ⟨n6, hv⟩ := hv
  have lp6 : ∀ (nn6 : Nat) (x1 : Int64) (x2 : Int64) (H : Heap) (locs : List Loc) (ls : Array Slot), vl_X9_shareOf_6 up_ down_ which_ Q nn6 x1 x2 → va_P D vwCl (wR cy ad σ0) H → va_D A (wR cy ad σ0) → va_S A s.heap H locs → lv_has ls 11 [(0, .long up_), (2, .long down_), (4, .int which_), (5, .long x1), (7, .long x2)] → W p l e R s m ([.long up_, .long down_, .int which_] : List Value).toArray  below meth c H locs 0 0 Z (F0 m 6 ls []) := by
    intro nn6
    induction nn6 with
    | zero => intro x1 x2 H locs ls hv; exact absurd hv id
    | succ mm6 ih6 =>
      intro x1 x2 H locs ls hv hP hD hS hl
      refine lv_lload hx hb dX9_shareOf_6 (lv_at hl 4 rfl) ?_
      refine lv_lconst (v := 0) hx hb dX9_shareOf_8 rfl ?_
      refine W.lcmp hx hb dX9_shareOf_9 ?_
      refine lv_if_eq (tgt := 31) hx hb dX9_shareOf_10 (by decide) (fun c7 => ?_) (fun c7 => ?_)
      · have hv := hv.1 c7
        refine lv_iload hx hb dX9_shareOf_31 (lv_at hl 2 rfl) ?_
        obtain ⟨P3, hv, hvr⟩ := hv
        have jn4 : ∀ (b5 : Int64) (H : Heap) (locs : List Loc) (ls : Array Slot), P3 b5 → va_P D vwCl (wR cy ad σ0) H → va_S A s.heap H locs → lv_has ls 11 [(0, .long up_), (2, .long down_), (4, .int which_), (5, .long x1), (7, .long x2)] → W p l e R s m ([.long up_, .long down_, .int which_] : List Value).toArray below meth c H locs 0 0 Z (F0 m 41 ls [.long b5]) := by
          intro b5 H locs ls hv hP hS hl
          have hv := hvr b5 hv
          refine lv_lload hx hb dX9_shareOf_41 (lv_at hl 3 rfl) ?_
          obtain ⟨hne, hv⟩ := hv
          refine lv_ldiv hx hb dX9_shareOf_43 hne ?_
          rw [hZ]; rw [hQ] at hv
          exact W.lret (v := (b5 / x1)) hx hb hr (fun t ht hW => ⟨⟨(b5 / x1), (), rfl, hv, (P_of ht hP)⟩, hS.F ht⟩) hS.2.2 dX9_shareOf_44
        refine lv_if_ne (tgt := 40) hx hb dX9_shareOf_33 (by decide) (fun c6 => ?_) (fun c6 => ?_)
        · have hv := hv.1 c6
          refine lv_lload_n hx hb dX9_shareOf_40 rfl (lv_at hl 1 rfl) ?_
          exact jn4 down_ _ _ _ hv hP hS hl
        · have hv := hv.2 c6
          refine lv_lload_n hx hb dX9_shareOf_36 rfl (lv_at hl 0 rfl) ?_
          refine lv_goto (tgt := 41) hx hb dX9_shareOf_37 (by decide) ?_
          exact jn4 up_ _ _ _ hv hP hS hl
      · have hv := hv.2 c7
        refine lv_lload hx hb dX9_shareOf_13 (lv_at hl 3 rfl) ?_
        refine lv_lload hx hb dX9_shareOf_15 (lv_at hl 4 rfl) ?_
        obtain ⟨hne, hv⟩ := hv
        refine lv_lrem hx hb dX9_shareOf_17 hne ?_
        refine lv_lstore (lv' := [(9, .long (x1 - x1 / x2 * x2)), (0, .long up_), (2, .long down_), (4, .int which_), (5, .long x1), (7, .long x2)]) hx hb dX9_shareOf_18 hl (by decide) rfl (fun ls hl => ?_)
        refine lv_lload hx hb dX9_shareOf_20 (lv_at hl 5 rfl) ?_
        refine lv_lstore (lv' := [(5, .long x2), (9, .long (x1 - x1 / x2 * x2)), (0, .long up_), (2, .long down_), (4, .int which_), (7, .long x2)]) hx hb dX9_shareOf_22 hl (by decide) rfl (fun ls hl => ?_)
        refine lv_lload hx hb dX9_shareOf_24 (lv_at hl 1 rfl) ?_
        refine lv_lstore (lv' := [(7, .long (x1 - x1 / x2 * x2)), (5, .long x2), (9, .long (x1 - x1 / x2 * x2)), (0, .long up_), (2, .long down_), (4, .int which_)]) hx hb dX9_shareOf_26 hl (by decide) rfl (fun ls hl => ?_)
        refine lv_goto (tgt := 6) hx hb dX9_shareOf_28 (by decide) ?_
        exact ih6 x2 (x1 - x1 / x2 * x2) _ _ _ hv hP hD hS (lv_sub hl [3, 4, 5, 1, 0] rfl)
  exact lp6 n6 up_ down_ _ _ _ hv hP hD hS (lv_sub hl [2, 3, 4, 1, 0] rfl)
set_option maxHeartbeats 4000000 in
set_option maxRecDepth 100000 in
theorem wk_X9_noDeed (l : Launch) (h_X9_in : Ct_X9_in l) (sp : Sp_X9_noDeed) : Ct_X9_noDeed l := by
  intro deed_
  refine Met.ofW (cc := cX9_noDeed) (maxL := 1) (ret := (some .boolean)) (by decide) rfl ?_
  intro p e s m args below meth c s₁ B hml hv0
  obtain ⟨rfl, -⟩ := hv0
  have hx := B.exec
  have hb := B.bytes
  have hr := B.returns
  have hts := atoms_spec (ws := wsX9_noDeed) B.pre
  have hown : s.vm.findClass RX9 = some m.cls := findClass_of_methodNamed B.named
  have hlocks := B.notSynchronized
  have hv := sp deed_
  have hl := lv_entry ([.int deed_]) (n := 1) (Nat.le_of_ble_eq_true rfl)
  rw [lg_entry_eq]
  generalize (lg_sl ([.int deed_]) ++ List.replicate (1 - (lg_sl ([.int deed_])).length) Slot.unset).toArray = ls at hl ⊢
  have hl : lv_has ls 1 [(0, .int deed_)] := hl
  refine W_gen (fun R Z H locs hR hZ hH hlo => ?_)
  have hRf : R.frames = 1 := by rw [hR]; rfl
  have hRl : R.locals = 25 := by rw [hR]; rfl
  have hRc : R.cells = 0 := by rw [hR]; rfl
  have hRs : R.slots = 0 := by rw [hR]; rfl
  have hS : va_S (fun _ => False) s.heap H locs := by rw [hH, hlo]; exact va_S.rf
  obtain ⟨Q, hQ⟩ : ∃ q : Int32 → Prop, q = (fun r => r = fn_X9_noDeed deed_) := ⟨_, rfl⟩
  rw [← hQ] at hv
  refine lv_iload_n hx hb dX9_noDeed_0 rfl (lv_at hl 0 rfl) ?_
  refine lv_i2l hx hb dX9_noDeed_1 rfl ?_
  refine lv_lconst (v := 0) hx hb dX9_noDeed_2 rfl ?_
  refine lv_ldc2 (v := (5)) hx hb hown (hts (.constantLong RX9 112 (5)) (List.mem_of_getElem? (i := 1) rfl)) dX9_noDeed_3 ?_
  refine k_pure0_i (va_runS (As := [.long (Int32.toInt64 deed_), .long 0, .long (5)]) (rest := []) ⟨hx, hb, hml, hown, hts⟩ (h_X9_in (Int32.toInt64 deed_) 0 (5)) (va_cwS 3 hts gX9_noDeed_X9_in rfl rfl rfl (by decide +kernel) ⟨le_R hRf (Nat.le_of_ble_eq_true rfl), le_R hRl (Nat.le_of_ble_eq_true rfl)⟩) ⟨(fun a U g mk q => ⟨q.1, trivial⟩), (fun U hU hW => ⟨rfl, trivial⟩)⟩ rfl rfl hl.1 rfl (lv_room (Nat.le_of_ble_eq_true rfl)) dX9_noDeed_6 ⟨le_R hRc (Nat.le_refl 0), le_R hRs (Nat.le_refl 0)⟩) hS (fun r H locs hr1 hS => ?_)
  subst hr1
  refine lv_if_ne (tgt := 16) hx hb dX9_noDeed_9 (by decide) (fun c1 => ?_) (fun c1 => ?_)
  · have hv := hv.1 c1
    refine lv_iconst (v := 0) hx hb dX9_noDeed_16 (by decide) ?_
    rw [hZ]; rw [hQ] at hv
    exact W.zret (v := 0) hx hb hr rfl (fun t ht hW => ⟨⟨0, (), rfl, hv, trivial⟩, hS.F ht⟩) hS.2.2 dX9_noDeed_17
  · have hv := hv.2 c1
    refine lv_iconst (v := 1) hx hb dX9_noDeed_12 (by decide) ?_
    refine lv_goto (tgt := 17) hx hb dX9_noDeed_13 (by decide) ?_
    rw [hZ]; rw [hQ] at hv
    exact W.zret (v := 1) hx hb hr rfl (fun t ht hW => ⟨⟨1, (), rfl, hv, trivial⟩, hS.F ht⟩) hS.2.2 dX9_noDeed_17
set_option maxHeartbeats 4000000 in
set_option maxRecDepth 100000 in
theorem wk_X9_noHearth (l : Launch) (h_X9_in : Ct_X9_in l) (sp : Sp_X9_noHearth) : Ct_X9_noHearth l := by
  intro h_
  refine Met.ofW (cc := cX9_noHearth) (maxL := 1) (ret := (some .boolean)) (by decide) rfl ?_
  intro p e s m args below meth c s₁ B hml hv0
  obtain ⟨rfl, -⟩ := hv0
  have hx := B.exec
  have hb := B.bytes
  have hr := B.returns
  have hts := atoms_spec (ws := wsX9_noHearth) B.pre
  have hown : s.vm.findClass RX9 = some m.cls := findClass_of_methodNamed B.named
  have hlocks := B.notSynchronized
  have hv := sp h_
  have hl := lv_entry ([.int h_]) (n := 1) (Nat.le_of_ble_eq_true rfl)
  rw [lg_entry_eq]
  generalize (lg_sl ([.int h_]) ++ List.replicate (1 - (lg_sl ([.int h_])).length) Slot.unset).toArray = ls at hl ⊢
  have hl : lv_has ls 1 [(0, .int h_)] := hl
  refine W_gen (fun R Z H locs hR hZ hH hlo => ?_)
  have hRf : R.frames = 1 := by rw [hR]; rfl
  have hRl : R.locals = 25 := by rw [hR]; rfl
  have hRc : R.cells = 0 := by rw [hR]; rfl
  have hRs : R.slots = 0 := by rw [hR]; rfl
  have hS : va_S (fun _ => False) s.heap H locs := by rw [hH, hlo]; exact va_S.rf
  obtain ⟨Q, hQ⟩ : ∃ q : Int32 → Prop, q = (fun r => r = fn_X9_noHearth h_) := ⟨_, rfl⟩
  rw [← hQ] at hv
  refine lv_iload_n hx hb dX9_noHearth_0 rfl (lv_at hl 0 rfl) ?_
  refine lv_i2l hx hb dX9_noHearth_1 rfl ?_
  refine lv_lconst (v := 0) hx hb dX9_noHearth_2 rfl ?_
  refine lv_ldc2 (v := (2)) hx hb hown (hts (.constantLong RX9 114 (2)) (List.mem_of_getElem? (i := 1) rfl)) dX9_noHearth_3 ?_
  refine k_pure0_i (va_runS (As := [.long (Int32.toInt64 h_), .long 0, .long (2)]) (rest := []) ⟨hx, hb, hml, hown, hts⟩ (h_X9_in (Int32.toInt64 h_) 0 (2)) (va_cwS 3 hts gX9_noHearth_X9_in rfl rfl rfl (by decide +kernel) ⟨le_R hRf (Nat.le_of_ble_eq_true rfl), le_R hRl (Nat.le_of_ble_eq_true rfl)⟩) ⟨(fun a U g mk q => ⟨q.1, trivial⟩), (fun U hU hW => ⟨rfl, trivial⟩)⟩ rfl rfl hl.1 rfl (lv_room (Nat.le_of_ble_eq_true rfl)) dX9_noHearth_6 ⟨le_R hRc (Nat.le_refl 0), le_R hRs (Nat.le_refl 0)⟩) hS (fun r H locs hr1 hS => ?_)
  subst hr1
  refine lv_if_ne (tgt := 16) hx hb dX9_noHearth_9 (by decide) (fun c1 => ?_) (fun c1 => ?_)
  · have hv := hv.1 c1
    refine lv_iconst (v := 0) hx hb dX9_noHearth_16 (by decide) ?_
    rw [hZ]; rw [hQ] at hv
    exact W.zret (v := 0) hx hb hr rfl (fun t ht hW => ⟨⟨0, (), rfl, hv, trivial⟩, hS.F ht⟩) hS.2.2 dX9_noHearth_17
  · have hv := hv.2 c1
    refine lv_iconst (v := 1) hx hb dX9_noHearth_12 (by decide) ?_
    refine lv_goto (tgt := 17) hx hb dX9_noHearth_13 (by decide) ?_
    rw [hZ]; rw [hQ] at hv
    exact W.zret (v := 1) hx hb hr rfl (fun t ht hW => ⟨⟨1, (), rfl, hv, trivial⟩, hS.F ht⟩) hS.2.2 dX9_noHearth_17
set_option maxHeartbeats 4000000 in
set_option maxRecDepth 100000 in
theorem wk_X9_isSeason (l : Launch) (h_X9_in : Ct_X9_in l) (sp : Sp_X9_isSeason) : Ct_X9_isSeason l := by
  intro season_
  refine Met.ofW (cc := cX9_isSeason) (maxL := 1) (ret := (some .boolean)) (by decide) rfl ?_
  intro p e s m args below meth c s₁ B hml hv0
  obtain ⟨rfl, -⟩ := hv0
  have hx := B.exec
  have hb := B.bytes
  have hr := B.returns
  have hts := atoms_spec (ws := wsX9_isSeason) B.pre
  have hown : s.vm.findClass RX9 = some m.cls := findClass_of_methodNamed B.named
  have hlocks := B.notSynchronized
  have hv := sp season_
  have hl := lv_entry ([.int season_]) (n := 1) (Nat.le_of_ble_eq_true rfl)
  rw [lg_entry_eq]
  generalize (lg_sl ([.int season_]) ++ List.replicate (1 - (lg_sl ([.int season_])).length) Slot.unset).toArray = ls at hl ⊢
  have hl : lv_has ls 1 [(0, .int season_)] := hl
  refine W_gen (fun R Z H locs hR hZ hH hlo => ?_)
  have hRf : R.frames = 1 := by rw [hR]; rfl
  have hRl : R.locals = 25 := by rw [hR]; rfl
  have hRc : R.cells = 0 := by rw [hR]; rfl
  have hRs : R.slots = 0 := by rw [hR]; rfl
  have hS : va_S (fun _ => False) s.heap H locs := by rw [hH, hlo]; exact va_S.rf
  obtain ⟨Q, hQ⟩ : ∃ q : Int32 → Prop, q = (fun r => r = fn_X9_isSeason season_) := ⟨_, rfl⟩
  rw [← hQ] at hv
  refine lv_iload_n hx hb dX9_isSeason_0 rfl (lv_at hl 0 rfl) ?_
  refine lv_i2l hx hb dX9_isSeason_1 rfl ?_
  refine lv_lconst (v := 0) hx hb dX9_isSeason_2 rfl ?_
  refine lv_ldc2 (v := (39)) hx hb hown (hts (.constantLong RX9 116 (39)) (List.mem_of_getElem? (i := 1) rfl)) dX9_isSeason_3 ?_
  refine k_pure0_i (va_runS (As := [.long (Int32.toInt64 season_), .long 0, .long (39)]) (rest := []) ⟨hx, hb, hml, hown, hts⟩ (h_X9_in (Int32.toInt64 season_) 0 (39)) (va_cwS 3 hts gX9_isSeason_X9_in rfl rfl rfl (by decide +kernel) ⟨le_R hRf (Nat.le_of_ble_eq_true rfl), le_R hRl (Nat.le_of_ble_eq_true rfl)⟩) ⟨(fun a U g mk q => ⟨q.1, trivial⟩), (fun U hU hW => ⟨rfl, trivial⟩)⟩ rfl rfl hl.1 rfl (lv_room (Nat.le_of_ble_eq_true rfl)) dX9_isSeason_6 ⟨le_R hRc (Nat.le_refl 0), le_R hRs (Nat.le_refl 0)⟩) hS (fun r H locs hr1 hS => ?_)
  subst hr1
  obtain ⟨h01, hv⟩ := hv
  rw [hZ]; rw [hQ] at hv
  exact W.zret (v := (fn_X9_in (Int32.toInt64 season_) 0 (39))) hx hb hr (nar_b h01) (fun t ht hW => ⟨⟨(fn_X9_in (Int32.toInt64 season_) 0 (39)), (), rfl, hv, trivial⟩, hS.F ht⟩) hS.2.2 dX9_isSeason_9
set_option maxHeartbeats 4000000 in
set_option maxRecDepth 100000 in
theorem wk_X9_noSheet (l : Launch) (h_X9_in : Ct_X9_in l) (sp : Sp_X9_noSheet) : Ct_X9_noSheet l := by
  intro k_
  refine Met.ofW (cc := cX9_noSheet) (maxL := 1) (ret := (some .boolean)) (by decide) rfl ?_
  intro p e s m args below meth c s₁ B hml hv0
  obtain ⟨rfl, -⟩ := hv0
  have hx := B.exec
  have hb := B.bytes
  have hr := B.returns
  have hts := atoms_spec (ws := wsX9_noSheet) B.pre
  have hown : s.vm.findClass RX9 = some m.cls := findClass_of_methodNamed B.named
  have hlocks := B.notSynchronized
  have hv := sp k_
  have hl := lv_entry ([.int k_]) (n := 1) (Nat.le_of_ble_eq_true rfl)
  rw [lg_entry_eq]
  generalize (lg_sl ([.int k_]) ++ List.replicate (1 - (lg_sl ([.int k_])).length) Slot.unset).toArray = ls at hl ⊢
  have hl : lv_has ls 1 [(0, .int k_)] := hl
  refine W_gen (fun R Z H locs hR hZ hH hlo => ?_)
  have hRf : R.frames = 1 := by rw [hR]; rfl
  have hRl : R.locals = 25 := by rw [hR]; rfl
  have hRc : R.cells = 0 := by rw [hR]; rfl
  have hRs : R.slots = 0 := by rw [hR]; rfl
  have hS : va_S (fun _ => False) s.heap H locs := by rw [hH, hlo]; exact va_S.rf
  obtain ⟨Q, hQ⟩ : ∃ q : Int32 → Prop, q = (fun r => r = fn_X9_noSheet k_) := ⟨_, rfl⟩
  rw [← hQ] at hv
  refine lv_iload_n hx hb dX9_noSheet_0 rfl (lv_at hl 0 rfl) ?_
  refine lv_i2l hx hb dX9_noSheet_1 rfl ?_
  refine lv_lconst (v := 0) hx hb dX9_noSheet_2 rfl ?_
  refine lv_ldc2 (v := (3)) hx hb hown (hts (.constantLong RX9 248 (3)) (List.mem_of_getElem? (i := 1) rfl)) dX9_noSheet_3 ?_
  refine k_pure0_i (va_runS (As := [.long (Int32.toInt64 k_), .long 0, .long (3)]) (rest := []) ⟨hx, hb, hml, hown, hts⟩ (h_X9_in (Int32.toInt64 k_) 0 (3)) (va_cwS 3 hts gX9_noSheet_X9_in rfl rfl rfl (by decide +kernel) ⟨le_R hRf (Nat.le_of_ble_eq_true rfl), le_R hRl (Nat.le_of_ble_eq_true rfl)⟩) ⟨(fun a U g mk q => ⟨q.1, trivial⟩), (fun U hU hW => ⟨rfl, trivial⟩)⟩ rfl rfl hl.1 rfl (lv_room (Nat.le_of_ble_eq_true rfl)) dX9_noSheet_6 ⟨le_R hRc (Nat.le_refl 0), le_R hRs (Nat.le_refl 0)⟩) hS (fun r H locs hr1 hS => ?_)
  subst hr1
  refine lv_if_ne (tgt := 16) hx hb dX9_noSheet_9 (by decide) (fun c1 => ?_) (fun c1 => ?_)
  · have hv := hv.1 c1
    refine lv_iconst (v := 0) hx hb dX9_noSheet_16 (by decide) ?_
    rw [hZ]; rw [hQ] at hv
    exact W.zret (v := 0) hx hb hr rfl (fun t ht hW => ⟨⟨0, (), rfl, hv, trivial⟩, hS.F ht⟩) hS.2.2 dX9_noSheet_17
  · have hv := hv.2 c1
    refine lv_iconst (v := 1) hx hb dX9_noSheet_12 (by decide) ?_
    refine lv_goto (tgt := 17) hx hb dX9_noSheet_13 (by decide) ?_
    rw [hZ]; rw [hQ] at hv
    exact W.zret (v := 1) hx hb hr rfl (fun t ht hW => ⟨⟨1, (), rfl, hv, trivial⟩, hS.F ht⟩) hS.2.2 dX9_noSheet_17
set_option maxHeartbeats 4000000 in
set_option maxRecDepth 100000 in
theorem wk_X9_isBeyond (l : Launch) (sp : Sp_X9_isBeyond) : Ct_X9_isBeyond l := by
  intro i_ n_ all_
  refine Met.ofW (cc := cX9_isBeyond) (maxL := 4) (ret := (some .boolean)) (by decide) rfl ?_
  intro p e s m args below meth c s₁ B hml hv0
  obtain ⟨rfl, -⟩ := hv0
  have hx := B.exec
  have hb := B.bytes
  have hr := B.returns
  have hts := atoms_spec (ws := wsX9_isBeyond) B.pre
  have hown : s.vm.findClass RX9 = some m.cls := findClass_of_methodNamed B.named
  have hlocks := B.notSynchronized
  have hv := sp i_ n_ all_
  have hl := lv_entry ([.int i_, .long n_, .int all_]) (n := 4) (Nat.le_of_ble_eq_true rfl)
  rw [lg_entry_eq]
  generalize (lg_sl ([.int i_, .long n_, .int all_]) ++ List.replicate (4 - (lg_sl ([.int i_, .long n_, .int all_])).length) Slot.unset).toArray = ls at hl ⊢
  have hl : lv_has ls 4 [(0, .int i_), (1, .long n_), (3, .int all_)] := hl
  refine W_gen (fun R Z H locs hR hZ hH hlo => ?_)
  have hRf : R.frames = 0 := by rw [hR]; rfl
  have hRl : R.locals = 0 := by rw [hR]; rfl
  have hRc : R.cells = 0 := by rw [hR]; rfl
  have hRs : R.slots = 0 := by rw [hR]; rfl
  have hS : va_S (fun _ => False) s.heap H locs := by rw [hH, hlo]; exact va_S.rf
  obtain ⟨Q, hQ⟩ : ∃ q : Int32 → Prop, q = (fun r => r = fn_X9_isBeyond i_ n_ all_) := ⟨_, rfl⟩
  rw [← hQ] at hv
  refine lv_iload_n hx hb dX9_isBeyond_0 rfl (lv_at hl 0 rfl) ?_
  refine lv_if_lt (tgt := 20) hx hb dX9_isBeyond_1 (by decide) (fun c3 => ?_) (fun c3 => ?_)
  · have hv := hv.1 c3
    refine lv_iconst (v := 1) hx hb dX9_isBeyond_20 (by decide) ?_
    refine lv_goto (tgt := 25) hx hb dX9_isBeyond_21 (by decide) ?_
    rw [hZ]; rw [hQ] at hv
    exact W.zret (v := 1) hx hb hr rfl (fun t ht hW => ⟨⟨1, (), rfl, hv, trivial⟩, hS.F ht⟩) hS.2.2 dX9_isBeyond_25
  · have hv := hv.2 c3
    refine lv_lload_n hx hb dX9_isBeyond_4 rfl (lv_at hl 1 rfl) ?_
    refine lv_lconst (v := 0) hx hb dX9_isBeyond_5 rfl ?_
    refine W.lcmp hx hb dX9_isBeyond_6 ?_
    refine lv_if_lt (tgt := 20) hx hb dX9_isBeyond_7 (by decide) (fun c2 => ?_) (fun c2 => ?_)
    · have hv := hv.1 c2
      refine lv_iconst (v := 1) hx hb dX9_isBeyond_20 (by decide) ?_
      refine lv_goto (tgt := 25) hx hb dX9_isBeyond_21 (by decide) ?_
      rw [hZ]; rw [hQ] at hv
      exact W.zret (v := 1) hx hb hr rfl (fun t ht hW => ⟨⟨1, (), rfl, hv, trivial⟩, hS.F ht⟩) hS.2.2 dX9_isBeyond_25
    · have hv := hv.2 c2
      refine lv_iload_n hx hb dX9_isBeyond_10 rfl (lv_at hl 0 rfl) ?_
      refine lv_i2l hx hb dX9_isBeyond_11 rfl ?_
      refine lv_lload_n hx hb dX9_isBeyond_12 rfl (lv_at hl 1 rfl) ?_
      refine lv_ladd hx hb dX9_isBeyond_13 ?_
      refine lv_iload_n hx hb dX9_isBeyond_14 rfl (lv_at hl 2 rfl) ?_
      refine lv_i2l hx hb dX9_isBeyond_15 rfl ?_
      refine W.lcmp hx hb dX9_isBeyond_16 ?_
      refine lv_if_le (tgt := 24) hx hb dX9_isBeyond_17 (by decide) (fun c1 => ?_) (fun c1 => ?_)
      · have hv := hv.1 c1
        refine lv_iconst (v := 0) hx hb dX9_isBeyond_24 (by decide) ?_
        rw [hZ]; rw [hQ] at hv
        exact W.zret (v := 0) hx hb hr rfl (fun t ht hW => ⟨⟨0, (), rfl, hv, trivial⟩, hS.F ht⟩) hS.2.2 dX9_isBeyond_25
      · have hv := hv.2 c1
        refine lv_iconst (v := 1) hx hb dX9_isBeyond_20 (by decide) ?_
        refine lv_goto (tgt := 25) hx hb dX9_isBeyond_21 (by decide) ?_
        rw [hZ]; rw [hQ] at hv
        exact W.zret (v := 1) hx hb hr rfl (fun t ht hW => ⟨⟨1, (), rfl, hv, trivial⟩, hS.F ht⟩) hS.2.2 dX9_isBeyond_25
set_option maxHeartbeats 4000000 in
set_option maxRecDepth 100000 in
theorem wk_X9_refused (l : Launch) (sp : Sp_X9_refused) : Ct_X9_refused l := by
  intro D cy ad A code_  σ0  hpre
  refine Met.ofW (cc := cX9_refused) (maxL := 2) (ret := (some .int)) (by decide) rfl ?_
  intro p e s m args below meth c s₁ B hml hv0
  obtain ⟨rfl, hP, hK, hD, hN⟩ := hv0
  have hx := B.exec
  have hb := B.bytes
  have hr := B.returns
  have hts := atoms_spec (ws := wsX9_refused) B.pre
  have hown : s.vm.findClass RX9 = some m.cls := findClass_of_methodNamed B.named
  have hlocks := B.notSynchronized
  have hv := sp code_  σ0 hpre
  have hl := lv_entry ([.ref (ad 0), .int code_]) (n := 2) (Nat.le_of_ble_eq_true rfl)
  rw [lg_entry_eq]
  generalize (lg_sl ([.ref (ad 0), .int code_]) ++ List.replicate (2 - (lg_sl ([.ref (ad 0), .int code_])).length) Slot.unset).toArray = ls at hl ⊢
  have hl : lv_has ls 2 [(0, .ref (ad 0)), (1, .int code_)] := hl
  refine W_gen (fun R Z H locs hR hZ hH hlo => ?_)
  have hRf : R.frames = 0 := by rw [hR]; rfl
  have hRl : R.locals = 0 := by rw [hR]; rfl
  have hRc : R.cells = 0 := by rw [hR]; rfl
  have hRs : R.slots = 0 := by rw [hR]; rfl
  have hS : va_S A s.heap H locs := by rw [hH, hlo]; exact va_S.rf
  rw [← hH] at hP
  obtain ⟨Q, hQ⟩ : ∃ q : Int32 → S_ → Prop, q = (post_X9_refused code_  σ0) := ⟨_, rfl⟩
  rw [← hQ] at hv
  have hinX9 : ∀ w ∈ wsX90, w ∈ wsX9_refused := by decide +kernel
  refine lv_aload_n hx hb dX9_refused_0 rfl (lv_at hl 0 rfl) ?_
  refine lv_iconst (v := 0) hx hb dX9_refused_1 (by decide) ?_
  refine va_put (ci := 9) (v := .int 0) (ty := .int) (C := RX9) (T := TX9) (N := 38) hx hb hts hinX9 tyX9 tyX9_ok nmX9 hown hK hP hD hS 0 (wR_0 cy ad σ0) rfl 0 (by decide) (hts (.fieldLink RX9 94 "TaleBansModel" "fault" "I") (List.mem_of_getElem? (i := 1) rfl)) (fun x h => h) rfl (by decide +kernel) rfl rfl (Nat.le_of_ble_eq_true rfl) dX9_refused_2 (fun H locs hP hD hS => ?_)
  obtain ⟨σ1, e2⟩ : ∃ y : S_, y = wrI σ0 0 0 := ⟨_, rfl⟩
  have hP : va_P D vwCl (wR cy ad σ1) H := by rw [e2]; exact hP
  have hD : va_D A (wR cy ad σ1) := by rw [e2]; exact hD
  have hv := hv σ1 e2
  refine lv_iload_n hx hb dX9_refused_5 rfl (lv_at hl 1 rfl) ?_
  rw [hZ]; rw [hQ] at hv
  exact W.iret (v := code_) hx hb hr (fun t ht hW => ⟨⟨code_, σ1, rfl, hv, ⟨P_of ht hP, hD⟩⟩, hS.F ht⟩) hS.2.2 dX9_refused_6
set_option maxHeartbeats 4000000 in
set_option maxRecDepth 100000 in
theorem wk_X9_failed (l : Launch) (sp : Sp_X9_failed) : Ct_X9_failed l := by
  intro D cy ad A f_  σ0  hpre
  refine Met.ofW (cc := cX9_failed) (maxL := 2) (ret := (some .int)) (by decide) rfl ?_
  intro p e s m args below meth c s₁ B hml hv0
  obtain ⟨rfl, hP, hK, hD, hN⟩ := hv0
  have hx := B.exec
  have hb := B.bytes
  have hr := B.returns
  have hts := atoms_spec (ws := wsX9_failed) B.pre
  have hown : s.vm.findClass RX9 = some m.cls := findClass_of_methodNamed B.named
  have hlocks := B.notSynchronized
  have hv := sp f_  σ0 hpre
  have hl := lv_entry ([.ref (ad 0), .int f_]) (n := 2) (Nat.le_of_ble_eq_true rfl)
  rw [lg_entry_eq]
  generalize (lg_sl ([.ref (ad 0), .int f_]) ++ List.replicate (2 - (lg_sl ([.ref (ad 0), .int f_])).length) Slot.unset).toArray = ls at hl ⊢
  have hl : lv_has ls 2 [(0, .ref (ad 0)), (1, .int f_)] := hl
  refine W_gen (fun R Z H locs hR hZ hH hlo => ?_)
  have hRf : R.frames = 0 := by rw [hR]; rfl
  have hRl : R.locals = 0 := by rw [hR]; rfl
  have hRc : R.cells = 0 := by rw [hR]; rfl
  have hRs : R.slots = 0 := by rw [hR]; rfl
  have hS : va_S A s.heap H locs := by rw [hH, hlo]; exact va_S.rf
  rw [← hH] at hP
  obtain ⟨Q, hQ⟩ : ∃ q : Int32 → S_ → Prop, q = (post_X9_failed f_  σ0) := ⟨_, rfl⟩
  rw [← hQ] at hv
  have hinX9 : ∀ w ∈ wsX90, w ∈ wsX9_failed := by decide +kernel
  refine lv_aload_n hx hb dX9_failed_0 rfl (lv_at hl 0 rfl) ?_
  refine lv_iload_n hx hb dX9_failed_1 rfl (lv_at hl 1 rfl) ?_
  refine va_put (ci := 9) (v := .int f_) (ty := .int) (C := RX9) (T := TX9) (N := 38) hx hb hts hinX9 tyX9 tyX9_ok nmX9 hown hK hP hD hS 0 (wR_0 cy ad σ0) rfl 0 (by decide) (hts (.fieldLink RX9 94 "TaleBansModel" "fault" "I") (List.mem_of_getElem? (i := 1) rfl)) (fun x h => h) rfl (by decide +kernel) rfl rfl (Nat.le_of_ble_eq_true rfl) dX9_failed_2 (fun H locs hP hD hS => ?_)
  obtain ⟨σ1, e2⟩ : ∃ y : S_, y = wrI σ0 0 f_ := ⟨_, rfl⟩
  have hP : va_P D vwCl (wR cy ad σ1) H := by rw [e2]; exact hP
  have hD : va_D A (wR cy ad σ1) := by rw [e2]; exact hD
  have hv := hv σ1 e2
  refine lv_bipush (v := (-10)) hx hb dX9_failed_5 (by decide) ?_
  refine lv_iload_n hx hb dX9_failed_7 rfl (lv_at hl 1 rfl) ?_
  refine lv_isub hx hb dX9_failed_8 ?_
  rw [hZ]; rw [hQ] at hv
  exact W.iret (v := ((-10) - f_)) hx hb hr (fun t ht hW => ⟨⟨((-10) - f_), σ1, rfl, hv, ⟨P_of ht hP, hD⟩⟩, hS.F ht⟩) hS.2.2 dX9_failed_9
set_option maxHeartbeats 4000000 in
set_option maxRecDepth 100000 in
theorem wk_X9_failedLong (l : Launch) (h_X9_lost : Ct_X9_lost l) (sp : Sp_X9_failedLong) : Ct_X9_failedLong l := by
  intro D cy ad A f_  σ0  hpre
  refine Met.ofW (cc := cX9_failedLong) (maxL := 2) (ret := (some .long)) (by decide) rfl ?_
  intro p e s m args below meth c s₁ B hml hv0
  obtain ⟨rfl, hP, hK, hD, hN⟩ := hv0
  have hx := B.exec
  have hb := B.bytes
  have hr := B.returns
  have hts := atoms_spec (ws := wsX9_failedLong) B.pre
  have hown : s.vm.findClass RX9 = some m.cls := findClass_of_methodNamed B.named
  have hlocks := B.notSynchronized
  have hv := sp f_  σ0 hpre
  have hl := lv_entry ([.ref (ad 0), .int f_]) (n := 2) (Nat.le_of_ble_eq_true rfl)
  rw [lg_entry_eq]
  generalize (lg_sl ([.ref (ad 0), .int f_]) ++ List.replicate (2 - (lg_sl ([.ref (ad 0), .int f_])).length) Slot.unset).toArray = ls at hl ⊢
  have hl : lv_has ls 2 [(0, .ref (ad 0)), (1, .int f_)] := hl
  refine W_gen (fun R Z H locs hR hZ hH hlo => ?_)
  have hRf : R.frames = 1 := by rw [hR]; rfl
  have hRl : R.locals = 19 := by rw [hR]; rfl
  have hRc : R.cells = 0 := by rw [hR]; rfl
  have hRs : R.slots = 0 := by rw [hR]; rfl
  have hS : va_S A s.heap H locs := by rw [hH, hlo]; exact va_S.rf
  rw [← hH] at hP
  obtain ⟨Q, hQ⟩ : ∃ q : Int64 → S_ → Prop, q = (post_X9_failedLong f_  σ0) := ⟨_, rfl⟩
  rw [← hQ] at hv
  have hinX9 : ∀ w ∈ wsX90, w ∈ wsX9_failedLong := by decide +kernel
  refine lv_aload_n hx hb dX9_failedLong_0 rfl (lv_at hl 0 rfl) ?_
  refine lv_iload_n hx hb dX9_failedLong_1 rfl (lv_at hl 1 rfl) ?_
  refine va_put (ci := 9) (v := .int f_) (ty := .int) (C := RX9) (T := TX9) (N := 38) hx hb hts hinX9 tyX9 tyX9_ok nmX9 hown hK hP hD hS 0 (wR_0 cy ad σ0) rfl 0 (by decide) (hts (.fieldLink RX9 94 "TaleBansModel" "fault" "I") (List.mem_of_getElem? (i := 1) rfl)) (fun x h => h) rfl (by decide +kernel) rfl rfl (Nat.le_of_ble_eq_true rfl) dX9_failedLong_2 (fun H locs hP hD hS => ?_)
  obtain ⟨σ1, e2⟩ : ∃ y : S_, y = wrI σ0 0 f_ := ⟨_, rfl⟩
  have hP : va_P D vwCl (wR cy ad σ1) H := by rw [e2]; exact hP
  have hD : va_D A (wR cy ad σ1) := by rw [e2]; exact hD
  have hv := hv σ1 e2
  refine k_pure_l (va_runS (As := []) (rest := []) ⟨hx, hb, hml, hown, hts⟩ (h_X9_lost ) (va_cwS 0 hts gX9_failedLong_X9_lost rfl rfl rfl (by decide +kernel) ⟨le_R hRf (Nat.le_of_ble_eq_true rfl), le_R hRl (Nat.le_of_ble_eq_true rfl)⟩) ⟨(fun a U g mk q => ⟨q.1, trivial⟩), (fun U hU hW => ⟨rfl, trivial⟩)⟩ rfl rfl hl.1 rfl (lv_room (Nat.le_of_ble_eq_true rfl)) dX9_failedLong_5 ⟨le_R hRc (Nat.le_refl 0), le_R hRs (Nat.le_refl 0)⟩) hS hP (fun r H locs hr1 hP hS => ?_)
  subst hr1
  rw [hZ]; rw [hQ] at hv
  exact W.lret (v := fn_X9_lost) hx hb hr (fun t ht hW => ⟨⟨fn_X9_lost, σ1, rfl, hv, ⟨P_of ht hP, hD⟩⟩, hS.F ht⟩) hS.2.2 dX9_failedLong_8
set_option maxHeartbeats 4000000 in
set_option maxRecDepth 100000 in
theorem wk_X9_noPerson (l : Launch) (h_X9_in : Ct_X9_in l) (sp : Sp_X9_noPerson) : Ct_X9_noPerson l := by
  intro D cy ad A p_  σ0  hpre
  refine Met.ofW (cc := cX9_noPerson) (maxL := 2) (ret := (some .boolean)) (by decide) rfl ?_
  intro p e s m args below meth c s₁ B hml hv0
  obtain ⟨rfl, hP, hK, hD, hN⟩ := hv0
  have hx := B.exec
  have hb := B.bytes
  have hr := B.returns
  have hts := atoms_spec (ws := wsX9_noPerson) B.pre
  have hown : s.vm.findClass RX9 = some m.cls := findClass_of_methodNamed B.named
  have hlocks := B.notSynchronized
  have hv := sp p_  σ0 hpre
  have hl := lv_entry ([.ref (ad 0), .int p_]) (n := 2) (Nat.le_of_ble_eq_true rfl)
  rw [lg_entry_eq]
  generalize (lg_sl ([.ref (ad 0), .int p_]) ++ List.replicate (2 - (lg_sl ([.ref (ad 0), .int p_])).length) Slot.unset).toArray = ls at hl ⊢
  have hl : lv_has ls 2 [(0, .ref (ad 0)), (1, .int p_)] := hl
  refine W_gen (fun R Z H locs hR hZ hH hlo => ?_)
  have hRf : R.frames = 1 := by rw [hR]; rfl
  have hRl : R.locals = 25 := by rw [hR]; rfl
  have hRc : R.cells = 0 := by rw [hR]; rfl
  have hRs : R.slots = 0 := by rw [hR]; rfl
  have hS : va_S A s.heap H locs := by rw [hH, hlo]; exact va_S.rf
  rw [← hH] at hP
  obtain ⟨Q, hQ⟩ : ∃ q : Int32 → Prop, q = (fun r => r = fn_X9_noPerson p_ σ0) := ⟨_, rfl⟩
  rw [← hQ] at hv
  have hinX9 : ∀ w ∈ wsX90, w ∈ wsX9_noPerson := by decide +kernel
  refine lv_iload_n hx hb dX9_noPerson_0 rfl (lv_at hl 1 rfl) ?_
  refine lv_i2l hx hb dX9_noPerson_1 rfl ?_
  refine lv_lconst (v := 0) hx hb dX9_noPerson_2 rfl ?_
  refine lv_aload_n hx hb dX9_noPerson_3 rfl (lv_at hl 0 rfl) ?_
  refine va_get (ci := 9) (v := .int (rdI σ0 1)) (C := RX9) (T := TX9) (N := 38) hx hb hts hinX9 hown hK hP 0 (wR_0 cy ad σ0) rfl 1 (by decide) (hts (.fieldLink RX9 102 "TaleBansModel" "persons" "I") (List.mem_of_getElem? (i := 1) rfl)) (fun x h => h) rfl dX9_noPerson_4 ?_
  refine lv_i2l hx hb dX9_noPerson_7 rfl ?_
  refine lv_lconst (v := 1) hx hb dX9_noPerson_8 rfl ?_
  refine lv_lsub hx hb dX9_noPerson_9 ?_
  refine k_pure_i (va_runS (As := [.long (Int32.toInt64 p_), .long 0, .long ((Int32.toInt64 (rdI σ0 1)) - 1)]) (rest := []) ⟨hx, hb, hml, hown, hts⟩ (h_X9_in (Int32.toInt64 p_) 0 ((Int32.toInt64 (rdI σ0 1)) - 1)) (va_cwS 3 hts gX9_noPerson_X9_in rfl rfl rfl (by decide +kernel) ⟨le_R hRf (Nat.le_of_ble_eq_true rfl), le_R hRl (Nat.le_of_ble_eq_true rfl)⟩) ⟨(fun a U g mk q => ⟨q.1, trivial⟩), (fun U hU hW => ⟨rfl, trivial⟩)⟩ rfl rfl hl.1 rfl (lv_room (Nat.le_of_ble_eq_true rfl)) dX9_noPerson_10 ⟨le_R hRc (Nat.le_refl 0), le_R hRs (Nat.le_refl 0)⟩) hS hP (fun r H locs hr1 hP hS => ?_)
  subst hr1
  refine lv_if_ne (tgt := 20) hx hb dX9_noPerson_13 (by decide) (fun c1 => ?_) (fun c1 => ?_)
  · have hv := hv.1 c1
    refine lv_iconst (v := 0) hx hb dX9_noPerson_20 (by decide) ?_
    rw [hZ]; rw [hQ] at hv
    exact W.zret (v := 0) hx hb hr rfl (fun t ht hW => ⟨⟨0, (), rfl, hv, (P_of ht hP)⟩, hS.F ht⟩) hS.2.2 dX9_noPerson_21
  · have hv := hv.2 c1
    refine lv_iconst (v := 1) hx hb dX9_noPerson_16 (by decide) ?_
    refine lv_goto (tgt := 21) hx hb dX9_noPerson_17 (by decide) ?_
    rw [hZ]; rw [hQ] at hv
    exact W.zret (v := 1) hx hb hr rfl (fun t ht hW => ⟨⟨1, (), rfl, hv, (P_of ht hP)⟩, hS.F ht⟩) hS.2.2 dX9_noPerson_21
set_option maxHeartbeats 4000000 in
set_option maxRecDepth 100000 in
theorem wk_X9_noTale (l : Launch) (h_X9_in : Ct_X9_in l) (sp : Sp_X9_noTale) : Ct_X9_noTale l := by
  intro D cy ad A t_  σ0  hpre
  refine Met.ofW (cc := cX9_noTale) (maxL := 2) (ret := (some .boolean)) (by decide) rfl ?_
  intro p e s m args below meth c s₁ B hml hv0
  obtain ⟨rfl, hP, hK, hD, hN⟩ := hv0
  have hx := B.exec
  have hb := B.bytes
  have hr := B.returns
  have hts := atoms_spec (ws := wsX9_noTale) B.pre
  have hown : s.vm.findClass RX9 = some m.cls := findClass_of_methodNamed B.named
  have hlocks := B.notSynchronized
  have hv := sp t_  σ0 hpre
  have hl := lv_entry ([.ref (ad 0), .int t_]) (n := 2) (Nat.le_of_ble_eq_true rfl)
  rw [lg_entry_eq]
  generalize (lg_sl ([.ref (ad 0), .int t_]) ++ List.replicate (2 - (lg_sl ([.ref (ad 0), .int t_])).length) Slot.unset).toArray = ls at hl ⊢
  have hl : lv_has ls 2 [(0, .ref (ad 0)), (1, .int t_)] := hl
  refine W_gen (fun R Z H locs hR hZ hH hlo => ?_)
  have hRf : R.frames = 1 := by rw [hR]; rfl
  have hRl : R.locals = 25 := by rw [hR]; rfl
  have hRc : R.cells = 0 := by rw [hR]; rfl
  have hRs : R.slots = 0 := by rw [hR]; rfl
  have hS : va_S A s.heap H locs := by rw [hH, hlo]; exact va_S.rf
  rw [← hH] at hP
  obtain ⟨Q, hQ⟩ : ∃ q : Int32 → Prop, q = (fun r => r = fn_X9_noTale t_ σ0) := ⟨_, rfl⟩
  rw [← hQ] at hv
  have hinX9 : ∀ w ∈ wsX90, w ∈ wsX9_noTale := by decide +kernel
  refine lv_iload_n hx hb dX9_noTale_0 rfl (lv_at hl 1 rfl) ?_
  refine lv_i2l hx hb dX9_noTale_1 rfl ?_
  refine lv_lconst (v := 0) hx hb dX9_noTale_2 rfl ?_
  refine lv_aload_n hx hb dX9_noTale_3 rfl (lv_at hl 0 rfl) ?_
  refine va_get (ci := 9) (v := .int (rdI σ0 6)) (C := RX9) (T := TX9) (N := 38) hx hb hts hinX9 hown hK hP 0 (wR_0 cy ad σ0) rfl 12 (by decide) (hts (.fieldLink RX9 109 "TaleBansModel" "tales" "I") (List.mem_of_getElem? (i := 1) rfl)) (fun x h => h) rfl dX9_noTale_4 ?_
  refine lv_i2l hx hb dX9_noTale_7 rfl ?_
  refine lv_lconst (v := 1) hx hb dX9_noTale_8 rfl ?_
  refine lv_lsub hx hb dX9_noTale_9 ?_
  refine k_pure_i (va_runS (As := [.long (Int32.toInt64 t_), .long 0, .long ((Int32.toInt64 (rdI σ0 6)) - 1)]) (rest := []) ⟨hx, hb, hml, hown, hts⟩ (h_X9_in (Int32.toInt64 t_) 0 ((Int32.toInt64 (rdI σ0 6)) - 1)) (va_cwS 3 hts gX9_noTale_X9_in rfl rfl rfl (by decide +kernel) ⟨le_R hRf (Nat.le_of_ble_eq_true rfl), le_R hRl (Nat.le_of_ble_eq_true rfl)⟩) ⟨(fun a U g mk q => ⟨q.1, trivial⟩), (fun U hU hW => ⟨rfl, trivial⟩)⟩ rfl rfl hl.1 rfl (lv_room (Nat.le_of_ble_eq_true rfl)) dX9_noTale_10 ⟨le_R hRc (Nat.le_refl 0), le_R hRs (Nat.le_refl 0)⟩) hS hP (fun r H locs hr1 hP hS => ?_)
  subst hr1
  refine lv_if_ne (tgt := 20) hx hb dX9_noTale_13 (by decide) (fun c1 => ?_) (fun c1 => ?_)
  · have hv := hv.1 c1
    refine lv_iconst (v := 0) hx hb dX9_noTale_20 (by decide) ?_
    rw [hZ]; rw [hQ] at hv
    exact W.zret (v := 0) hx hb hr rfl (fun t ht hW => ⟨⟨0, (), rfl, hv, (P_of ht hP)⟩, hS.F ht⟩) hS.2.2 dX9_noTale_21
  · have hv := hv.2 c1
    refine lv_iconst (v := 1) hx hb dX9_noTale_16 (by decide) ?_
    refine lv_goto (tgt := 21) hx hb dX9_noTale_17 (by decide) ?_
    rw [hZ]; rw [hQ] at hv
    exact W.zret (v := 1) hx hb hr rfl (fun t ht hW => ⟨⟨1, (), rfl, hv, (P_of ht hP)⟩, hS.F ht⟩) hS.2.2 dX9_noTale_21
set_option maxHeartbeats 4000000 in
set_option maxRecDepth 100000 in
theorem wk_X9_all (l : Launch) (sp : Sp_X9_all) : Ct_X9_all l := by
  intro D cy ad A   σ0  hpre
  refine Met.ofW (cc := cX9_all) (maxL := 1) (ret := (some .int)) (by decide) rfl ?_
  intro p e s m args below meth c s₁ B hml hv0
  obtain ⟨rfl, hP, hK, hD, hN⟩ := hv0
  have hx := B.exec
  have hb := B.bytes
  have hr := B.returns
  have hts := atoms_spec (ws := wsX9_all) B.pre
  have hown : s.vm.findClass RX9 = some m.cls := findClass_of_methodNamed B.named
  have hlocks := B.notSynchronized
  have hv := sp   σ0 hpre
  have hl := lv_entry ([.ref (ad 0)]) (n := 1) (Nat.le_of_ble_eq_true rfl)
  rw [lg_entry_eq]
  generalize (lg_sl ([.ref (ad 0)]) ++ List.replicate (1 - (lg_sl ([.ref (ad 0)])).length) Slot.unset).toArray = ls at hl ⊢
  have hl : lv_has ls 1 [(0, .ref (ad 0))] := hl
  refine W_gen (fun R Z H locs hR hZ hH hlo => ?_)
  have hRf : R.frames = 0 := by rw [hR]; rfl
  have hRl : R.locals = 0 := by rw [hR]; rfl
  have hRc : R.cells = 0 := by rw [hR]; rfl
  have hRs : R.slots = 0 := by rw [hR]; rfl
  have hS : va_S A s.heap H locs := by rw [hH, hlo]; exact va_S.rf
  rw [← hH] at hP
  obtain ⟨Q, hQ⟩ : ∃ q : Int32 → Prop, q = (fun r => r = fn_X9_all  σ0) := ⟨_, rfl⟩
  rw [← hQ] at hv
  have hinX9 : ∀ w ∈ wsX90, w ∈ wsX9_all := by decide +kernel
  refine lv_iconst (v := 1) hx hb dX9_all_0 (by decide) ?_
  refine lv_aload_n hx hb dX9_all_1 rfl (lv_at hl 0 rfl) ?_
  refine va_get (ci := 9) (v := .int (rdI σ0 1)) (C := RX9) (T := TX9) (N := 38) hx hb hts hinX9 hown hK hP 0 (wR_0 cy ad σ0) rfl 1 (by decide) (hts (.fieldLink RX9 102 "TaleBansModel" "persons" "I") (List.mem_of_getElem? (i := 1) rfl)) (fun x h => h) rfl dX9_all_2 ?_
  refine lv_ishl hx hb dX9_all_5 ?_
  refine lv_iconst (v := 1) hx hb dX9_all_6 (by decide) ?_
  refine lv_isub hx hb dX9_all_7 ?_
  rw [hZ]; rw [hQ] at hv
  exact W.iret (v := ((1 <<< ((rdI σ0 1) &&& 31)) - 1)) hx hb hr (fun t ht hW => ⟨⟨((1 <<< ((rdI σ0 1) &&& 31)) - 1), (), rfl, hv, (P_of ht hP)⟩, hS.F ht⟩) hS.2.2 dX9_all_8
set_option maxHeartbeats 4000000 in
set_option maxRecDepth 100000 in
theorem wk_X9_codeAt (l : Launch) (sp : Sp_X9_codeAt) : Ct_X9_codeAt l := by
  intro D cy ad A fr_ n_ Fg Ng Rg σ0  hpre
  refine Met.ofW (cc := cX9_codeAt) (maxL := 3) (ret := (some .int)) (by decide) rfl ?_
  intro p e s m args below meth c s₁ B hml hv0
  obtain ⟨rfl, hP, hK, hD, hN⟩ := hv0
  have hx := B.exec
  have hb := B.bytes
  have hr := B.returns
  have hts := atoms_spec (ws := wsX9_codeAt) B.pre
  have hown : s.vm.findClass RX9 = some m.cls := findClass_of_methodNamed B.named
  have hlocks := B.notSynchronized
  have hv := sp fr_ n_ Fg Ng Rg σ0 hpre
  have hl := lv_entry ([.ref (ad 0), .int fr_, .int n_]) (n := 3) (Nat.le_of_ble_eq_true rfl)
  rw [lg_entry_eq]
  generalize (lg_sl ([.ref (ad 0), .int fr_, .int n_]) ++ List.replicate (3 - (lg_sl ([.ref (ad 0), .int fr_, .int n_])).length) Slot.unset).toArray = ls at hl ⊢
  have hl : lv_has ls 3 [(0, .ref (ad 0)), (1, .int fr_), (2, .int n_)] := hl
  refine W_gen (fun R Z H locs hR hZ hH hlo => ?_)
  have hRf : R.frames = 0 := by rw [hR]; rfl
  have hRl : R.locals = 0 := by rw [hR]; rfl
  have hRc : R.cells = 0 := by rw [hR]; rfl
  have hRs : R.slots = 0 := by rw [hR]; rfl
  have hS : va_S A s.heap H locs := by rw [hH, hlo]; exact va_S.rf
  rw [← hH] at hP
  obtain ⟨Q, hQ⟩ : ∃ q : Int32 → Prop, q = (fun r => post_X9_codeAt fr_ n_ Fg Ng Rg σ0 r) := ⟨_, rfl⟩
  rw [← hQ] at hv
  have hinX9 : ∀ w ∈ wsX90, w ∈ wsX9_codeAt := by decide +kernel
  refine lv_aload_n hx hb dX9_codeAt_0 rfl (lv_at hl 0 rfl) ?_
  refine va_get (ci := 9) (v := .int (rdI σ0 4)) (C := RX9) (T := TX9) (N := 38) hx hb hts hinX9 hown hK hP 0 (wR_0 cy ad σ0) rfl 7 (by decide) (hts (.fieldLink RX9 118 "TaleBansModel" "readAt" "I") (List.mem_of_getElem? (i := 1) rfl)) (fun x h => h) rfl dX9_codeAt_1 ?_
  refine lv_iload_n hx hb dX9_codeAt_4 rfl (lv_at hl 2 rfl) ?_
  refine lv_icmp_ge (tgt := 22) hx hb dX9_codeAt_5 (by decide) (fun c1 => ?_) (fun c1 => ?_)
  · have hv := hv.1 c1
    refine lv_bipush (v := (-9)) hx hb dX9_codeAt_22 (by decide) ?_
    rw [hZ]; rw [hQ] at hv
    exact W.iret (v := (-9)) hx hb hr (fun t ht hW => ⟨⟨(-9), (), rfl, hv, (P_of ht hP)⟩, hS.F ht⟩) hS.2.2 dX9_codeAt_24
  · have hv := hv.2 c1
    refine lv_aload_n hx hb dX9_codeAt_8 rfl (lv_at hl 0 rfl) ?_
    refine va_get (ci := 9) (v := .ref (ad (26))) (C := RX9) (T := TX9) (N := 38) hx hb hts hinX9 hown hK hP 0 (wR_0 cy ad σ0) rfl 35 (by decide) (hts (.fieldLink RX9 86 "TaleBansModel" "sheet" "[I") (List.mem_of_getElem? (i := 2) rfl)) (fun x h => h) rfl dX9_codeAt_9 ?_
    refine lv_iload_n hx hb dX9_codeAt_12 rfl (lv_at hl 1 rfl) ?_
    refine lv_aload_n hx hb dX9_codeAt_13 rfl (lv_at hl 0 rfl) ?_
    refine va_get (ci := 9) (v := .int (rdI σ0 4)) (C := RX9) (T := TX9) (N := 38) hx hb hts hinX9 hown hK hP 0 (wR_0 cy ad σ0) rfl 7 (by decide) (hts (.fieldLink RX9 118 "TaleBansModel" "readAt" "I") (List.mem_of_getElem? (i := 1) rfl)) (fun x h => h) rfl dX9_codeAt_14 ?_
    refine lv_iadd hx hb dX9_codeAt_17 ?_
    obtain ⟨hi, hv⟩ := hv
    refine va_iald hx hb hK hP 26 0 (wR_26 cy ad σ0) rfl hi dX9_codeAt_18 ?_
    refine lv_goto (tgt := 24) hx hb dX9_codeAt_19 (by decide) ?_
    rw [hZ]; rw [hQ] at hv
    exact W.iret (v := (rdA σ0 26 (Int32.toNatClampNeg (fr_ + (rdI σ0 4))))) hx hb hr (fun t ht hW => ⟨⟨(rdA σ0 26 (Int32.toNatClampNeg (fr_ + (rdI σ0 4)))), (), rfl, hv, (P_of ht hP)⟩, hS.F ht⟩) hS.2.2 dX9_codeAt_24
set_option maxHeartbeats 4000000 in
set_option maxRecDepth 100000 in
theorem wk_X9_figure (l : Launch) (h_X9_codeAt : Ct_X9_codeAt l) (h_X9_in : Ct_X9_in l) (sp : Sp_X9_figure) : Ct_X9_figure l := by
  intro D cy ad A fr_ n_ lo_ hi_ Fg Ng Rg lg hg σ0  hpre
  refine Met.ofW (cc := cX9_figure) (maxL := 7) (ret := (some .int)) (by decide) rfl ?_
  intro p e s m args below meth c s₁ B hml hv0
  obtain ⟨rfl, hP, hK, hD, hN⟩ := hv0
  have hx := B.exec
  have hb := B.bytes
  have hr := B.returns
  have hts := atoms_spec (ws := wsX9_figure) B.pre
  have hown : s.vm.findClass RX9 = some m.cls := findClass_of_methodNamed B.named
  have hlocks := B.notSynchronized
  have hv := sp fr_ n_ lo_ hi_ Fg Ng Rg lg hg σ0 hpre
  have hl := lv_entry ([.ref (ad 0), .int fr_, .int n_, .int lo_, .int hi_]) (n := 7) (Nat.le_of_ble_eq_true rfl)
  rw [lg_entry_eq]
  generalize (lg_sl ([.ref (ad 0), .int fr_, .int n_, .int lo_, .int hi_]) ++ List.replicate (7 - (lg_sl ([.ref (ad 0), .int fr_, .int n_, .int lo_, .int hi_])).length) Slot.unset).toArray = ls at hl ⊢
  have hl : lv_has ls 7 [(0, .ref (ad 0)), (1, .int fr_), (2, .int n_), (3, .int lo_), (4, .int hi_)] := hl
  refine W_gen (fun R Z H locs hR hZ hH hlo => ?_)
  have hRf : R.frames = 1 := by rw [hR]; rfl
  have hRl : R.locals = 25 := by rw [hR]; rfl
  have hRc : R.cells = 0 := by rw [hR]; rfl
  have hRs : R.slots = 0 := by rw [hR]; rfl
  have hS : va_S A s.heap H locs := by rw [hH, hlo]; exact va_S.rf
  rw [← hH] at hP
  obtain ⟨Q, hQ⟩ : ∃ q : Int32 → S_ → Prop, q = (post_X9_figure fr_ n_ lo_ hi_ Fg Ng Rg lg hg σ0) := ⟨_, rfl⟩
  rw [← hQ] at hv
  have hinX9 : ∀ w ∈ wsX90, w ∈ wsX9_figure := by decide +kernel
  refine lv_aload_n hx hb dX9_figure_0 rfl (lv_at hl 0 rfl) ?_
  refine lv_iload_n hx hb dX9_figure_1 rfl (lv_at hl 1 rfl) ?_
  refine lv_iload_n hx hb dX9_figure_2 rfl (lv_at hl 2 rfl) ?_
  obtain ⟨g1, g2, g3, hv⟩ := hv
  obtain ⟨hp, hv⟩ := hv
  refine k_read_i (w := wR cy ad) (va_runV (As := [.int fr_, .int n_]) (rest := []) ⟨hx, hb, hml, hown, hts⟩ (h_X9_codeAt D cy ad A fr_ n_ g1 g2 g3 σ0 hp) (cwV 2 hts gX9_figure_X9_codeAt rfl rfl rfl (by decide +kernel) ⟨le_R hRf (Nat.le_of_ble_eq_true rfl), le_R hRl (Nat.le_of_ble_eq_true rfl)⟩) ⟨(fun a U g mk q => ⟨q.1, q.2.blind⟩), va_recv hK hP (ci := 9) (q0 := 0) rfl (wR_0 cy ad σ0), (fun U hU hW => ⟨rfl, WdR.pre hP hK hD hN hU hW⟩)⟩ rfl rfl hl.1 rfl (lv_room (Nat.le_of_ble_eq_true rfl)) dX9_figure_3 ⟨le_R hRc (Nat.le_refl 0), le_R hRs (Nat.le_refl 0)⟩) hS (fun r4 H locs hr1 hP hS => ?_)
  have hv := hv r4 hr1
  refine lv_bipush (v := 48) hx hb dX9_figure_6 (by decide) ?_
  refine lv_isub hx hb dX9_figure_8 ?_
  refine lv_istore (lv' := [(5, .int (r4 - 48)), (0, .ref (ad 0)), (1, .int fr_), (2, .int n_), (3, .int lo_), (4, .int hi_)]) hx hb dX9_figure_9 hl (by decide) rfl (fun ls hl => ?_)
  refine lv_iload hx hb dX9_figure_11 (lv_at hl 0 rfl) ?_
  refine lv_i2l hx hb dX9_figure_13 rfl ?_
  refine lv_iload_n hx hb dX9_figure_14 rfl (lv_at hl 4 rfl) ?_
  refine lv_i2l hx hb dX9_figure_15 rfl ?_
  refine lv_iload hx hb dX9_figure_16 (lv_at hl 5 rfl) ?_
  refine lv_i2l hx hb dX9_figure_18 rfl ?_
  refine k_pure_i (va_runS (As := [.long (Int32.toInt64 (r4 - 48)), .long (Int32.toInt64 lo_), .long (Int32.toInt64 hi_)]) (rest := []) ⟨hx, hb, hml, hown, hts⟩ (h_X9_in (Int32.toInt64 (r4 - 48)) (Int32.toInt64 lo_) (Int32.toInt64 hi_)) (va_cwS 3 hts gX9_figure_X9_in rfl rfl rfl (by decide +kernel) ⟨le_R hRf (Nat.le_of_ble_eq_true rfl), le_R hRl (Nat.le_of_ble_eq_true rfl)⟩) ⟨(fun a U g mk q => ⟨q.1, trivial⟩), (fun U hU hW => ⟨rfl, trivial⟩)⟩ rfl rfl hl.1 rfl (lv_room (Nat.le_of_ble_eq_true rfl)) dX9_figure_19 ⟨le_R hRc (Nat.le_refl 0), le_R hRs (Nat.le_refl 0)⟩) hS hP (fun r H locs hr1 hP hS => ?_)
  subst hr1
  refine lv_topi (fun x5 h13 => ?_)
  have hv := hv x5 h13
  refine lv_istore (lv' := [(6, .int x5), (5, .int (r4 - 48)), (0, .ref (ad 0)), (1, .int fr_), (2, .int n_), (3, .int lo_), (4, .int hi_)]) hx hb dX9_figure_22 hl (by decide) rfl (fun ls hl => ?_)
  refine lv_aload_n hx hb dX9_figure_24 rfl (lv_at hl 2 rfl) ?_
  refine lv_dup hx hb dX9_figure_25 rfl ?_
  refine va_get (ci := 9) (v := .int (rdI σ0 4)) (C := RX9) (T := TX9) (N := 38) hx hb hts hinX9 hown hK hP 0 (wR_0 cy ad σ0) rfl 7 (by decide) (hts (.fieldLink RX9 118 "TaleBansModel" "readAt" "I") (List.mem_of_getElem? (i := 1) rfl)) (fun x h => h) rfl dX9_figure_26 ?_
  refine lv_iload hx hb dX9_figure_29 (lv_at hl 0 rfl) ?_
  obtain ⟨P6, hv, hvr⟩ := hv
  have jn7 : ∀ (b8 : Int32) (H : Heap) (locs : List Loc) (ls : Array Slot), P6 b8 → va_P D vwCl (wR cy ad σ0) H → va_S A s.heap H locs → lv_has ls 7 [(6, .int x5), (5, .int (r4 - 48)), (0, .ref (ad 0)), (1, .int fr_), (2, .int n_), (3, .int lo_), (4, .int hi_)] → W p l e R s m ([.ref (ad 0), .int fr_, .int n_, .int lo_, .int hi_] : List Value).toArray below meth c H locs 0 0 Z (F0 m 39 ls [.int b8, .int (rdI σ0 4), .ref (ad 0)]) := by
    intro b8 H locs ls hv hP hS hl
    have hv := hvr b8 hv
    refine lv_iadd hx hb dX9_figure_39 ?_
    refine va_put (ci := 9) (v := .int ((rdI σ0 4) + b8)) (ty := .int) (C := RX9) (T := TX9) (N := 38) hx hb hts hinX9 tyX9 tyX9_ok nmX9 hown hK hP hD hS 0 (wR_0 cy ad σ0) rfl 7 (by decide) (hts (.fieldLink RX9 118 "TaleBansModel" "readAt" "I") (List.mem_of_getElem? (i := 1) rfl)) (fun x h => h) rfl (by decide +kernel) rfl rfl (Nat.le_of_ble_eq_true rfl) dX9_figure_40 (fun H locs hP hD hS => ?_)
    obtain ⟨σ10, e11⟩ : ∃ y : S_, y = wrI σ0 4 ((rdI σ0 4) + b8) := ⟨_, rfl⟩
    have hP : va_P D vwCl (wR cy ad σ10) H := by rw [e11]; exact hP
    have hD : va_D A (wR cy ad σ10) := by rw [e11]; exact hD
    have hv := hv σ10 e11
    refine lv_iload hx hb dX9_figure_43 (lv_at hl 0 rfl) ?_
    refine lv_if_eq (tgt := 53) hx hb dX9_figure_45 (by decide) (fun c12 => ?_) (fun c12 => ?_)
    · have hv := hv.1 c12
      refine lv_bipush (v := (-9)) hx hb dX9_figure_53 (by decide) ?_
      rw [hZ]; rw [hQ] at hv
      exact W.iret (v := (-9)) hx hb hr (fun t ht hW => ⟨⟨(-9), σ10, rfl, hv, ⟨P_of ht hP, hD⟩⟩, hS.F ht⟩) hS.2.2 dX9_figure_55
    · have hv := hv.2 c12
      refine lv_iload hx hb dX9_figure_48 (lv_at hl 1 rfl) ?_
      refine lv_goto (tgt := 55) hx hb dX9_figure_50 (by decide) ?_
      rw [hZ]; rw [hQ] at hv
      exact W.iret (v := (r4 - 48)) hx hb hr (fun t ht hW => ⟨⟨(r4 - 48), σ10, rfl, hv, ⟨P_of ht hP, hD⟩⟩, hS.F ht⟩) hS.2.2 dX9_figure_55
  refine lv_if_eq (tgt := 38) hx hb dX9_figure_31 (by decide) (fun c9 => ?_) (fun c9 => ?_)
  · have hv := hv.1 c9
    refine lv_iconst (v := 0) hx hb dX9_figure_38 (by decide) ?_
    exact jn7 0 _ _ _ hv hP hS hl
  · have hv := hv.2 c9
    refine lv_iconst (v := 1) hx hb dX9_figure_34 (by decide) ?_
    refine lv_goto (tgt := 39) hx hb dX9_figure_35 (by decide) ?_
    exact jn7 1 _ _ _ hv hP hS hl
set_option maxHeartbeats 4000000 in
set_option maxRecDepth 100000 in
theorem wk_X9_readsPerson (l : Launch) (h_X9_codeAt : Ct_X9_codeAt l) (h_X9_figure : Ct_X9_figure l) (sp : Sp_X9_readsPerson) : Ct_X9_readsPerson l := by
  intro D cy ad A fr_ n_ Fg Ng Pg σ0  hpre
  refine Met.ofW (cc := cX9_readsPerson) (maxL := 6) (ret := (some .boolean)) (by decide) rfl ?_
  intro p e s m args below meth c s₁ B hml hv0
  obtain ⟨rfl, hP, hK, hD, hN⟩ := hv0
  have hx := B.exec
  have hb := B.bytes
  have hr := B.returns
  have hts := atoms_spec (ws := wsX9_readsPerson) B.pre
  have hown : s.vm.findClass RX9 = some m.cls := findClass_of_methodNamed B.named
  have hlocks := B.notSynchronized
  have hv := sp fr_ n_ Fg Ng Pg σ0 hpre
  have hl := lv_entry ([.ref (ad 0), .int fr_, .int n_]) (n := 6) (Nat.le_of_ble_eq_true rfl)
  rw [lg_entry_eq]
  generalize (lg_sl ([.ref (ad 0), .int fr_, .int n_]) ++ List.replicate (6 - (lg_sl ([.ref (ad 0), .int fr_, .int n_])).length) Slot.unset).toArray = ls at hl ⊢
  have hl : lv_has ls 6 [(0, .ref (ad 0)), (1, .int fr_), (2, .int n_)] := hl
  refine W_gen (fun R Z H locs hR hZ hH hlo => ?_)
  have hRf : R.frames = 2 := by rw [hR]; rfl
  have hRl : R.locals = 51 := by rw [hR]; rfl
  have hRc : R.cells = 0 := by rw [hR]; rfl
  have hRs : R.slots = 0 := by rw [hR]; rfl
  have hS : va_S A s.heap H locs := by rw [hH, hlo]; exact va_S.rf
  rw [← hH] at hP
  obtain ⟨Q, hQ⟩ : ∃ q : Int32 → S_ → Prop, q = (post_X9_readsPerson fr_ n_ Fg Ng Pg σ0) := ⟨_, rfl⟩
  rw [← hQ] at hv
  have hinX9 : ∀ w ∈ wsX90, w ∈ wsX9_readsPerson := by decide +kernel
  refine lv_aload_n hx hb dX9_readsPerson_0 rfl (lv_at hl 0 rfl) ?_
  refine va_get (ci := 9) (v := .int (rdI σ0 5)) (C := RX9) (T := TX9) (N := 38) hx hb hts hinX9 hown hK hP 0 (wR_0 cy ad σ0) rfl 8 (by decide) (hts (.fieldLink RX9 125 "TaleBansModel" "readPersons" "I") (List.mem_of_getElem? (i := 1) rfl)) (fun x h => h) rfl dX9_readsPerson_1 ?_
  refine lv_bipush (v := 6) hx hb dX9_readsPerson_4 (by decide) ?_
  refine lv_icmp_eq (tgt := 20) hx hb dX9_readsPerson_6 (by decide) (fun c150 => ?_) (fun c150 => ?_)
  · have hv := hv.1 c150
    refine lv_iconst (v := 0) hx hb dX9_readsPerson_20 (by decide) ?_
    rw [hZ]; rw [hQ] at hv
    exact W.zret (v := 0) hx hb hr rfl (fun t ht hW => ⟨⟨0, σ0, rfl, hv, ⟨P_of ht hP, hD⟩⟩, hS.F ht⟩) hS.2.2 dX9_readsPerson_21
  · have hv := hv.2 c150
    refine lv_aload_n hx hb dX9_readsPerson_9 rfl (lv_at hl 0 rfl) ?_
    refine lv_iload_n hx hb dX9_readsPerson_10 rfl (lv_at hl 1 rfl) ?_
    refine lv_iload_n hx hb dX9_readsPerson_11 rfl (lv_at hl 2 rfl) ?_
    obtain ⟨g1, g2, g3, hv⟩ := hv
    obtain ⟨hp, hv⟩ := hv
    refine k_read_i (w := wR cy ad) (va_runV (As := [.int fr_, .int n_]) (rest := []) ⟨hx, hb, hml, hown, hts⟩ (h_X9_codeAt D cy ad A fr_ n_ g1 g2 g3 σ0 hp) (cwV 2 hts gX9_readsPerson_X9_codeAt rfl rfl rfl (by decide +kernel) ⟨le_R hRf (Nat.le_of_ble_eq_true rfl), le_R hRl (Nat.le_of_ble_eq_true rfl)⟩) ⟨(fun a U g mk q => ⟨q.1, q.2.blind⟩), va_recv hK hP (ci := 9) (q0 := 0) rfl (wR_0 cy ad σ0), (fun U hU hW => ⟨rfl, WdR.pre hP hK hD hN hU hW⟩)⟩ rfl rfl hl.1 rfl (lv_room (Nat.le_of_ble_eq_true rfl)) dX9_readsPerson_12 ⟨le_R hRc (Nat.le_refl 0), le_R hRs (Nat.le_refl 0)⟩) hS (fun r4 H locs hr1 hP hS => ?_)
    have hv := hv r4 hr1
    refine lv_bipush (v := 59) hx hb dX9_readsPerson_15 (by decide) ?_
    refine lv_icmp_eq (tgt := 22) hx hb dX9_readsPerson_17 (by decide) (fun c149 => ?_) (fun c149 => ?_)
    · have hv := hv.1 c149
      refine lv_aload_n hx hb dX9_readsPerson_22 rfl (lv_at hl 0 rfl) ?_
      refine lv_dup hx hb dX9_readsPerson_23 rfl ?_
      refine va_get (ci := 9) (v := .int (rdI σ0 4)) (C := RX9) (T := TX9) (N := 38) hx hb hts hinX9 hown hK hP 0 (wR_0 cy ad σ0) rfl 7 (by decide) (hts (.fieldLink RX9 118 "TaleBansModel" "readAt" "I") (List.mem_of_getElem? (i := 2) rfl)) (fun x h => h) rfl dX9_readsPerson_24 ?_
      refine lv_iconst (v := 1) hx hb dX9_readsPerson_27 (by decide) ?_
      refine lv_iadd hx hb dX9_readsPerson_28 ?_
      refine va_put (ci := 9) (v := .int ((rdI σ0 4) + 1)) (ty := .int) (C := RX9) (T := TX9) (N := 38) hx hb hts hinX9 tyX9 tyX9_ok nmX9 hown hK hP hD hS 0 (wR_0 cy ad σ0) rfl 7 (by decide) (hts (.fieldLink RX9 118 "TaleBansModel" "readAt" "I") (List.mem_of_getElem? (i := 2) rfl)) (fun x h => h) rfl (by decide +kernel) rfl rfl (Nat.le_of_ble_eq_true rfl) dX9_readsPerson_29 (fun H locs hP hD hS => ?_)
      obtain ⟨σ5, e6⟩ : ∃ y : S_, y = wrI σ0 4 ((rdI σ0 4) + 1) := ⟨_, rfl⟩
      have hP : va_P D vwCl (wR cy ad σ5) H := by rw [e6]; exact hP
      have hD : va_D A (wR cy ad σ5) := by rw [e6]; exact hD
      have hv := hv σ5 e6
      refine lv_aload_n hx hb dX9_readsPerson_32 rfl (lv_at hl 0 rfl) ?_
      refine lv_iload_n hx hb dX9_readsPerson_33 rfl (lv_at hl 1 rfl) ?_
      refine lv_iload_n hx hb dX9_readsPerson_34 rfl (lv_at hl 2 rfl) ?_
      obtain ⟨g7, g8, g9, hv⟩ := hv
      obtain ⟨hp, hv⟩ := hv
      refine k_read_i (w := wR cy ad) (va_runV (As := [.int fr_, .int n_]) (rest := []) ⟨hx, hb, hml, hown, hts⟩ (h_X9_codeAt D cy ad A fr_ n_ g7 g8 g9 σ5 hp) (cwV 2 hts gX9_readsPerson_X9_codeAt rfl rfl rfl (by decide +kernel) ⟨le_R hRf (Nat.le_of_ble_eq_true rfl), le_R hRl (Nat.le_of_ble_eq_true rfl)⟩) ⟨(fun a U g mk q => ⟨q.1, q.2.blind⟩), va_recv hK hP (ci := 9) (q0 := 0) rfl (wR_0 cy ad σ5), (fun U hU hW => ⟨rfl, WdR.pre hP hK hD hN hU hW⟩)⟩ rfl rfl hl.1 rfl (lv_room (Nat.le_of_ble_eq_true rfl)) dX9_readsPerson_35 ⟨le_R hRc (Nat.le_refl 0), le_R hRs (Nat.le_refl 0)⟩) hS (fun r10 H locs hr1 hP hS => ?_)
      have hv := hv r10 hr1
      refine lv_istore_n (lv' := [(3, .int r10), (0, .ref (ad 0)), (1, .int fr_), (2, .int n_)]) hx hb dX9_readsPerson_38 rfl hl (by decide) rfl (fun ls hl => ?_)
      refine lv_iload_n hx hb dX9_readsPerson_39 rfl (lv_at hl 0 rfl) ?_
      refine lv_bipush (v := 104) hx hb dX9_readsPerson_40 (by decide) ?_
      refine lv_icmp_eq (tgt := 59) hx hb dX9_readsPerson_42 (by decide) (fun c148 => ?_) (fun c148 => ?_)
      · have hv := hv.1 c148
        refine lv_aload_n hx hb dX9_readsPerson_59 rfl (lv_at hl 1 rfl) ?_
        refine lv_dup hx hb dX9_readsPerson_60 rfl ?_
        refine va_get (ci := 9) (v := .int (rdI σ5 4)) (C := RX9) (T := TX9) (N := 38) hx hb hts hinX9 hown hK hP 0 (wR_0 cy ad σ5) rfl 7 (by decide) (hts (.fieldLink RX9 118 "TaleBansModel" "readAt" "I") (List.mem_of_getElem? (i := 2) rfl)) (fun x h => h) rfl dX9_readsPerson_61 ?_
        refine lv_iconst (v := 1) hx hb dX9_readsPerson_64 (by decide) ?_
        refine lv_iadd hx hb dX9_readsPerson_65 ?_
        refine va_put (ci := 9) (v := .int ((rdI σ5 4) + 1)) (ty := .int) (C := RX9) (T := TX9) (N := 38) hx hb hts hinX9 tyX9 tyX9_ok nmX9 hown hK hP hD hS 0 (wR_0 cy ad σ5) rfl 7 (by decide) (hts (.fieldLink RX9 118 "TaleBansModel" "readAt" "I") (List.mem_of_getElem? (i := 2) rfl)) (fun x h => h) rfl (by decide +kernel) rfl rfl (Nat.le_of_ble_eq_true rfl) dX9_readsPerson_66 (fun H locs hP hD hS => ?_)
        obtain ⟨σ11, e12⟩ : ∃ y : S_, y = wrI σ5 4 ((rdI σ5 4) + 1) := ⟨_, rfl⟩
        have hP : va_P D vwCl (wR cy ad σ11) H := by rw [e12]; exact hP
        have hD : va_D A (wR cy ad σ11) := by rw [e12]; exact hD
        have hv := hv σ11 e12
        refine lv_aload_n hx hb dX9_readsPerson_69 rfl (lv_at hl 1 rfl) ?_
        refine lv_iload_n hx hb dX9_readsPerson_70 rfl (lv_at hl 2 rfl) ?_
        refine lv_iload_n hx hb dX9_readsPerson_71 rfl (lv_at hl 3 rfl) ?_
        refine lv_iconst (v := 1) hx hb dX9_readsPerson_72 (by decide) ?_
        refine lv_iconst (v := 5) hx hb dX9_readsPerson_73 (by decide) ?_
        obtain ⟨g13, g14, g15, g16, g17, hv⟩ := hv
        obtain ⟨hp, hv⟩ := hv
        refine k_rel_i (w := wR cy ad) (va_runV (As := [.int fr_, .int n_, .int 1, .int 5]) (rest := []) ⟨hx, hb, hml, hown, hts⟩ (h_X9_figure D cy ad A fr_ n_ 1 5 g13 g14 g15 g16 g17 σ11 hp) (cwV 4 hts gX9_readsPerson_X9_figure rfl rfl rfl (by decide +kernel) ⟨le_R hRf (Nat.le_of_ble_eq_true rfl), le_R hRl (Nat.le_of_ble_eq_true rfl)⟩) ⟨(fun a U g mk q => ⟨q.1, q.2.blind⟩), va_recv hK hP (ci := 9) (q0 := 0) rfl (wR_0 cy ad σ11), (fun U hU hW => ⟨rfl, WdR.pre hP hK hD hN hU hW⟩)⟩ rfl rfl hl.1 rfl (lv_room (Nat.le_of_ble_eq_true rfl)) dX9_readsPerson_74 ⟨le_R hRc (Nat.le_refl 0), le_R hRs (Nat.le_refl 0)⟩) hS (fun r19 σ18 H locs hr1 hP hD hS => ?_)
        have hv := hv r19 σ18 hr1
        refine lv_istore (lv' := [(4, .int r19), (3, .int r10), (0, .ref (ad 0)), (1, .int fr_), (2, .int n_)]) hx hb dX9_readsPerson_77 hl (by decide) rfl (fun ls hl => ?_)
        refine lv_iload hx hb dX9_readsPerson_79 (lv_at hl 0 rfl) ?_
        refine lv_if_ge (tgt := 89) hx hb dX9_readsPerson_81 (by decide) (fun c55 => ?_) (fun c55 => ?_)
        · have hv := hv.1 c55
          refine lv_aload_n hx hb dX9_readsPerson_89 rfl (lv_at hl 2 rfl) ?_
          refine lv_iload_n hx hb dX9_readsPerson_90 rfl (lv_at hl 3 rfl) ?_
          refine lv_iload_n hx hb dX9_readsPerson_91 rfl (lv_at hl 4 rfl) ?_
          refine lv_iconst (v := 0) hx hb dX9_readsPerson_92 (by decide) ?_
          refine lv_iconst (v := 2) hx hb dX9_readsPerson_93 (by decide) ?_
          obtain ⟨g20, g21, g22, g23, g24, hv⟩ := hv
          obtain ⟨hp, hv⟩ := hv
          refine k_rel_i (w := wR cy ad) (va_runV (As := [.int fr_, .int n_, .int 0, .int 2]) (rest := []) ⟨hx, hb, hml, hown, hts⟩ (h_X9_figure D cy ad A fr_ n_ 0 2 g20 g21 g22 g23 g24 σ18 hp) (cwV 4 hts gX9_readsPerson_X9_figure rfl rfl rfl (by decide +kernel) ⟨le_R hRf (Nat.le_of_ble_eq_true rfl), le_R hRl (Nat.le_of_ble_eq_true rfl)⟩) ⟨(fun a U g mk q => ⟨q.1, q.2.blind⟩), va_recv hK hP (ci := 9) (q0 := 0) rfl (wR_0 cy ad σ18), (fun U hU hW => ⟨rfl, WdR.pre hP hK hD hN hU hW⟩)⟩ rfl rfl hl.1 rfl (lv_room (Nat.le_of_ble_eq_true rfl)) dX9_readsPerson_94 ⟨le_R hRc (Nat.le_refl 0), le_R hRs (Nat.le_refl 0)⟩) hS (fun r26 σ25 H locs hr1 hP hD hS => ?_)
          have hv := hv r26 σ25 hr1
          refine lv_istore (lv' := [(5, .int r26), (4, .int r19), (3, .int r10), (0, .ref (ad 0)), (1, .int fr_), (2, .int n_)]) hx hb dX9_readsPerson_97 hl (by decide) rfl (fun ls hl => ?_)
          refine lv_iload hx hb dX9_readsPerson_99 (lv_at hl 0 rfl) ?_
          refine lv_if_ge (tgt := 106) hx hb dX9_readsPerson_101 (by decide) (fun c40 => ?_) (fun c40 => ?_)
          · have hv := hv.1 c40
            refine lv_aload_n hx hb dX9_readsPerson_106 rfl (lv_at hl 3 rfl) ?_
            refine va_get (ci := 9) (v := .ref (ad (4))) (C := RX9) (T := TX9) (N := 38) hx hb hts hinX9 hown hK hP 0 (wR_0 cy ad σ25) rfl 9 (by decide) (hts (.fieldLink RX9 19 "TaleBansModel" "readKind" "[I") (List.mem_of_getElem? (i := 3) rfl)) (fun x h => h) rfl dX9_readsPerson_107 ?_
            refine lv_aload_n hx hb dX9_readsPerson_110 rfl (lv_at hl 3 rfl) ?_
            refine va_get (ci := 9) (v := .int (rdI σ25 5)) (C := RX9) (T := TX9) (N := 38) hx hb hts hinX9 hown hK hP 0 (wR_0 cy ad σ25) rfl 8 (by decide) (hts (.fieldLink RX9 125 "TaleBansModel" "readPersons" "I") (List.mem_of_getElem? (i := 1) rfl)) (fun x h => h) rfl dX9_readsPerson_111 ?_
            refine lv_iload_n hx hb dX9_readsPerson_114 rfl (lv_at hl 2 rfl) ?_
            refine lv_bipush (v := 104) hx hb dX9_readsPerson_115 (by decide) ?_
            obtain ⟨P27, hv, hvr⟩ := hv
            have jn28 : ∀ (b29 : Int32) (H : Heap) (locs : List Loc) (ls : Array Slot), P27 b29 → va_P D vwCl (wR cy ad σ25) H → va_S A s.heap H locs → lv_has ls 6 [(5, .int r26), (4, .int r19), (3, .int r10), (0, .ref (ad 0)), (1, .int fr_), (2, .int n_)] → W p l e R s m ([.ref (ad 0), .int fr_, .int n_] : List Value).toArray below meth c H locs 0 0 Z (F0 m 135 ls [.int b29, .int (rdI σ25 5), .ref (ad (4))]) := by
              intro b29 H locs ls hv hP hS hl
              have hv := hvr b29 hv
              obtain ⟨hi, hv⟩ := hv
              refine va_iast hx hb hK hP hD hS 4 0 (wR_4 cy ad σ25) rfl hi dX9_readsPerson_135 (fun H locs hP hD hS => ?_)
              obtain ⟨σ32, e33⟩ : ∃ y : S_, y = wr2 σ25 4 (Int32.toNatClampNeg (rdI σ25 5)) b29 := ⟨_, rfl⟩
              have hP : va_P D vwCl (wR cy ad σ32) H := by rw [e33]; exact hP
              have hD : va_D A (wR cy ad σ32) := by rw [e33]; exact hD
              have hv := hv σ32 e33
              refine lv_aload_n hx hb dX9_readsPerson_136 rfl (lv_at hl 3 rfl) ?_
              refine va_get (ci := 9) (v := .ref (ad (5))) (C := RX9) (T := TX9) (N := 38) hx hb hts hinX9 hown hK hP 0 (wR_0 cy ad σ32) rfl 10 (by decide) (hts (.fieldLink RX9 22 "TaleBansModel" "readMinds" "[I") (List.mem_of_getElem? (i := 4) rfl)) (fun x h => h) rfl dX9_readsPerson_137 ?_
              refine lv_aload_n hx hb dX9_readsPerson_140 rfl (lv_at hl 3 rfl) ?_
              refine va_get (ci := 9) (v := .int (rdI σ32 5)) (C := RX9) (T := TX9) (N := 38) hx hb hts hinX9 hown hK hP 0 (wR_0 cy ad σ32) rfl 8 (by decide) (hts (.fieldLink RX9 125 "TaleBansModel" "readPersons" "I") (List.mem_of_getElem? (i := 1) rfl)) (fun x h => h) rfl dX9_readsPerson_141 ?_
              refine lv_iload hx hb dX9_readsPerson_144 (lv_at hl 1 rfl) ?_
              obtain ⟨hi, hv⟩ := hv
              refine va_iast hx hb hK hP hD hS 5 0 (wR_5 cy ad σ32) rfl hi dX9_readsPerson_146 (fun H locs hP hD hS => ?_)
              obtain ⟨σ34, e35⟩ : ∃ y : S_, y = wr2 σ32 5 (Int32.toNatClampNeg (rdI σ32 5)) r19 := ⟨_, rfl⟩
              have hP : va_P D vwCl (wR cy ad σ34) H := by rw [e35]; exact hP
              have hD : va_D A (wR cy ad σ34) := by rw [e35]; exact hD
              have hv := hv σ34 e35
              refine lv_aload_n hx hb dX9_readsPerson_147 rfl (lv_at hl 3 rfl) ?_
              refine va_get (ci := 9) (v := .ref (ad (6))) (C := RX9) (T := TX9) (N := 38) hx hb hts hinX9 hown hK hP 0 (wR_0 cy ad σ34) rfl 11 (by decide) (hts (.fieldLink RX9 25 "TaleBansModel" "readHearth" "[I") (List.mem_of_getElem? (i := 5) rfl)) (fun x h => h) rfl dX9_readsPerson_148 ?_
              refine lv_aload_n hx hb dX9_readsPerson_151 rfl (lv_at hl 3 rfl) ?_
              refine va_get (ci := 9) (v := .int (rdI σ34 5)) (C := RX9) (T := TX9) (N := 38) hx hb hts hinX9 hown hK hP 0 (wR_0 cy ad σ34) rfl 8 (by decide) (hts (.fieldLink RX9 125 "TaleBansModel" "readPersons" "I") (List.mem_of_getElem? (i := 1) rfl)) (fun x h => h) rfl dX9_readsPerson_152 ?_
              refine lv_iload hx hb dX9_readsPerson_155 (lv_at hl 0 rfl) ?_
              obtain ⟨hi, hv⟩ := hv
              refine va_iast hx hb hK hP hD hS 6 0 (wR_6 cy ad σ34) rfl hi dX9_readsPerson_157 (fun H locs hP hD hS => ?_)
              obtain ⟨σ36, e37⟩ : ∃ y : S_, y = wr2 σ34 6 (Int32.toNatClampNeg (rdI σ34 5)) r26 := ⟨_, rfl⟩
              have hP : va_P D vwCl (wR cy ad σ36) H := by rw [e37]; exact hP
              have hD : va_D A (wR cy ad σ36) := by rw [e37]; exact hD
              have hv := hv σ36 e37
              refine lv_aload_n hx hb dX9_readsPerson_158 rfl (lv_at hl 3 rfl) ?_
              refine lv_dup hx hb dX9_readsPerson_159 rfl ?_
              refine va_get (ci := 9) (v := .int (rdI σ36 5)) (C := RX9) (T := TX9) (N := 38) hx hb hts hinX9 hown hK hP 0 (wR_0 cy ad σ36) rfl 8 (by decide) (hts (.fieldLink RX9 125 "TaleBansModel" "readPersons" "I") (List.mem_of_getElem? (i := 1) rfl)) (fun x h => h) rfl dX9_readsPerson_160 ?_
              refine lv_iconst (v := 1) hx hb dX9_readsPerson_163 (by decide) ?_
              refine lv_iadd hx hb dX9_readsPerson_164 ?_
              refine va_put (ci := 9) (v := .int ((rdI σ36 5) + 1)) (ty := .int) (C := RX9) (T := TX9) (N := 38) hx hb hts hinX9 tyX9 tyX9_ok nmX9 hown hK hP hD hS 0 (wR_0 cy ad σ36) rfl 8 (by decide) (hts (.fieldLink RX9 125 "TaleBansModel" "readPersons" "I") (List.mem_of_getElem? (i := 1) rfl)) (fun x h => h) rfl (by decide +kernel) rfl rfl (Nat.le_of_ble_eq_true rfl) dX9_readsPerson_165 (fun H locs hP hD hS => ?_)
              obtain ⟨σ38, e39⟩ : ∃ y : S_, y = wrI σ36 5 ((rdI σ36 5) + 1) := ⟨_, rfl⟩
              have hP : va_P D vwCl (wR cy ad σ38) H := by rw [e39]; exact hP
              have hD : va_D A (wR cy ad σ38) := by rw [e39]; exact hD
              have hv := hv σ38 e39
              refine lv_iconst (v := 1) hx hb dX9_readsPerson_168 (by decide) ?_
              rw [hZ]; rw [hQ] at hv
              exact W.zret (v := 1) hx hb hr rfl (fun t ht hW => ⟨⟨1, σ38, rfl, hv, ⟨P_of ht hP, hD⟩⟩, hS.F ht⟩) hS.2.2 dX9_readsPerson_169
            refine lv_icmp_ne (tgt := 124) hx hb dX9_readsPerson_117 (by decide) (fun c31 => ?_) (fun c31 => ?_)
            · have hv := hv.1 c31
              refine lv_iload_n hx hb dX9_readsPerson_124 rfl (lv_at hl 2 rfl) ?_
              refine lv_bipush (v := 98) hx hb dX9_readsPerson_125 (by decide) ?_
              refine lv_icmp_ne (tgt := 134) hx hb dX9_readsPerson_127 (by decide) (fun c30 => ?_) (fun c30 => ?_)
              · have hv := hv.1 c30
                refine lv_iconst (v := 2) hx hb dX9_readsPerson_134 (by decide) ?_
                exact jn28 2 _ _ _ hv hP hS hl
              · have hv := hv.2 c30
                refine lv_iconst (v := 1) hx hb dX9_readsPerson_130 (by decide) ?_
                refine lv_goto (tgt := 135) hx hb dX9_readsPerson_131 (by decide) ?_
                exact jn28 1 _ _ _ hv hP hS hl
            · have hv := hv.2 c31
              refine lv_iconst (v := 0) hx hb dX9_readsPerson_120 (by decide) ?_
              refine lv_goto (tgt := 135) hx hb dX9_readsPerson_121 (by decide) ?_
              exact jn28 0 _ _ _ hv hP hS hl
          · have hv := hv.2 c40
            refine lv_iconst (v := 0) hx hb dX9_readsPerson_104 (by decide) ?_
            rw [hZ]; rw [hQ] at hv
            exact W.zret (v := 0) hx hb hr rfl (fun t ht hW => ⟨⟨0, σ25, rfl, hv, ⟨P_of ht hP, hD⟩⟩, hS.F ht⟩) hS.2.2 dX9_readsPerson_105
        · have hv := hv.2 c55
          refine lv_bipush (v := (-9)) hx hb dX9_readsPerson_84 (by decide) ?_
          refine lv_goto (tgt := 97) hx hb dX9_readsPerson_86 (by decide) ?_
          refine lv_istore (lv' := [(5, .int (-9)), (4, .int r19), (3, .int r10), (0, .ref (ad 0)), (1, .int fr_), (2, .int n_)]) hx hb dX9_readsPerson_97 hl (by decide) rfl (fun ls hl => ?_)
          refine lv_iload hx hb dX9_readsPerson_99 (lv_at hl 0 rfl) ?_
          refine lv_if_ge (tgt := 106) hx hb dX9_readsPerson_101 (by decide) (fun c54 => ?_) (fun c54 => ?_)
          · have hv := hv.1 c54
            refine lv_aload_n hx hb dX9_readsPerson_106 rfl (lv_at hl 3 rfl) ?_
            refine va_get (ci := 9) (v := .ref (ad (4))) (C := RX9) (T := TX9) (N := 38) hx hb hts hinX9 hown hK hP 0 (wR_0 cy ad σ18) rfl 9 (by decide) (hts (.fieldLink RX9 19 "TaleBansModel" "readKind" "[I") (List.mem_of_getElem? (i := 3) rfl)) (fun x h => h) rfl dX9_readsPerson_107 ?_
            refine lv_aload_n hx hb dX9_readsPerson_110 rfl (lv_at hl 3 rfl) ?_
            refine va_get (ci := 9) (v := .int (rdI σ18 5)) (C := RX9) (T := TX9) (N := 38) hx hb hts hinX9 hown hK hP 0 (wR_0 cy ad σ18) rfl 8 (by decide) (hts (.fieldLink RX9 125 "TaleBansModel" "readPersons" "I") (List.mem_of_getElem? (i := 1) rfl)) (fun x h => h) rfl dX9_readsPerson_111 ?_
            refine lv_iload_n hx hb dX9_readsPerson_114 rfl (lv_at hl 2 rfl) ?_
            refine lv_bipush (v := 104) hx hb dX9_readsPerson_115 (by decide) ?_
            obtain ⟨P41, hv, hvr⟩ := hv
            have jn42 : ∀ (b43 : Int32) (H : Heap) (locs : List Loc) (ls : Array Slot), P41 b43 → va_P D vwCl (wR cy ad σ18) H → va_S A s.heap H locs → lv_has ls 6 [(5, .int (-9)), (4, .int r19), (3, .int r10), (0, .ref (ad 0)), (1, .int fr_), (2, .int n_)] → W p l e R s m ([.ref (ad 0), .int fr_, .int n_] : List Value).toArray below meth c H locs 0 0 Z (F0 m 135 ls [.int b43, .int (rdI σ18 5), .ref (ad (4))]) := by
              intro b43 H locs ls hv hP hS hl
              have hv := hvr b43 hv
              obtain ⟨hi, hv⟩ := hv
              refine va_iast hx hb hK hP hD hS 4 0 (wR_4 cy ad σ18) rfl hi dX9_readsPerson_135 (fun H locs hP hD hS => ?_)
              obtain ⟨σ46, e47⟩ : ∃ y : S_, y = wr2 σ18 4 (Int32.toNatClampNeg (rdI σ18 5)) b43 := ⟨_, rfl⟩
              have hP : va_P D vwCl (wR cy ad σ46) H := by rw [e47]; exact hP
              have hD : va_D A (wR cy ad σ46) := by rw [e47]; exact hD
              have hv := hv σ46 e47
              refine lv_aload_n hx hb dX9_readsPerson_136 rfl (lv_at hl 3 rfl) ?_
              refine va_get (ci := 9) (v := .ref (ad (5))) (C := RX9) (T := TX9) (N := 38) hx hb hts hinX9 hown hK hP 0 (wR_0 cy ad σ46) rfl 10 (by decide) (hts (.fieldLink RX9 22 "TaleBansModel" "readMinds" "[I") (List.mem_of_getElem? (i := 4) rfl)) (fun x h => h) rfl dX9_readsPerson_137 ?_
              refine lv_aload_n hx hb dX9_readsPerson_140 rfl (lv_at hl 3 rfl) ?_
              refine va_get (ci := 9) (v := .int (rdI σ46 5)) (C := RX9) (T := TX9) (N := 38) hx hb hts hinX9 hown hK hP 0 (wR_0 cy ad σ46) rfl 8 (by decide) (hts (.fieldLink RX9 125 "TaleBansModel" "readPersons" "I") (List.mem_of_getElem? (i := 1) rfl)) (fun x h => h) rfl dX9_readsPerson_141 ?_
              refine lv_iload hx hb dX9_readsPerson_144 (lv_at hl 1 rfl) ?_
              obtain ⟨hi, hv⟩ := hv
              refine va_iast hx hb hK hP hD hS 5 0 (wR_5 cy ad σ46) rfl hi dX9_readsPerson_146 (fun H locs hP hD hS => ?_)
              obtain ⟨σ48, e49⟩ : ∃ y : S_, y = wr2 σ46 5 (Int32.toNatClampNeg (rdI σ46 5)) r19 := ⟨_, rfl⟩
              have hP : va_P D vwCl (wR cy ad σ48) H := by rw [e49]; exact hP
              have hD : va_D A (wR cy ad σ48) := by rw [e49]; exact hD
              have hv := hv σ48 e49
              refine lv_aload_n hx hb dX9_readsPerson_147 rfl (lv_at hl 3 rfl) ?_
              refine va_get (ci := 9) (v := .ref (ad (6))) (C := RX9) (T := TX9) (N := 38) hx hb hts hinX9 hown hK hP 0 (wR_0 cy ad σ48) rfl 11 (by decide) (hts (.fieldLink RX9 25 "TaleBansModel" "readHearth" "[I") (List.mem_of_getElem? (i := 5) rfl)) (fun x h => h) rfl dX9_readsPerson_148 ?_
              refine lv_aload_n hx hb dX9_readsPerson_151 rfl (lv_at hl 3 rfl) ?_
              refine va_get (ci := 9) (v := .int (rdI σ48 5)) (C := RX9) (T := TX9) (N := 38) hx hb hts hinX9 hown hK hP 0 (wR_0 cy ad σ48) rfl 8 (by decide) (hts (.fieldLink RX9 125 "TaleBansModel" "readPersons" "I") (List.mem_of_getElem? (i := 1) rfl)) (fun x h => h) rfl dX9_readsPerson_152 ?_
              refine lv_iload hx hb dX9_readsPerson_155 (lv_at hl 0 rfl) ?_
              obtain ⟨hi, hv⟩ := hv
              refine va_iast hx hb hK hP hD hS 6 0 (wR_6 cy ad σ48) rfl hi dX9_readsPerson_157 (fun H locs hP hD hS => ?_)
              obtain ⟨σ50, e51⟩ : ∃ y : S_, y = wr2 σ48 6 (Int32.toNatClampNeg (rdI σ48 5)) (-9) := ⟨_, rfl⟩
              have hP : va_P D vwCl (wR cy ad σ50) H := by rw [e51]; exact hP
              have hD : va_D A (wR cy ad σ50) := by rw [e51]; exact hD
              have hv := hv σ50 e51
              refine lv_aload_n hx hb dX9_readsPerson_158 rfl (lv_at hl 3 rfl) ?_
              refine lv_dup hx hb dX9_readsPerson_159 rfl ?_
              refine va_get (ci := 9) (v := .int (rdI σ50 5)) (C := RX9) (T := TX9) (N := 38) hx hb hts hinX9 hown hK hP 0 (wR_0 cy ad σ50) rfl 8 (by decide) (hts (.fieldLink RX9 125 "TaleBansModel" "readPersons" "I") (List.mem_of_getElem? (i := 1) rfl)) (fun x h => h) rfl dX9_readsPerson_160 ?_
              refine lv_iconst (v := 1) hx hb dX9_readsPerson_163 (by decide) ?_
              refine lv_iadd hx hb dX9_readsPerson_164 ?_
              refine va_put (ci := 9) (v := .int ((rdI σ50 5) + 1)) (ty := .int) (C := RX9) (T := TX9) (N := 38) hx hb hts hinX9 tyX9 tyX9_ok nmX9 hown hK hP hD hS 0 (wR_0 cy ad σ50) rfl 8 (by decide) (hts (.fieldLink RX9 125 "TaleBansModel" "readPersons" "I") (List.mem_of_getElem? (i := 1) rfl)) (fun x h => h) rfl (by decide +kernel) rfl rfl (Nat.le_of_ble_eq_true rfl) dX9_readsPerson_165 (fun H locs hP hD hS => ?_)
              obtain ⟨σ52, e53⟩ : ∃ y : S_, y = wrI σ50 5 ((rdI σ50 5) + 1) := ⟨_, rfl⟩
              have hP : va_P D vwCl (wR cy ad σ52) H := by rw [e53]; exact hP
              have hD : va_D A (wR cy ad σ52) := by rw [e53]; exact hD
              have hv := hv σ52 e53
              refine lv_iconst (v := 1) hx hb dX9_readsPerson_168 (by decide) ?_
              rw [hZ]; rw [hQ] at hv
              exact W.zret (v := 1) hx hb hr rfl (fun t ht hW => ⟨⟨1, σ52, rfl, hv, ⟨P_of ht hP, hD⟩⟩, hS.F ht⟩) hS.2.2 dX9_readsPerson_169
            refine lv_icmp_ne (tgt := 124) hx hb dX9_readsPerson_117 (by decide) (fun c45 => ?_) (fun c45 => ?_)
            · have hv := hv.1 c45
              refine lv_iload_n hx hb dX9_readsPerson_124 rfl (lv_at hl 2 rfl) ?_
              refine lv_bipush (v := 98) hx hb dX9_readsPerson_125 (by decide) ?_
              refine lv_icmp_ne (tgt := 134) hx hb dX9_readsPerson_127 (by decide) (fun c44 => ?_) (fun c44 => ?_)
              · have hv := hv.1 c44
                refine lv_iconst (v := 2) hx hb dX9_readsPerson_134 (by decide) ?_
                exact jn42 2 _ _ _ hv hP hS hl
              · have hv := hv.2 c44
                refine lv_iconst (v := 1) hx hb dX9_readsPerson_130 (by decide) ?_
                refine lv_goto (tgt := 135) hx hb dX9_readsPerson_131 (by decide) ?_
                exact jn42 1 _ _ _ hv hP hS hl
            · have hv := hv.2 c45
              refine lv_iconst (v := 0) hx hb dX9_readsPerson_120 (by decide) ?_
              refine lv_goto (tgt := 135) hx hb dX9_readsPerson_121 (by decide) ?_
              exact jn42 0 _ _ _ hv hP hS hl
          · have hv := hv.2 c54
            refine lv_iconst (v := 0) hx hb dX9_readsPerson_104 (by decide) ?_
            rw [hZ]; rw [hQ] at hv
            exact W.zret (v := 0) hx hb hr rfl (fun t ht hW => ⟨⟨0, σ18, rfl, hv, ⟨P_of ht hP, hD⟩⟩, hS.F ht⟩) hS.2.2 dX9_readsPerson_105
      · have hv := hv.2 c148
        refine lv_iload_n hx hb dX9_readsPerson_45 rfl (lv_at hl 0 rfl) ?_
        refine lv_bipush (v := 98) hx hb dX9_readsPerson_46 (by decide) ?_
        refine lv_icmp_eq (tgt := 59) hx hb dX9_readsPerson_48 (by decide) (fun c147 => ?_) (fun c147 => ?_)
        · have hv := hv.1 c147
          refine lv_aload_n hx hb dX9_readsPerson_59 rfl (lv_at hl 1 rfl) ?_
          refine lv_dup hx hb dX9_readsPerson_60 rfl ?_
          refine va_get (ci := 9) (v := .int (rdI σ5 4)) (C := RX9) (T := TX9) (N := 38) hx hb hts hinX9 hown hK hP 0 (wR_0 cy ad σ5) rfl 7 (by decide) (hts (.fieldLink RX9 118 "TaleBansModel" "readAt" "I") (List.mem_of_getElem? (i := 2) rfl)) (fun x h => h) rfl dX9_readsPerson_61 ?_
          refine lv_iconst (v := 1) hx hb dX9_readsPerson_64 (by decide) ?_
          refine lv_iadd hx hb dX9_readsPerson_65 ?_
          refine va_put (ci := 9) (v := .int ((rdI σ5 4) + 1)) (ty := .int) (C := RX9) (T := TX9) (N := 38) hx hb hts hinX9 tyX9 tyX9_ok nmX9 hown hK hP hD hS 0 (wR_0 cy ad σ5) rfl 7 (by decide) (hts (.fieldLink RX9 118 "TaleBansModel" "readAt" "I") (List.mem_of_getElem? (i := 2) rfl)) (fun x h => h) rfl (by decide +kernel) rfl rfl (Nat.le_of_ble_eq_true rfl) dX9_readsPerson_66 (fun H locs hP hD hS => ?_)
          obtain ⟨σ56, e57⟩ : ∃ y : S_, y = wrI σ5 4 ((rdI σ5 4) + 1) := ⟨_, rfl⟩
          have hP : va_P D vwCl (wR cy ad σ56) H := by rw [e57]; exact hP
          have hD : va_D A (wR cy ad σ56) := by rw [e57]; exact hD
          have hv := hv σ56 e57
          refine lv_aload_n hx hb dX9_readsPerson_69 rfl (lv_at hl 1 rfl) ?_
          refine lv_iload_n hx hb dX9_readsPerson_70 rfl (lv_at hl 2 rfl) ?_
          refine lv_iload_n hx hb dX9_readsPerson_71 rfl (lv_at hl 3 rfl) ?_
          refine lv_iconst (v := 1) hx hb dX9_readsPerson_72 (by decide) ?_
          refine lv_iconst (v := 5) hx hb dX9_readsPerson_73 (by decide) ?_
          obtain ⟨g58, g59, g60, g61, g62, hv⟩ := hv
          obtain ⟨hp, hv⟩ := hv
          refine k_rel_i (w := wR cy ad) (va_runV (As := [.int fr_, .int n_, .int 1, .int 5]) (rest := []) ⟨hx, hb, hml, hown, hts⟩ (h_X9_figure D cy ad A fr_ n_ 1 5 g58 g59 g60 g61 g62 σ56 hp) (cwV 4 hts gX9_readsPerson_X9_figure rfl rfl rfl (by decide +kernel) ⟨le_R hRf (Nat.le_of_ble_eq_true rfl), le_R hRl (Nat.le_of_ble_eq_true rfl)⟩) ⟨(fun a U g mk q => ⟨q.1, q.2.blind⟩), va_recv hK hP (ci := 9) (q0 := 0) rfl (wR_0 cy ad σ56), (fun U hU hW => ⟨rfl, WdR.pre hP hK hD hN hU hW⟩)⟩ rfl rfl hl.1 rfl (lv_room (Nat.le_of_ble_eq_true rfl)) dX9_readsPerson_74 ⟨le_R hRc (Nat.le_refl 0), le_R hRs (Nat.le_refl 0)⟩) hS (fun r64 σ63 H locs hr1 hP hD hS => ?_)
          have hv := hv r64 σ63 hr1
          refine lv_istore (lv' := [(4, .int r64), (3, .int r10), (0, .ref (ad 0)), (1, .int fr_), (2, .int n_)]) hx hb dX9_readsPerson_77 hl (by decide) rfl (fun ls hl => ?_)
          refine lv_iload hx hb dX9_readsPerson_79 (lv_at hl 0 rfl) ?_
          refine lv_if_ge (tgt := 89) hx hb dX9_readsPerson_81 (by decide) (fun c100 => ?_) (fun c100 => ?_)
          · have hv := hv.1 c100
            refine lv_aload_n hx hb dX9_readsPerson_89 rfl (lv_at hl 2 rfl) ?_
            refine lv_iload_n hx hb dX9_readsPerson_90 rfl (lv_at hl 3 rfl) ?_
            refine lv_iload_n hx hb dX9_readsPerson_91 rfl (lv_at hl 4 rfl) ?_
            refine lv_iconst (v := 0) hx hb dX9_readsPerson_92 (by decide) ?_
            refine lv_iconst (v := 2) hx hb dX9_readsPerson_93 (by decide) ?_
            obtain ⟨g65, g66, g67, g68, g69, hv⟩ := hv
            obtain ⟨hp, hv⟩ := hv
            refine k_rel_i (w := wR cy ad) (va_runV (As := [.int fr_, .int n_, .int 0, .int 2]) (rest := []) ⟨hx, hb, hml, hown, hts⟩ (h_X9_figure D cy ad A fr_ n_ 0 2 g65 g66 g67 g68 g69 σ63 hp) (cwV 4 hts gX9_readsPerson_X9_figure rfl rfl rfl (by decide +kernel) ⟨le_R hRf (Nat.le_of_ble_eq_true rfl), le_R hRl (Nat.le_of_ble_eq_true rfl)⟩) ⟨(fun a U g mk q => ⟨q.1, q.2.blind⟩), va_recv hK hP (ci := 9) (q0 := 0) rfl (wR_0 cy ad σ63), (fun U hU hW => ⟨rfl, WdR.pre hP hK hD hN hU hW⟩)⟩ rfl rfl hl.1 rfl (lv_room (Nat.le_of_ble_eq_true rfl)) dX9_readsPerson_94 ⟨le_R hRc (Nat.le_refl 0), le_R hRs (Nat.le_refl 0)⟩) hS (fun r71 σ70 H locs hr1 hP hD hS => ?_)
            have hv := hv r71 σ70 hr1
            refine lv_istore (lv' := [(5, .int r71), (4, .int r64), (3, .int r10), (0, .ref (ad 0)), (1, .int fr_), (2, .int n_)]) hx hb dX9_readsPerson_97 hl (by decide) rfl (fun ls hl => ?_)
            refine lv_iload hx hb dX9_readsPerson_99 (lv_at hl 0 rfl) ?_
            refine lv_if_ge (tgt := 106) hx hb dX9_readsPerson_101 (by decide) (fun c85 => ?_) (fun c85 => ?_)
            · have hv := hv.1 c85
              refine lv_aload_n hx hb dX9_readsPerson_106 rfl (lv_at hl 3 rfl) ?_
              refine va_get (ci := 9) (v := .ref (ad (4))) (C := RX9) (T := TX9) (N := 38) hx hb hts hinX9 hown hK hP 0 (wR_0 cy ad σ70) rfl 9 (by decide) (hts (.fieldLink RX9 19 "TaleBansModel" "readKind" "[I") (List.mem_of_getElem? (i := 3) rfl)) (fun x h => h) rfl dX9_readsPerson_107 ?_
              refine lv_aload_n hx hb dX9_readsPerson_110 rfl (lv_at hl 3 rfl) ?_
              refine va_get (ci := 9) (v := .int (rdI σ70 5)) (C := RX9) (T := TX9) (N := 38) hx hb hts hinX9 hown hK hP 0 (wR_0 cy ad σ70) rfl 8 (by decide) (hts (.fieldLink RX9 125 "TaleBansModel" "readPersons" "I") (List.mem_of_getElem? (i := 1) rfl)) (fun x h => h) rfl dX9_readsPerson_111 ?_
              refine lv_iload_n hx hb dX9_readsPerson_114 rfl (lv_at hl 2 rfl) ?_
              refine lv_bipush (v := 104) hx hb dX9_readsPerson_115 (by decide) ?_
              obtain ⟨P72, hv, hvr⟩ := hv
              have jn73 : ∀ (b74 : Int32) (H : Heap) (locs : List Loc) (ls : Array Slot), P72 b74 → va_P D vwCl (wR cy ad σ70) H → va_S A s.heap H locs → lv_has ls 6 [(5, .int r71), (4, .int r64), (3, .int r10), (0, .ref (ad 0)), (1, .int fr_), (2, .int n_)] → W p l e R s m ([.ref (ad 0), .int fr_, .int n_] : List Value).toArray below meth c H locs 0 0 Z (F0 m 135 ls [.int b74, .int (rdI σ70 5), .ref (ad (4))]) := by
                intro b74 H locs ls hv hP hS hl
                have hv := hvr b74 hv
                obtain ⟨hi, hv⟩ := hv
                refine va_iast hx hb hK hP hD hS 4 0 (wR_4 cy ad σ70) rfl hi dX9_readsPerson_135 (fun H locs hP hD hS => ?_)
                obtain ⟨σ77, e78⟩ : ∃ y : S_, y = wr2 σ70 4 (Int32.toNatClampNeg (rdI σ70 5)) b74 := ⟨_, rfl⟩
                have hP : va_P D vwCl (wR cy ad σ77) H := by rw [e78]; exact hP
                have hD : va_D A (wR cy ad σ77) := by rw [e78]; exact hD
                have hv := hv σ77 e78
                refine lv_aload_n hx hb dX9_readsPerson_136 rfl (lv_at hl 3 rfl) ?_
                refine va_get (ci := 9) (v := .ref (ad (5))) (C := RX9) (T := TX9) (N := 38) hx hb hts hinX9 hown hK hP 0 (wR_0 cy ad σ77) rfl 10 (by decide) (hts (.fieldLink RX9 22 "TaleBansModel" "readMinds" "[I") (List.mem_of_getElem? (i := 4) rfl)) (fun x h => h) rfl dX9_readsPerson_137 ?_
                refine lv_aload_n hx hb dX9_readsPerson_140 rfl (lv_at hl 3 rfl) ?_
                refine va_get (ci := 9) (v := .int (rdI σ77 5)) (C := RX9) (T := TX9) (N := 38) hx hb hts hinX9 hown hK hP 0 (wR_0 cy ad σ77) rfl 8 (by decide) (hts (.fieldLink RX9 125 "TaleBansModel" "readPersons" "I") (List.mem_of_getElem? (i := 1) rfl)) (fun x h => h) rfl dX9_readsPerson_141 ?_
                refine lv_iload hx hb dX9_readsPerson_144 (lv_at hl 1 rfl) ?_
                obtain ⟨hi, hv⟩ := hv
                refine va_iast hx hb hK hP hD hS 5 0 (wR_5 cy ad σ77) rfl hi dX9_readsPerson_146 (fun H locs hP hD hS => ?_)
                obtain ⟨σ79, e80⟩ : ∃ y : S_, y = wr2 σ77 5 (Int32.toNatClampNeg (rdI σ77 5)) r64 := ⟨_, rfl⟩
                have hP : va_P D vwCl (wR cy ad σ79) H := by rw [e80]; exact hP
                have hD : va_D A (wR cy ad σ79) := by rw [e80]; exact hD
                have hv := hv σ79 e80
                refine lv_aload_n hx hb dX9_readsPerson_147 rfl (lv_at hl 3 rfl) ?_
                refine va_get (ci := 9) (v := .ref (ad (6))) (C := RX9) (T := TX9) (N := 38) hx hb hts hinX9 hown hK hP 0 (wR_0 cy ad σ79) rfl 11 (by decide) (hts (.fieldLink RX9 25 "TaleBansModel" "readHearth" "[I") (List.mem_of_getElem? (i := 5) rfl)) (fun x h => h) rfl dX9_readsPerson_148 ?_
                refine lv_aload_n hx hb dX9_readsPerson_151 rfl (lv_at hl 3 rfl) ?_
                refine va_get (ci := 9) (v := .int (rdI σ79 5)) (C := RX9) (T := TX9) (N := 38) hx hb hts hinX9 hown hK hP 0 (wR_0 cy ad σ79) rfl 8 (by decide) (hts (.fieldLink RX9 125 "TaleBansModel" "readPersons" "I") (List.mem_of_getElem? (i := 1) rfl)) (fun x h => h) rfl dX9_readsPerson_152 ?_
                refine lv_iload hx hb dX9_readsPerson_155 (lv_at hl 0 rfl) ?_
                obtain ⟨hi, hv⟩ := hv
                refine va_iast hx hb hK hP hD hS 6 0 (wR_6 cy ad σ79) rfl hi dX9_readsPerson_157 (fun H locs hP hD hS => ?_)
                obtain ⟨σ81, e82⟩ : ∃ y : S_, y = wr2 σ79 6 (Int32.toNatClampNeg (rdI σ79 5)) r71 := ⟨_, rfl⟩
                have hP : va_P D vwCl (wR cy ad σ81) H := by rw [e82]; exact hP
                have hD : va_D A (wR cy ad σ81) := by rw [e82]; exact hD
                have hv := hv σ81 e82
                refine lv_aload_n hx hb dX9_readsPerson_158 rfl (lv_at hl 3 rfl) ?_
                refine lv_dup hx hb dX9_readsPerson_159 rfl ?_
                refine va_get (ci := 9) (v := .int (rdI σ81 5)) (C := RX9) (T := TX9) (N := 38) hx hb hts hinX9 hown hK hP 0 (wR_0 cy ad σ81) rfl 8 (by decide) (hts (.fieldLink RX9 125 "TaleBansModel" "readPersons" "I") (List.mem_of_getElem? (i := 1) rfl)) (fun x h => h) rfl dX9_readsPerson_160 ?_
                refine lv_iconst (v := 1) hx hb dX9_readsPerson_163 (by decide) ?_
                refine lv_iadd hx hb dX9_readsPerson_164 ?_
                refine va_put (ci := 9) (v := .int ((rdI σ81 5) + 1)) (ty := .int) (C := RX9) (T := TX9) (N := 38) hx hb hts hinX9 tyX9 tyX9_ok nmX9 hown hK hP hD hS 0 (wR_0 cy ad σ81) rfl 8 (by decide) (hts (.fieldLink RX9 125 "TaleBansModel" "readPersons" "I") (List.mem_of_getElem? (i := 1) rfl)) (fun x h => h) rfl (by decide +kernel) rfl rfl (Nat.le_of_ble_eq_true rfl) dX9_readsPerson_165 (fun H locs hP hD hS => ?_)
                obtain ⟨σ83, e84⟩ : ∃ y : S_, y = wrI σ81 5 ((rdI σ81 5) + 1) := ⟨_, rfl⟩
                have hP : va_P D vwCl (wR cy ad σ83) H := by rw [e84]; exact hP
                have hD : va_D A (wR cy ad σ83) := by rw [e84]; exact hD
                have hv := hv σ83 e84
                refine lv_iconst (v := 1) hx hb dX9_readsPerson_168 (by decide) ?_
                rw [hZ]; rw [hQ] at hv
                exact W.zret (v := 1) hx hb hr rfl (fun t ht hW => ⟨⟨1, σ83, rfl, hv, ⟨P_of ht hP, hD⟩⟩, hS.F ht⟩) hS.2.2 dX9_readsPerson_169
              refine lv_icmp_ne (tgt := 124) hx hb dX9_readsPerson_117 (by decide) (fun c76 => ?_) (fun c76 => ?_)
              · have hv := hv.1 c76
                refine lv_iload_n hx hb dX9_readsPerson_124 rfl (lv_at hl 2 rfl) ?_
                refine lv_bipush (v := 98) hx hb dX9_readsPerson_125 (by decide) ?_
                refine lv_icmp_ne (tgt := 134) hx hb dX9_readsPerson_127 (by decide) (fun c75 => ?_) (fun c75 => ?_)
                · have hv := hv.1 c75
                  refine lv_iconst (v := 2) hx hb dX9_readsPerson_134 (by decide) ?_
                  exact jn73 2 _ _ _ hv hP hS hl
                · have hv := hv.2 c75
                  refine lv_iconst (v := 1) hx hb dX9_readsPerson_130 (by decide) ?_
                  refine lv_goto (tgt := 135) hx hb dX9_readsPerson_131 (by decide) ?_
                  exact jn73 1 _ _ _ hv hP hS hl
              · have hv := hv.2 c76
                refine lv_iconst (v := 0) hx hb dX9_readsPerson_120 (by decide) ?_
                refine lv_goto (tgt := 135) hx hb dX9_readsPerson_121 (by decide) ?_
                exact jn73 0 _ _ _ hv hP hS hl
            · have hv := hv.2 c85
              refine lv_iconst (v := 0) hx hb dX9_readsPerson_104 (by decide) ?_
              rw [hZ]; rw [hQ] at hv
              exact W.zret (v := 0) hx hb hr rfl (fun t ht hW => ⟨⟨0, σ70, rfl, hv, ⟨P_of ht hP, hD⟩⟩, hS.F ht⟩) hS.2.2 dX9_readsPerson_105
          · have hv := hv.2 c100
            refine lv_bipush (v := (-9)) hx hb dX9_readsPerson_84 (by decide) ?_
            refine lv_goto (tgt := 97) hx hb dX9_readsPerson_86 (by decide) ?_
            refine lv_istore (lv' := [(5, .int (-9)), (4, .int r64), (3, .int r10), (0, .ref (ad 0)), (1, .int fr_), (2, .int n_)]) hx hb dX9_readsPerson_97 hl (by decide) rfl (fun ls hl => ?_)
            refine lv_iload hx hb dX9_readsPerson_99 (lv_at hl 0 rfl) ?_
            refine lv_if_ge (tgt := 106) hx hb dX9_readsPerson_101 (by decide) (fun c99 => ?_) (fun c99 => ?_)
            · have hv := hv.1 c99
              refine lv_aload_n hx hb dX9_readsPerson_106 rfl (lv_at hl 3 rfl) ?_
              refine va_get (ci := 9) (v := .ref (ad (4))) (C := RX9) (T := TX9) (N := 38) hx hb hts hinX9 hown hK hP 0 (wR_0 cy ad σ63) rfl 9 (by decide) (hts (.fieldLink RX9 19 "TaleBansModel" "readKind" "[I") (List.mem_of_getElem? (i := 3) rfl)) (fun x h => h) rfl dX9_readsPerson_107 ?_
              refine lv_aload_n hx hb dX9_readsPerson_110 rfl (lv_at hl 3 rfl) ?_
              refine va_get (ci := 9) (v := .int (rdI σ63 5)) (C := RX9) (T := TX9) (N := 38) hx hb hts hinX9 hown hK hP 0 (wR_0 cy ad σ63) rfl 8 (by decide) (hts (.fieldLink RX9 125 "TaleBansModel" "readPersons" "I") (List.mem_of_getElem? (i := 1) rfl)) (fun x h => h) rfl dX9_readsPerson_111 ?_
              refine lv_iload_n hx hb dX9_readsPerson_114 rfl (lv_at hl 2 rfl) ?_
              refine lv_bipush (v := 104) hx hb dX9_readsPerson_115 (by decide) ?_
              obtain ⟨P86, hv, hvr⟩ := hv
              have jn87 : ∀ (b88 : Int32) (H : Heap) (locs : List Loc) (ls : Array Slot), P86 b88 → va_P D vwCl (wR cy ad σ63) H → va_S A s.heap H locs → lv_has ls 6 [(5, .int (-9)), (4, .int r64), (3, .int r10), (0, .ref (ad 0)), (1, .int fr_), (2, .int n_)] → W p l e R s m ([.ref (ad 0), .int fr_, .int n_] : List Value).toArray below meth c H locs 0 0 Z (F0 m 135 ls [.int b88, .int (rdI σ63 5), .ref (ad (4))]) := by
                intro b88 H locs ls hv hP hS hl
                have hv := hvr b88 hv
                obtain ⟨hi, hv⟩ := hv
                refine va_iast hx hb hK hP hD hS 4 0 (wR_4 cy ad σ63) rfl hi dX9_readsPerson_135 (fun H locs hP hD hS => ?_)
                obtain ⟨σ91, e92⟩ : ∃ y : S_, y = wr2 σ63 4 (Int32.toNatClampNeg (rdI σ63 5)) b88 := ⟨_, rfl⟩
                have hP : va_P D vwCl (wR cy ad σ91) H := by rw [e92]; exact hP
                have hD : va_D A (wR cy ad σ91) := by rw [e92]; exact hD
                have hv := hv σ91 e92
                refine lv_aload_n hx hb dX9_readsPerson_136 rfl (lv_at hl 3 rfl) ?_
                refine va_get (ci := 9) (v := .ref (ad (5))) (C := RX9) (T := TX9) (N := 38) hx hb hts hinX9 hown hK hP 0 (wR_0 cy ad σ91) rfl 10 (by decide) (hts (.fieldLink RX9 22 "TaleBansModel" "readMinds" "[I") (List.mem_of_getElem? (i := 4) rfl)) (fun x h => h) rfl dX9_readsPerson_137 ?_
                refine lv_aload_n hx hb dX9_readsPerson_140 rfl (lv_at hl 3 rfl) ?_
                refine va_get (ci := 9) (v := .int (rdI σ91 5)) (C := RX9) (T := TX9) (N := 38) hx hb hts hinX9 hown hK hP 0 (wR_0 cy ad σ91) rfl 8 (by decide) (hts (.fieldLink RX9 125 "TaleBansModel" "readPersons" "I") (List.mem_of_getElem? (i := 1) rfl)) (fun x h => h) rfl dX9_readsPerson_141 ?_
                refine lv_iload hx hb dX9_readsPerson_144 (lv_at hl 1 rfl) ?_
                obtain ⟨hi, hv⟩ := hv
                refine va_iast hx hb hK hP hD hS 5 0 (wR_5 cy ad σ91) rfl hi dX9_readsPerson_146 (fun H locs hP hD hS => ?_)
                obtain ⟨σ93, e94⟩ : ∃ y : S_, y = wr2 σ91 5 (Int32.toNatClampNeg (rdI σ91 5)) r64 := ⟨_, rfl⟩
                have hP : va_P D vwCl (wR cy ad σ93) H := by rw [e94]; exact hP
                have hD : va_D A (wR cy ad σ93) := by rw [e94]; exact hD
                have hv := hv σ93 e94
                refine lv_aload_n hx hb dX9_readsPerson_147 rfl (lv_at hl 3 rfl) ?_
                refine va_get (ci := 9) (v := .ref (ad (6))) (C := RX9) (T := TX9) (N := 38) hx hb hts hinX9 hown hK hP 0 (wR_0 cy ad σ93) rfl 11 (by decide) (hts (.fieldLink RX9 25 "TaleBansModel" "readHearth" "[I") (List.mem_of_getElem? (i := 5) rfl)) (fun x h => h) rfl dX9_readsPerson_148 ?_
                refine lv_aload_n hx hb dX9_readsPerson_151 rfl (lv_at hl 3 rfl) ?_
                refine va_get (ci := 9) (v := .int (rdI σ93 5)) (C := RX9) (T := TX9) (N := 38) hx hb hts hinX9 hown hK hP 0 (wR_0 cy ad σ93) rfl 8 (by decide) (hts (.fieldLink RX9 125 "TaleBansModel" "readPersons" "I") (List.mem_of_getElem? (i := 1) rfl)) (fun x h => h) rfl dX9_readsPerson_152 ?_
                refine lv_iload hx hb dX9_readsPerson_155 (lv_at hl 0 rfl) ?_
                obtain ⟨hi, hv⟩ := hv
                refine va_iast hx hb hK hP hD hS 6 0 (wR_6 cy ad σ93) rfl hi dX9_readsPerson_157 (fun H locs hP hD hS => ?_)
                obtain ⟨σ95, e96⟩ : ∃ y : S_, y = wr2 σ93 6 (Int32.toNatClampNeg (rdI σ93 5)) (-9) := ⟨_, rfl⟩
                have hP : va_P D vwCl (wR cy ad σ95) H := by rw [e96]; exact hP
                have hD : va_D A (wR cy ad σ95) := by rw [e96]; exact hD
                have hv := hv σ95 e96
                refine lv_aload_n hx hb dX9_readsPerson_158 rfl (lv_at hl 3 rfl) ?_
                refine lv_dup hx hb dX9_readsPerson_159 rfl ?_
                refine va_get (ci := 9) (v := .int (rdI σ95 5)) (C := RX9) (T := TX9) (N := 38) hx hb hts hinX9 hown hK hP 0 (wR_0 cy ad σ95) rfl 8 (by decide) (hts (.fieldLink RX9 125 "TaleBansModel" "readPersons" "I") (List.mem_of_getElem? (i := 1) rfl)) (fun x h => h) rfl dX9_readsPerson_160 ?_
                refine lv_iconst (v := 1) hx hb dX9_readsPerson_163 (by decide) ?_
                refine lv_iadd hx hb dX9_readsPerson_164 ?_
                refine va_put (ci := 9) (v := .int ((rdI σ95 5) + 1)) (ty := .int) (C := RX9) (T := TX9) (N := 38) hx hb hts hinX9 tyX9 tyX9_ok nmX9 hown hK hP hD hS 0 (wR_0 cy ad σ95) rfl 8 (by decide) (hts (.fieldLink RX9 125 "TaleBansModel" "readPersons" "I") (List.mem_of_getElem? (i := 1) rfl)) (fun x h => h) rfl (by decide +kernel) rfl rfl (Nat.le_of_ble_eq_true rfl) dX9_readsPerson_165 (fun H locs hP hD hS => ?_)
                obtain ⟨σ97, e98⟩ : ∃ y : S_, y = wrI σ95 5 ((rdI σ95 5) + 1) := ⟨_, rfl⟩
                have hP : va_P D vwCl (wR cy ad σ97) H := by rw [e98]; exact hP
                have hD : va_D A (wR cy ad σ97) := by rw [e98]; exact hD
                have hv := hv σ97 e98
                refine lv_iconst (v := 1) hx hb dX9_readsPerson_168 (by decide) ?_
                rw [hZ]; rw [hQ] at hv
                exact W.zret (v := 1) hx hb hr rfl (fun t ht hW => ⟨⟨1, σ97, rfl, hv, ⟨P_of ht hP, hD⟩⟩, hS.F ht⟩) hS.2.2 dX9_readsPerson_169
              refine lv_icmp_ne (tgt := 124) hx hb dX9_readsPerson_117 (by decide) (fun c90 => ?_) (fun c90 => ?_)
              · have hv := hv.1 c90
                refine lv_iload_n hx hb dX9_readsPerson_124 rfl (lv_at hl 2 rfl) ?_
                refine lv_bipush (v := 98) hx hb dX9_readsPerson_125 (by decide) ?_
                refine lv_icmp_ne (tgt := 134) hx hb dX9_readsPerson_127 (by decide) (fun c89 => ?_) (fun c89 => ?_)
                · have hv := hv.1 c89
                  refine lv_iconst (v := 2) hx hb dX9_readsPerson_134 (by decide) ?_
                  exact jn87 2 _ _ _ hv hP hS hl
                · have hv := hv.2 c89
                  refine lv_iconst (v := 1) hx hb dX9_readsPerson_130 (by decide) ?_
                  refine lv_goto (tgt := 135) hx hb dX9_readsPerson_131 (by decide) ?_
                  exact jn87 1 _ _ _ hv hP hS hl
              · have hv := hv.2 c90
                refine lv_iconst (v := 0) hx hb dX9_readsPerson_120 (by decide) ?_
                refine lv_goto (tgt := 135) hx hb dX9_readsPerson_121 (by decide) ?_
                exact jn87 0 _ _ _ hv hP hS hl
            · have hv := hv.2 c99
              refine lv_iconst (v := 0) hx hb dX9_readsPerson_104 (by decide) ?_
              rw [hZ]; rw [hQ] at hv
              exact W.zret (v := 0) hx hb hr rfl (fun t ht hW => ⟨⟨0, σ63, rfl, hv, ⟨P_of ht hP, hD⟩⟩, hS.F ht⟩) hS.2.2 dX9_readsPerson_105
        · have hv := hv.2 c147
          refine lv_iload_n hx hb dX9_readsPerson_51 rfl (lv_at hl 0 rfl) ?_
          refine lv_bipush (v := 103) hx hb dX9_readsPerson_52 (by decide) ?_
          refine lv_icmp_eq (tgt := 59) hx hb dX9_readsPerson_54 (by decide) (fun c146 => ?_) (fun c146 => ?_)
          · have hv := hv.1 c146
            refine lv_aload_n hx hb dX9_readsPerson_59 rfl (lv_at hl 1 rfl) ?_
            refine lv_dup hx hb dX9_readsPerson_60 rfl ?_
            refine va_get (ci := 9) (v := .int (rdI σ5 4)) (C := RX9) (T := TX9) (N := 38) hx hb hts hinX9 hown hK hP 0 (wR_0 cy ad σ5) rfl 7 (by decide) (hts (.fieldLink RX9 118 "TaleBansModel" "readAt" "I") (List.mem_of_getElem? (i := 2) rfl)) (fun x h => h) rfl dX9_readsPerson_61 ?_
            refine lv_iconst (v := 1) hx hb dX9_readsPerson_64 (by decide) ?_
            refine lv_iadd hx hb dX9_readsPerson_65 ?_
            refine va_put (ci := 9) (v := .int ((rdI σ5 4) + 1)) (ty := .int) (C := RX9) (T := TX9) (N := 38) hx hb hts hinX9 tyX9 tyX9_ok nmX9 hown hK hP hD hS 0 (wR_0 cy ad σ5) rfl 7 (by decide) (hts (.fieldLink RX9 118 "TaleBansModel" "readAt" "I") (List.mem_of_getElem? (i := 2) rfl)) (fun x h => h) rfl (by decide +kernel) rfl rfl (Nat.le_of_ble_eq_true rfl) dX9_readsPerson_66 (fun H locs hP hD hS => ?_)
            obtain ⟨σ101, e102⟩ : ∃ y : S_, y = wrI σ5 4 ((rdI σ5 4) + 1) := ⟨_, rfl⟩
            have hP : va_P D vwCl (wR cy ad σ101) H := by rw [e102]; exact hP
            have hD : va_D A (wR cy ad σ101) := by rw [e102]; exact hD
            have hv := hv σ101 e102
            refine lv_aload_n hx hb dX9_readsPerson_69 rfl (lv_at hl 1 rfl) ?_
            refine lv_iload_n hx hb dX9_readsPerson_70 rfl (lv_at hl 2 rfl) ?_
            refine lv_iload_n hx hb dX9_readsPerson_71 rfl (lv_at hl 3 rfl) ?_
            refine lv_iconst (v := 1) hx hb dX9_readsPerson_72 (by decide) ?_
            refine lv_iconst (v := 5) hx hb dX9_readsPerson_73 (by decide) ?_
            obtain ⟨g103, g104, g105, g106, g107, hv⟩ := hv
            obtain ⟨hp, hv⟩ := hv
            refine k_rel_i (w := wR cy ad) (va_runV (As := [.int fr_, .int n_, .int 1, .int 5]) (rest := []) ⟨hx, hb, hml, hown, hts⟩ (h_X9_figure D cy ad A fr_ n_ 1 5 g103 g104 g105 g106 g107 σ101 hp) (cwV 4 hts gX9_readsPerson_X9_figure rfl rfl rfl (by decide +kernel) ⟨le_R hRf (Nat.le_of_ble_eq_true rfl), le_R hRl (Nat.le_of_ble_eq_true rfl)⟩) ⟨(fun a U g mk q => ⟨q.1, q.2.blind⟩), va_recv hK hP (ci := 9) (q0 := 0) rfl (wR_0 cy ad σ101), (fun U hU hW => ⟨rfl, WdR.pre hP hK hD hN hU hW⟩)⟩ rfl rfl hl.1 rfl (lv_room (Nat.le_of_ble_eq_true rfl)) dX9_readsPerson_74 ⟨le_R hRc (Nat.le_refl 0), le_R hRs (Nat.le_refl 0)⟩) hS (fun r109 σ108 H locs hr1 hP hD hS => ?_)
            have hv := hv r109 σ108 hr1
            refine lv_istore (lv' := [(4, .int r109), (3, .int r10), (0, .ref (ad 0)), (1, .int fr_), (2, .int n_)]) hx hb dX9_readsPerson_77 hl (by decide) rfl (fun ls hl => ?_)
            refine lv_iload hx hb dX9_readsPerson_79 (lv_at hl 0 rfl) ?_
            refine lv_if_ge (tgt := 89) hx hb dX9_readsPerson_81 (by decide) (fun c145 => ?_) (fun c145 => ?_)
            · have hv := hv.1 c145
              refine lv_aload_n hx hb dX9_readsPerson_89 rfl (lv_at hl 2 rfl) ?_
              refine lv_iload_n hx hb dX9_readsPerson_90 rfl (lv_at hl 3 rfl) ?_
              refine lv_iload_n hx hb dX9_readsPerson_91 rfl (lv_at hl 4 rfl) ?_
              refine lv_iconst (v := 0) hx hb dX9_readsPerson_92 (by decide) ?_
              refine lv_iconst (v := 2) hx hb dX9_readsPerson_93 (by decide) ?_
              obtain ⟨g110, g111, g112, g113, g114, hv⟩ := hv
              obtain ⟨hp, hv⟩ := hv
              refine k_rel_i (w := wR cy ad) (va_runV (As := [.int fr_, .int n_, .int 0, .int 2]) (rest := []) ⟨hx, hb, hml, hown, hts⟩ (h_X9_figure D cy ad A fr_ n_ 0 2 g110 g111 g112 g113 g114 σ108 hp) (cwV 4 hts gX9_readsPerson_X9_figure rfl rfl rfl (by decide +kernel) ⟨le_R hRf (Nat.le_of_ble_eq_true rfl), le_R hRl (Nat.le_of_ble_eq_true rfl)⟩) ⟨(fun a U g mk q => ⟨q.1, q.2.blind⟩), va_recv hK hP (ci := 9) (q0 := 0) rfl (wR_0 cy ad σ108), (fun U hU hW => ⟨rfl, WdR.pre hP hK hD hN hU hW⟩)⟩ rfl rfl hl.1 rfl (lv_room (Nat.le_of_ble_eq_true rfl)) dX9_readsPerson_94 ⟨le_R hRc (Nat.le_refl 0), le_R hRs (Nat.le_refl 0)⟩) hS (fun r116 σ115 H locs hr1 hP hD hS => ?_)
              have hv := hv r116 σ115 hr1
              refine lv_istore (lv' := [(5, .int r116), (4, .int r109), (3, .int r10), (0, .ref (ad 0)), (1, .int fr_), (2, .int n_)]) hx hb dX9_readsPerson_97 hl (by decide) rfl (fun ls hl => ?_)
              refine lv_iload hx hb dX9_readsPerson_99 (lv_at hl 0 rfl) ?_
              refine lv_if_ge (tgt := 106) hx hb dX9_readsPerson_101 (by decide) (fun c130 => ?_) (fun c130 => ?_)
              · have hv := hv.1 c130
                refine lv_aload_n hx hb dX9_readsPerson_106 rfl (lv_at hl 3 rfl) ?_
                refine va_get (ci := 9) (v := .ref (ad (4))) (C := RX9) (T := TX9) (N := 38) hx hb hts hinX9 hown hK hP 0 (wR_0 cy ad σ115) rfl 9 (by decide) (hts (.fieldLink RX9 19 "TaleBansModel" "readKind" "[I") (List.mem_of_getElem? (i := 3) rfl)) (fun x h => h) rfl dX9_readsPerson_107 ?_
                refine lv_aload_n hx hb dX9_readsPerson_110 rfl (lv_at hl 3 rfl) ?_
                refine va_get (ci := 9) (v := .int (rdI σ115 5)) (C := RX9) (T := TX9) (N := 38) hx hb hts hinX9 hown hK hP 0 (wR_0 cy ad σ115) rfl 8 (by decide) (hts (.fieldLink RX9 125 "TaleBansModel" "readPersons" "I") (List.mem_of_getElem? (i := 1) rfl)) (fun x h => h) rfl dX9_readsPerson_111 ?_
                refine lv_iload_n hx hb dX9_readsPerson_114 rfl (lv_at hl 2 rfl) ?_
                refine lv_bipush (v := 104) hx hb dX9_readsPerson_115 (by decide) ?_
                obtain ⟨P117, hv, hvr⟩ := hv
                have jn118 : ∀ (b119 : Int32) (H : Heap) (locs : List Loc) (ls : Array Slot), P117 b119 → va_P D vwCl (wR cy ad σ115) H → va_S A s.heap H locs → lv_has ls 6 [(5, .int r116), (4, .int r109), (3, .int r10), (0, .ref (ad 0)), (1, .int fr_), (2, .int n_)] → W p l e R s m ([.ref (ad 0), .int fr_, .int n_] : List Value).toArray below meth c H locs 0 0 Z (F0 m 135 ls [.int b119, .int (rdI σ115 5), .ref (ad (4))]) := by
                  intro b119 H locs ls hv hP hS hl
                  have hv := hvr b119 hv
                  obtain ⟨hi, hv⟩ := hv
                  refine va_iast hx hb hK hP hD hS 4 0 (wR_4 cy ad σ115) rfl hi dX9_readsPerson_135 (fun H locs hP hD hS => ?_)
                  obtain ⟨σ122, e123⟩ : ∃ y : S_, y = wr2 σ115 4 (Int32.toNatClampNeg (rdI σ115 5)) b119 := ⟨_, rfl⟩
                  have hP : va_P D vwCl (wR cy ad σ122) H := by rw [e123]; exact hP
                  have hD : va_D A (wR cy ad σ122) := by rw [e123]; exact hD
                  have hv := hv σ122 e123
                  refine lv_aload_n hx hb dX9_readsPerson_136 rfl (lv_at hl 3 rfl) ?_
                  refine va_get (ci := 9) (v := .ref (ad (5))) (C := RX9) (T := TX9) (N := 38) hx hb hts hinX9 hown hK hP 0 (wR_0 cy ad σ122) rfl 10 (by decide) (hts (.fieldLink RX9 22 "TaleBansModel" "readMinds" "[I") (List.mem_of_getElem? (i := 4) rfl)) (fun x h => h) rfl dX9_readsPerson_137 ?_
                  refine lv_aload_n hx hb dX9_readsPerson_140 rfl (lv_at hl 3 rfl) ?_
                  refine va_get (ci := 9) (v := .int (rdI σ122 5)) (C := RX9) (T := TX9) (N := 38) hx hb hts hinX9 hown hK hP 0 (wR_0 cy ad σ122) rfl 8 (by decide) (hts (.fieldLink RX9 125 "TaleBansModel" "readPersons" "I") (List.mem_of_getElem? (i := 1) rfl)) (fun x h => h) rfl dX9_readsPerson_141 ?_
                  refine lv_iload hx hb dX9_readsPerson_144 (lv_at hl 1 rfl) ?_
                  obtain ⟨hi, hv⟩ := hv
                  refine va_iast hx hb hK hP hD hS 5 0 (wR_5 cy ad σ122) rfl hi dX9_readsPerson_146 (fun H locs hP hD hS => ?_)
                  obtain ⟨σ124, e125⟩ : ∃ y : S_, y = wr2 σ122 5 (Int32.toNatClampNeg (rdI σ122 5)) r109 := ⟨_, rfl⟩
                  have hP : va_P D vwCl (wR cy ad σ124) H := by rw [e125]; exact hP
                  have hD : va_D A (wR cy ad σ124) := by rw [e125]; exact hD
                  have hv := hv σ124 e125
                  refine lv_aload_n hx hb dX9_readsPerson_147 rfl (lv_at hl 3 rfl) ?_
                  refine va_get (ci := 9) (v := .ref (ad (6))) (C := RX9) (T := TX9) (N := 38) hx hb hts hinX9 hown hK hP 0 (wR_0 cy ad σ124) rfl 11 (by decide) (hts (.fieldLink RX9 25 "TaleBansModel" "readHearth" "[I") (List.mem_of_getElem? (i := 5) rfl)) (fun x h => h) rfl dX9_readsPerson_148 ?_
                  refine lv_aload_n hx hb dX9_readsPerson_151 rfl (lv_at hl 3 rfl) ?_
                  refine va_get (ci := 9) (v := .int (rdI σ124 5)) (C := RX9) (T := TX9) (N := 38) hx hb hts hinX9 hown hK hP 0 (wR_0 cy ad σ124) rfl 8 (by decide) (hts (.fieldLink RX9 125 "TaleBansModel" "readPersons" "I") (List.mem_of_getElem? (i := 1) rfl)) (fun x h => h) rfl dX9_readsPerson_152 ?_
                  refine lv_iload hx hb dX9_readsPerson_155 (lv_at hl 0 rfl) ?_
                  obtain ⟨hi, hv⟩ := hv
                  refine va_iast hx hb hK hP hD hS 6 0 (wR_6 cy ad σ124) rfl hi dX9_readsPerson_157 (fun H locs hP hD hS => ?_)
                  obtain ⟨σ126, e127⟩ : ∃ y : S_, y = wr2 σ124 6 (Int32.toNatClampNeg (rdI σ124 5)) r116 := ⟨_, rfl⟩
                  have hP : va_P D vwCl (wR cy ad σ126) H := by rw [e127]; exact hP
                  have hD : va_D A (wR cy ad σ126) := by rw [e127]; exact hD
                  have hv := hv σ126 e127
                  refine lv_aload_n hx hb dX9_readsPerson_158 rfl (lv_at hl 3 rfl) ?_
                  refine lv_dup hx hb dX9_readsPerson_159 rfl ?_
                  refine va_get (ci := 9) (v := .int (rdI σ126 5)) (C := RX9) (T := TX9) (N := 38) hx hb hts hinX9 hown hK hP 0 (wR_0 cy ad σ126) rfl 8 (by decide) (hts (.fieldLink RX9 125 "TaleBansModel" "readPersons" "I") (List.mem_of_getElem? (i := 1) rfl)) (fun x h => h) rfl dX9_readsPerson_160 ?_
                  refine lv_iconst (v := 1) hx hb dX9_readsPerson_163 (by decide) ?_
                  refine lv_iadd hx hb dX9_readsPerson_164 ?_
                  refine va_put (ci := 9) (v := .int ((rdI σ126 5) + 1)) (ty := .int) (C := RX9) (T := TX9) (N := 38) hx hb hts hinX9 tyX9 tyX9_ok nmX9 hown hK hP hD hS 0 (wR_0 cy ad σ126) rfl 8 (by decide) (hts (.fieldLink RX9 125 "TaleBansModel" "readPersons" "I") (List.mem_of_getElem? (i := 1) rfl)) (fun x h => h) rfl (by decide +kernel) rfl rfl (Nat.le_of_ble_eq_true rfl) dX9_readsPerson_165 (fun H locs hP hD hS => ?_)
                  obtain ⟨σ128, e129⟩ : ∃ y : S_, y = wrI σ126 5 ((rdI σ126 5) + 1) := ⟨_, rfl⟩
                  have hP : va_P D vwCl (wR cy ad σ128) H := by rw [e129]; exact hP
                  have hD : va_D A (wR cy ad σ128) := by rw [e129]; exact hD
                  have hv := hv σ128 e129
                  refine lv_iconst (v := 1) hx hb dX9_readsPerson_168 (by decide) ?_
                  rw [hZ]; rw [hQ] at hv
                  exact W.zret (v := 1) hx hb hr rfl (fun t ht hW => ⟨⟨1, σ128, rfl, hv, ⟨P_of ht hP, hD⟩⟩, hS.F ht⟩) hS.2.2 dX9_readsPerson_169
                refine lv_icmp_ne (tgt := 124) hx hb dX9_readsPerson_117 (by decide) (fun c121 => ?_) (fun c121 => ?_)
                · have hv := hv.1 c121
                  refine lv_iload_n hx hb dX9_readsPerson_124 rfl (lv_at hl 2 rfl) ?_
                  refine lv_bipush (v := 98) hx hb dX9_readsPerson_125 (by decide) ?_
                  refine lv_icmp_ne (tgt := 134) hx hb dX9_readsPerson_127 (by decide) (fun c120 => ?_) (fun c120 => ?_)
                  · have hv := hv.1 c120
                    refine lv_iconst (v := 2) hx hb dX9_readsPerson_134 (by decide) ?_
                    exact jn118 2 _ _ _ hv hP hS hl
                  · have hv := hv.2 c120
                    refine lv_iconst (v := 1) hx hb dX9_readsPerson_130 (by decide) ?_
                    refine lv_goto (tgt := 135) hx hb dX9_readsPerson_131 (by decide) ?_
                    exact jn118 1 _ _ _ hv hP hS hl
                · have hv := hv.2 c121
                  refine lv_iconst (v := 0) hx hb dX9_readsPerson_120 (by decide) ?_
                  refine lv_goto (tgt := 135) hx hb dX9_readsPerson_121 (by decide) ?_
                  exact jn118 0 _ _ _ hv hP hS hl
              · have hv := hv.2 c130
                refine lv_iconst (v := 0) hx hb dX9_readsPerson_104 (by decide) ?_
                rw [hZ]; rw [hQ] at hv
                exact W.zret (v := 0) hx hb hr rfl (fun t ht hW => ⟨⟨0, σ115, rfl, hv, ⟨P_of ht hP, hD⟩⟩, hS.F ht⟩) hS.2.2 dX9_readsPerson_105
            · have hv := hv.2 c145
              refine lv_bipush (v := (-9)) hx hb dX9_readsPerson_84 (by decide) ?_
              refine lv_goto (tgt := 97) hx hb dX9_readsPerson_86 (by decide) ?_
              refine lv_istore (lv' := [(5, .int (-9)), (4, .int r109), (3, .int r10), (0, .ref (ad 0)), (1, .int fr_), (2, .int n_)]) hx hb dX9_readsPerson_97 hl (by decide) rfl (fun ls hl => ?_)
              refine lv_iload hx hb dX9_readsPerson_99 (lv_at hl 0 rfl) ?_
              refine lv_if_ge (tgt := 106) hx hb dX9_readsPerson_101 (by decide) (fun c144 => ?_) (fun c144 => ?_)
              · have hv := hv.1 c144
                refine lv_aload_n hx hb dX9_readsPerson_106 rfl (lv_at hl 3 rfl) ?_
                refine va_get (ci := 9) (v := .ref (ad (4))) (C := RX9) (T := TX9) (N := 38) hx hb hts hinX9 hown hK hP 0 (wR_0 cy ad σ108) rfl 9 (by decide) (hts (.fieldLink RX9 19 "TaleBansModel" "readKind" "[I") (List.mem_of_getElem? (i := 3) rfl)) (fun x h => h) rfl dX9_readsPerson_107 ?_
                refine lv_aload_n hx hb dX9_readsPerson_110 rfl (lv_at hl 3 rfl) ?_
                refine va_get (ci := 9) (v := .int (rdI σ108 5)) (C := RX9) (T := TX9) (N := 38) hx hb hts hinX9 hown hK hP 0 (wR_0 cy ad σ108) rfl 8 (by decide) (hts (.fieldLink RX9 125 "TaleBansModel" "readPersons" "I") (List.mem_of_getElem? (i := 1) rfl)) (fun x h => h) rfl dX9_readsPerson_111 ?_
                refine lv_iload_n hx hb dX9_readsPerson_114 rfl (lv_at hl 2 rfl) ?_
                refine lv_bipush (v := 104) hx hb dX9_readsPerson_115 (by decide) ?_
                obtain ⟨P131, hv, hvr⟩ := hv
                have jn132 : ∀ (b133 : Int32) (H : Heap) (locs : List Loc) (ls : Array Slot), P131 b133 → va_P D vwCl (wR cy ad σ108) H → va_S A s.heap H locs → lv_has ls 6 [(5, .int (-9)), (4, .int r109), (3, .int r10), (0, .ref (ad 0)), (1, .int fr_), (2, .int n_)] → W p l e R s m ([.ref (ad 0), .int fr_, .int n_] : List Value).toArray below meth c H locs 0 0 Z (F0 m 135 ls [.int b133, .int (rdI σ108 5), .ref (ad (4))]) := by
                  intro b133 H locs ls hv hP hS hl
                  have hv := hvr b133 hv
                  obtain ⟨hi, hv⟩ := hv
                  refine va_iast hx hb hK hP hD hS 4 0 (wR_4 cy ad σ108) rfl hi dX9_readsPerson_135 (fun H locs hP hD hS => ?_)
                  obtain ⟨σ136, e137⟩ : ∃ y : S_, y = wr2 σ108 4 (Int32.toNatClampNeg (rdI σ108 5)) b133 := ⟨_, rfl⟩
                  have hP : va_P D vwCl (wR cy ad σ136) H := by rw [e137]; exact hP
                  have hD : va_D A (wR cy ad σ136) := by rw [e137]; exact hD
                  have hv := hv σ136 e137
                  refine lv_aload_n hx hb dX9_readsPerson_136 rfl (lv_at hl 3 rfl) ?_
                  refine va_get (ci := 9) (v := .ref (ad (5))) (C := RX9) (T := TX9) (N := 38) hx hb hts hinX9 hown hK hP 0 (wR_0 cy ad σ136) rfl 10 (by decide) (hts (.fieldLink RX9 22 "TaleBansModel" "readMinds" "[I") (List.mem_of_getElem? (i := 4) rfl)) (fun x h => h) rfl dX9_readsPerson_137 ?_
                  refine lv_aload_n hx hb dX9_readsPerson_140 rfl (lv_at hl 3 rfl) ?_
                  refine va_get (ci := 9) (v := .int (rdI σ136 5)) (C := RX9) (T := TX9) (N := 38) hx hb hts hinX9 hown hK hP 0 (wR_0 cy ad σ136) rfl 8 (by decide) (hts (.fieldLink RX9 125 "TaleBansModel" "readPersons" "I") (List.mem_of_getElem? (i := 1) rfl)) (fun x h => h) rfl dX9_readsPerson_141 ?_
                  refine lv_iload hx hb dX9_readsPerson_144 (lv_at hl 1 rfl) ?_
                  obtain ⟨hi, hv⟩ := hv
                  refine va_iast hx hb hK hP hD hS 5 0 (wR_5 cy ad σ136) rfl hi dX9_readsPerson_146 (fun H locs hP hD hS => ?_)
                  obtain ⟨σ138, e139⟩ : ∃ y : S_, y = wr2 σ136 5 (Int32.toNatClampNeg (rdI σ136 5)) r109 := ⟨_, rfl⟩
                  have hP : va_P D vwCl (wR cy ad σ138) H := by rw [e139]; exact hP
                  have hD : va_D A (wR cy ad σ138) := by rw [e139]; exact hD
                  have hv := hv σ138 e139
                  refine lv_aload_n hx hb dX9_readsPerson_147 rfl (lv_at hl 3 rfl) ?_
                  refine va_get (ci := 9) (v := .ref (ad (6))) (C := RX9) (T := TX9) (N := 38) hx hb hts hinX9 hown hK hP 0 (wR_0 cy ad σ138) rfl 11 (by decide) (hts (.fieldLink RX9 25 "TaleBansModel" "readHearth" "[I") (List.mem_of_getElem? (i := 5) rfl)) (fun x h => h) rfl dX9_readsPerson_148 ?_
                  refine lv_aload_n hx hb dX9_readsPerson_151 rfl (lv_at hl 3 rfl) ?_
                  refine va_get (ci := 9) (v := .int (rdI σ138 5)) (C := RX9) (T := TX9) (N := 38) hx hb hts hinX9 hown hK hP 0 (wR_0 cy ad σ138) rfl 8 (by decide) (hts (.fieldLink RX9 125 "TaleBansModel" "readPersons" "I") (List.mem_of_getElem? (i := 1) rfl)) (fun x h => h) rfl dX9_readsPerson_152 ?_
                  refine lv_iload hx hb dX9_readsPerson_155 (lv_at hl 0 rfl) ?_
                  obtain ⟨hi, hv⟩ := hv
                  refine va_iast hx hb hK hP hD hS 6 0 (wR_6 cy ad σ138) rfl hi dX9_readsPerson_157 (fun H locs hP hD hS => ?_)
                  obtain ⟨σ140, e141⟩ : ∃ y : S_, y = wr2 σ138 6 (Int32.toNatClampNeg (rdI σ138 5)) (-9) := ⟨_, rfl⟩
                  have hP : va_P D vwCl (wR cy ad σ140) H := by rw [e141]; exact hP
                  have hD : va_D A (wR cy ad σ140) := by rw [e141]; exact hD
                  have hv := hv σ140 e141
                  refine lv_aload_n hx hb dX9_readsPerson_158 rfl (lv_at hl 3 rfl) ?_
                  refine lv_dup hx hb dX9_readsPerson_159 rfl ?_
                  refine va_get (ci := 9) (v := .int (rdI σ140 5)) (C := RX9) (T := TX9) (N := 38) hx hb hts hinX9 hown hK hP 0 (wR_0 cy ad σ140) rfl 8 (by decide) (hts (.fieldLink RX9 125 "TaleBansModel" "readPersons" "I") (List.mem_of_getElem? (i := 1) rfl)) (fun x h => h) rfl dX9_readsPerson_160 ?_
                  refine lv_iconst (v := 1) hx hb dX9_readsPerson_163 (by decide) ?_
                  refine lv_iadd hx hb dX9_readsPerson_164 ?_
                  refine va_put (ci := 9) (v := .int ((rdI σ140 5) + 1)) (ty := .int) (C := RX9) (T := TX9) (N := 38) hx hb hts hinX9 tyX9 tyX9_ok nmX9 hown hK hP hD hS 0 (wR_0 cy ad σ140) rfl 8 (by decide) (hts (.fieldLink RX9 125 "TaleBansModel" "readPersons" "I") (List.mem_of_getElem? (i := 1) rfl)) (fun x h => h) rfl (by decide +kernel) rfl rfl (Nat.le_of_ble_eq_true rfl) dX9_readsPerson_165 (fun H locs hP hD hS => ?_)
                  obtain ⟨σ142, e143⟩ : ∃ y : S_, y = wrI σ140 5 ((rdI σ140 5) + 1) := ⟨_, rfl⟩
                  have hP : va_P D vwCl (wR cy ad σ142) H := by rw [e143]; exact hP
                  have hD : va_D A (wR cy ad σ142) := by rw [e143]; exact hD
                  have hv := hv σ142 e143
                  refine lv_iconst (v := 1) hx hb dX9_readsPerson_168 (by decide) ?_
                  rw [hZ]; rw [hQ] at hv
                  exact W.zret (v := 1) hx hb hr rfl (fun t ht hW => ⟨⟨1, σ142, rfl, hv, ⟨P_of ht hP, hD⟩⟩, hS.F ht⟩) hS.2.2 dX9_readsPerson_169
                refine lv_icmp_ne (tgt := 124) hx hb dX9_readsPerson_117 (by decide) (fun c135 => ?_) (fun c135 => ?_)
                · have hv := hv.1 c135
                  refine lv_iload_n hx hb dX9_readsPerson_124 rfl (lv_at hl 2 rfl) ?_
                  refine lv_bipush (v := 98) hx hb dX9_readsPerson_125 (by decide) ?_
                  refine lv_icmp_ne (tgt := 134) hx hb dX9_readsPerson_127 (by decide) (fun c134 => ?_) (fun c134 => ?_)
                  · have hv := hv.1 c134
                    refine lv_iconst (v := 2) hx hb dX9_readsPerson_134 (by decide) ?_
                    exact jn132 2 _ _ _ hv hP hS hl
                  · have hv := hv.2 c134
                    refine lv_iconst (v := 1) hx hb dX9_readsPerson_130 (by decide) ?_
                    refine lv_goto (tgt := 135) hx hb dX9_readsPerson_131 (by decide) ?_
                    exact jn132 1 _ _ _ hv hP hS hl
                · have hv := hv.2 c135
                  refine lv_iconst (v := 0) hx hb dX9_readsPerson_120 (by decide) ?_
                  refine lv_goto (tgt := 135) hx hb dX9_readsPerson_121 (by decide) ?_
                  exact jn132 0 _ _ _ hv hP hS hl
              · have hv := hv.2 c144
                refine lv_iconst (v := 0) hx hb dX9_readsPerson_104 (by decide) ?_
                rw [hZ]; rw [hQ] at hv
                exact W.zret (v := 0) hx hb hr rfl (fun t ht hW => ⟨⟨0, σ108, rfl, hv, ⟨P_of ht hP, hD⟩⟩, hS.F ht⟩) hS.2.2 dX9_readsPerson_105
          · have hv := hv.2 c146
            refine lv_iconst (v := 0) hx hb dX9_readsPerson_57 (by decide) ?_
            rw [hZ]; rw [hQ] at hv
            exact W.zret (v := 0) hx hb hr rfl (fun t ht hW => ⟨⟨0, σ5, rfl, hv, ⟨P_of ht hP, hD⟩⟩, hS.F ht⟩) hS.2.2 dX9_readsPerson_58
    · have hv := hv.2 c149
      refine lv_iconst (v := 0) hx hb dX9_readsPerson_20 (by decide) ?_
      rw [hZ]; rw [hQ] at hv
      exact W.zret (v := 0) hx hb hr rfl (fun t ht hW => ⟨⟨0, σ0, rfl, hv, ⟨P_of ht hP, hD⟩⟩, hS.F ht⟩) hS.2.2 dX9_readsPerson_21
