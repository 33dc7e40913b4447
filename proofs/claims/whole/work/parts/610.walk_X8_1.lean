set_option maxHeartbeats 4000000 in
set_option maxRecDepth 100000 in
theorem wk_X8_hearth (l : Launch) (h_X4_placeOf : Ct_X4_placeOf l) (h_X6_person : Ct_X6_person l) (h_X8_isOneOf : Ct_X8_isOneOf l) (h_X8_reach : Ct_X8_reach l) (h_X8_refusal : Ct_X8_refusal l) (sp : Sp_X8_hearth) : Ct_X8_hearth l := by
  intro D cy ad A p_ season_ ag σ0  hpre
  refine Met.ofW (cc := cX8_hearth) (maxL := 4) (ret := (some .int)) (by decide) rfl ?_
  intro p e s m args below meth c s₁ B hml hv0
  obtain ⟨rfl, hP, hK, hD, hN⟩ := hv0
  have hx := B.exec
  have hb := B.bytes
  have hr := B.returns
  have hts := atoms_spec (ws := wsX8_hearth) B.pre
  have hown : s.vm.findClass RX8 = some m.cls := findClass_of_methodNamed B.named
  have hlocks := B.notSynchronized
  have hv := sp p_ season_ ag σ0 hpre
  have hl := lv_entry ([.ref (ad 0), .int p_, .int season_]) (n := 4) (Nat.le_of_ble_eq_true rfl)
  rw [lg_entry_eq]
  generalize (lg_sl ([.ref (ad 0), .int p_, .int season_]) ++ List.replicate (4 - (lg_sl ([.ref (ad 0), .int p_, .int season_])).length) Slot.unset).toArray = ls at hl ⊢
  have hl : lv_has ls 4 [(0, .ref (ad 0)), (1, .int p_), (2, .int season_)] := hl
  refine W_gen (fun R Z H locs hR hZ hH hlo => ?_)
  have hRf : R.frames = 5 := by rw [hR]; rfl
  have hRl : R.locals = 114 := by rw [hR]; rfl
  have hRc : R.cells = 0 := by rw [hR]; rfl
  have hRs : R.slots = 0 := by rw [hR]; rfl
  have hS : va_S A s.heap H locs := by rw [hH, hlo]; exact va_S.rf
  rw [← hH] at hP
  obtain ⟨Q, hQ⟩ : ∃ q : Int32 → S_ → Prop, q = (post_X8_hearth p_ season_ ag σ0) := ⟨_, rfl⟩
  rw [← hQ] at hv
  have hinX6 : ∀ w ∈ wsX60, w ∈ wsX8_hearth := by decide +kernel
  have hinX8 : ∀ w ∈ wsX80, w ∈ wsX8_hearth := by decide +kernel
  refine lv_aload_n hx hb dX8_hearth_0 rfl (lv_at hl 0 rfl) ?_
  refine lv_aload_n hx hb dX8_hearth_1 rfl (lv_at hl 0 rfl) ?_
  refine va_get (ci := 8) (v := .ref (ad 11)) (C := RX8) (T := TX8) (N := 5) hx hb hts hinX8 hown hK hP 0 (wC_0 cy ad σ0) rfl 2 (by decide) (hts (.fieldLink RX8 27 "TaleBans" "land" "LTaleBans$Steppe;") (List.mem_of_getElem? (i := 1) rfl)) (fun x h => h) rfl dX8_hearth_2 ?_
  refine lv_iload_n hx hb dX8_hearth_5 rfl (lv_at hl 1 rfl) ?_
  obtain ⟨hp, hv⟩ := hv
  refine k_read_e (w := wC cy ad) (va_runVN (As := [.int p_]) (rest := [.ref (ad 0)]) ⟨hx, hb, hml, hown, hts⟩ (h_X6_person D cy ad A p_ σ0 hp) ⟨va_cnB 1 hts gX8_hearth_X6_person_n72 rfl rfl rfl (nwm_35 hN) (hts (.initialized RX6) (List.mem_of_getElem? (i := 4) rfl)) (by decide +kernel) ⟨le_R hRf (Nat.le_of_ble_eq_true rfl), le_R hRl (Nat.le_of_ble_eq_true rfl)⟩, (hts (.instanceMethod yX6_person) (List.mem_of_getElem? (i := 3) rfl)), (hts (.selects RX6 yX6_person yX6_person) (List.mem_of_getElem? (i := 5) rfl))⟩ ⟨(fun a U g mk q => ⟨q.1, q.2.blind⟩), va_recv hK hP (ci := 6) (q0 := 11) rfl (wC_11 cy ad σ0), (fun U hU hW => ⟨rfl, WdC.pre hP hK hD hN hU hW⟩)⟩ rfl rfl hl.1 rfl (lv_room (Nat.le_of_ble_eq_true rfl)) dX8_hearth_6 ⟨le_R hRc (Nat.le_refl 0), le_R hRs (Nat.le_refl 0)⟩) hS (fun r H locs hr1 hP hS => ?_)
  subst hr1
  cases o2 : (fn_X6_person p_ σ0) with
  | none =>
    have hv := hv.1 o2
    refine W_top (v' := .null) rfl ?_
    refine lv_ifnullN (tgt := 16) hx hb dX8_hearth_9 (by decide) ?_
    refine lv_iconst (v := 0) hx hb dX8_hearth_16 (by decide) ?_
    refine lv_iload_n hx hb dX8_hearth_17 rfl (lv_at hl 2 rfl) ?_
    refine lv_bipush (v := 40) hx hb dX8_hearth_18 (by decide) ?_
    refine k_pure_i (va_runS (As := [.int season_, .int 40]) (rest := [.int 0, .ref (ad 0)]) ⟨hx, hb, hml, hown, hts⟩ (h_X8_isOneOf season_ 40) (va_cwS 2 hts gX8_hearth_X8_isOneOf rfl rfl rfl (by decide +kernel) ⟨le_R hRf (Nat.le_of_ble_eq_true rfl), le_R hRl (Nat.le_of_ble_eq_true rfl)⟩) ⟨(fun a U g mk q => ⟨q.1, trivial⟩), (fun U hU hW => ⟨rfl, trivial⟩)⟩ rfl rfl hl.1 rfl (lv_room (Nat.le_of_ble_eq_true rfl)) dX8_hearth_20 ⟨le_R hRc (Nat.le_refl 0), le_R hRs (Nat.le_refl 0)⟩) hS hP (fun r H locs hr1 hP hS => ?_)
    subst hr1
    have hp := True.intro
    refine k_read_i (w := wC cy ad) (va_runV (As := [.int 0, .int (fn_X8_isOneOf season_ 40)]) (rest := []) ⟨hx, hb, hml, hown, hts⟩ (h_X8_refusal D cy ad A 0 (fn_X8_isOneOf season_ 40) σ0 hp) (cwV 2 hts gX8_hearth_X8_refusal rfl rfl rfl (by decide +kernel) ⟨le_R hRf (Nat.le_of_ble_eq_true rfl), le_R hRl (Nat.le_of_ble_eq_true rfl)⟩) ⟨(fun a U g mk q => ⟨q.1, q.2.blind⟩), va_recv hK hP (ci := 8) (q0 := 0) rfl (wC_0 cy ad σ0), (fun U hU hW => ⟨rfl, WdC.pre hP hK hD hN hU hW⟩)⟩ rfl rfl hl.1 rfl (lv_room (Nat.le_of_ble_eq_true rfl)) dX8_hearth_23 ⟨le_R hRc (Nat.le_refl 0), le_R hRs (Nat.le_refl 0)⟩) hS (fun r H locs hr1 hP hS => ?_)
    subst hr1
    refine lv_istore_n (lv' := [(3, .int (fn_X8_refusal 0 (fn_X8_isOneOf season_ 40) σ0)), (0, .ref (ad 0)), (1, .int p_), (2, .int season_)]) hx hb dX8_hearth_26 rfl hl (by decide) rfl (fun ls hl => ?_)
    refine lv_iload_n hx hb dX8_hearth_27 rfl (lv_at hl 0 rfl) ?_
    refine lv_if_eq (tgt := 33) hx hb dX8_hearth_28 (by decide) (fun c11 => ?_) (fun c11 => ?_)
    · have hv := hv.1 c11
      refine lv_aload_n hx hb dX8_hearth_33 rfl (lv_at hl 1 rfl) ?_
      refine lv_iload_n hx hb dX8_hearth_34 rfl (lv_at hl 3 rfl) ?_
      refine lv_aload_n hx hb dX8_hearth_35 rfl (lv_at hl 1 rfl) ?_
      refine va_get (ci := 8) (v := .ref (ad 11)) (C := RX8) (T := TX8) (N := 5) hx hb hts hinX8 hown hK hP 0 (wC_0 cy ad σ0) rfl 2 (by decide) (hts (.fieldLink RX8 27 "TaleBans" "land" "LTaleBans$Steppe;") (List.mem_of_getElem? (i := 1) rfl)) (fun x h => h) rfl dX8_hearth_36 ?_
      refine va_getN (ci := 6) (v := .int (rdI σ0 3)) (C := RX6) (T := TX6) (N := 8) hx hb hts hinX6 hown hK hP 11 (wC_11 cy ad σ0) rfl 6 (by decide) (nw_12 hN) (fun x h => h) rfl dX8_hearth_39 ?_
      obtain ⟨g3, g4, hv⟩ := hv
      obtain ⟨hp, hv⟩ := hv
      refine k_rel_v (w := wC cy ad) (va_runV (As := [.int season_, .int (rdI σ0 3)]) (rest := []) ⟨hx, hb, hml, hown, hts⟩ (h_X8_reach D cy ad A season_ (rdI σ0 3) g3 g4 σ0 hp) (cwV 2 hts gX8_hearth_X8_reach rfl rfl rfl (by decide +kernel) ⟨le_R hRf (Nat.le_of_ble_eq_true rfl), le_R hRl (Nat.le_of_ble_eq_true rfl)⟩) ⟨(fun a U g mk q => ⟨q.1, q.2.blind⟩), va_recv hK hP (ci := 8) (q0 := 0) rfl (wC_0 cy ad σ0), (fun U hU hW => ⟨rfl, WdC.pre hP hK hD hN hU hW⟩)⟩ rfl rfl hl.1 rfl (lv_room (Nat.le_of_ble_eq_true rfl)) dX8_hearth_42 ⟨le_R hRc (Nat.le_refl 0), le_R hRs (Nat.le_refl 0)⟩) hS (fun σ5 H locs hr1 hP hD hS => ?_)
      have hv := hv σ5 hr1
      refine lv_aload_n hx hb dX8_hearth_45 rfl (lv_at hl 1 rfl) ?_
      refine va_get (ci := 8) (v := .ref (ad 21)) (C := RX8) (T := TX8) (N := 5) hx hb hts hinX8 hown hK hP 0 (wC_0 cy ad σ5) rfl 3 (by decide) (hts (.fieldLink RX8 36 "TaleBans" "seasons" "LTaleBans$Seasons;") (List.mem_of_getElem? (i := 2) rfl)) (fun x h => h) rfl dX8_hearth_46 ?_
      refine lv_iload_n hx hb dX8_hearth_49 rfl (lv_at hl 2 rfl) ?_
      obtain ⟨g6, g7, g8, g9, hv⟩ := hv
      obtain ⟨hp, hv⟩ := hv
      refine k_read_i (w := wC cy ad) (va_runVN (As := [.int p_]) (rest := []) ⟨hx, hb, hml, hown, hts⟩ (h_X4_placeOf D cy ad A p_ g6 g7 g8 g9 σ5 hp) ⟨va_cnB 1 hts gX8_hearth_X4_placeOf_n149 rfl rfl rfl (nwm_52 hN) (hts (.initialized RX4) (List.mem_of_getElem? (i := 25) rfl)) (by decide +kernel) ⟨le_R hRf (Nat.le_of_ble_eq_true rfl), le_R hRl (Nat.le_of_ble_eq_true rfl)⟩, (hts (.instanceMethod yX4_placeOf) (List.mem_of_getElem? (i := 111) rfl)), (hts (.selects RX4 yX4_placeOf yX4_placeOf) (List.mem_of_getElem? (i := 112) rfl))⟩ ⟨(fun a U g mk q => ⟨q.1, q.2.blind⟩), va_recv hK hP (ci := 4) (q0 := 21) rfl (wC_21 cy ad σ5), (fun U hU hW => ⟨rfl, WdC.pre hP hK hD hN hU hW⟩)⟩ rfl rfl hl.1 rfl (lv_room (Nat.le_of_ble_eq_true rfl)) dX8_hearth_50 ⟨le_R hRc (Nat.le_refl 0), le_R hRs (Nat.le_refl 0)⟩) hS (fun r10 H locs hr1 hP hS => ?_)
      have hv := hv r10 hr1
      rw [hZ]; rw [hQ] at hv
      exact W.iret (v := r10) hx hb hr (fun t ht hW => ⟨⟨r10, σ5, rfl, hv, ⟨P_of ht hP, hD⟩⟩, hS.F ht⟩) hS.2.2 dX8_hearth_53
    · have hv := hv.2 c11
      refine lv_iload_n hx hb dX8_hearth_31 rfl (lv_at hl 0 rfl) ?_
      rw [hZ]; rw [hQ] at hv
      exact W.iret (v := (fn_X8_refusal 0 (fn_X8_isOneOf season_ 40) σ0)) hx hb hr (fun t ht hW => ⟨⟨(fn_X8_refusal 0 (fn_X8_isOneOf season_ 40) σ0), σ0, rfl, hv, ⟨P_of ht hP, hD⟩⟩, hS.F ht⟩) hS.2.2 dX8_hearth_32
  | some j1 =>
    obtain ⟨hj_j1, hv⟩ := hv.2 j1 o2
    refine W_top (v' := .ref ((hget σ0 j1).1)) rfl ?_
    refine lv_ifnull hx hb dX8_hearth_9 ?_
    refine lv_iconst (v := 1) hx hb dX8_hearth_12 (by decide) ?_
    refine lv_goto (tgt := 17) hx hb dX8_hearth_13 (by decide) ?_
    refine lv_iload_n hx hb dX8_hearth_17 rfl (lv_at hl 2 rfl) ?_
    refine lv_bipush (v := 40) hx hb dX8_hearth_18 (by decide) ?_
    refine k_pure_i (va_runS (As := [.int season_, .int 40]) (rest := [.int 1, .ref (ad 0)]) ⟨hx, hb, hml, hown, hts⟩ (h_X8_isOneOf season_ 40) (va_cwS 2 hts gX8_hearth_X8_isOneOf rfl rfl rfl (by decide +kernel) ⟨le_R hRf (Nat.le_of_ble_eq_true rfl), le_R hRl (Nat.le_of_ble_eq_true rfl)⟩) ⟨(fun a U g mk q => ⟨q.1, trivial⟩), (fun U hU hW => ⟨rfl, trivial⟩)⟩ rfl rfl hl.1 rfl (lv_room (Nat.le_of_ble_eq_true rfl)) dX8_hearth_20 ⟨le_R hRc (Nat.le_refl 0), le_R hRs (Nat.le_refl 0)⟩) hS hP (fun r H locs hr1 hP hS => ?_)
    subst hr1
    have hp := True.intro
    refine k_read_i (w := wC cy ad) (va_runV (As := [.int 1, .int (fn_X8_isOneOf season_ 40)]) (rest := []) ⟨hx, hb, hml, hown, hts⟩ (h_X8_refusal D cy ad A 1 (fn_X8_isOneOf season_ 40) σ0 hp) (cwV 2 hts gX8_hearth_X8_refusal rfl rfl rfl (by decide +kernel) ⟨le_R hRf (Nat.le_of_ble_eq_true rfl), le_R hRl (Nat.le_of_ble_eq_true rfl)⟩) ⟨(fun a U g mk q => ⟨q.1, q.2.blind⟩), va_recv hK hP (ci := 8) (q0 := 0) rfl (wC_0 cy ad σ0), (fun U hU hW => ⟨rfl, WdC.pre hP hK hD hN hU hW⟩)⟩ rfl rfl hl.1 rfl (lv_room (Nat.le_of_ble_eq_true rfl)) dX8_hearth_23 ⟨le_R hRc (Nat.le_refl 0), le_R hRs (Nat.le_refl 0)⟩) hS (fun r H locs hr1 hP hS => ?_)
    subst hr1
    refine lv_istore_n (lv' := [(3, .int (fn_X8_refusal 1 (fn_X8_isOneOf season_ 40) σ0)), (0, .ref (ad 0)), (1, .int p_), (2, .int season_)]) hx hb dX8_hearth_26 rfl hl (by decide) rfl (fun ls hl => ?_)
    refine lv_iload_n hx hb dX8_hearth_27 rfl (lv_at hl 0 rfl) ?_
    refine lv_if_eq (tgt := 33) hx hb dX8_hearth_28 (by decide) (fun c20 => ?_) (fun c20 => ?_)
    · have hv := hv.1 c20
      refine lv_aload_n hx hb dX8_hearth_33 rfl (lv_at hl 1 rfl) ?_
      refine lv_iload_n hx hb dX8_hearth_34 rfl (lv_at hl 3 rfl) ?_
      refine lv_aload_n hx hb dX8_hearth_35 rfl (lv_at hl 1 rfl) ?_
      refine va_get (ci := 8) (v := .ref (ad 11)) (C := RX8) (T := TX8) (N := 5) hx hb hts hinX8 hown hK hP 0 (wC_0 cy ad σ0) rfl 2 (by decide) (hts (.fieldLink RX8 27 "TaleBans" "land" "LTaleBans$Steppe;") (List.mem_of_getElem? (i := 1) rfl)) (fun x h => h) rfl dX8_hearth_36 ?_
      refine va_getN (ci := 6) (v := .int (rdI σ0 3)) (C := RX6) (T := TX6) (N := 8) hx hb hts hinX6 hown hK hP 11 (wC_11 cy ad σ0) rfl 6 (by decide) (nw_12 hN) (fun x h => h) rfl dX8_hearth_39 ?_
      obtain ⟨g12, g13, hv⟩ := hv
      obtain ⟨hp, hv⟩ := hv
      refine k_rel_v (w := wC cy ad) (va_runV (As := [.int season_, .int (rdI σ0 3)]) (rest := []) ⟨hx, hb, hml, hown, hts⟩ (h_X8_reach D cy ad A season_ (rdI σ0 3) g12 g13 σ0 hp) (cwV 2 hts gX8_hearth_X8_reach rfl rfl rfl (by decide +kernel) ⟨le_R hRf (Nat.le_of_ble_eq_true rfl), le_R hRl (Nat.le_of_ble_eq_true rfl)⟩) ⟨(fun a U g mk q => ⟨q.1, q.2.blind⟩), va_recv hK hP (ci := 8) (q0 := 0) rfl (wC_0 cy ad σ0), (fun U hU hW => ⟨rfl, WdC.pre hP hK hD hN hU hW⟩)⟩ rfl rfl hl.1 rfl (lv_room (Nat.le_of_ble_eq_true rfl)) dX8_hearth_42 ⟨le_R hRc (Nat.le_refl 0), le_R hRs (Nat.le_refl 0)⟩) hS (fun σ14 H locs hr1 hP hD hS => ?_)
      have hv := hv σ14 hr1
      refine lv_aload_n hx hb dX8_hearth_45 rfl (lv_at hl 1 rfl) ?_
      refine va_get (ci := 8) (v := .ref (ad 21)) (C := RX8) (T := TX8) (N := 5) hx hb hts hinX8 hown hK hP 0 (wC_0 cy ad σ14) rfl 3 (by decide) (hts (.fieldLink RX8 36 "TaleBans" "seasons" "LTaleBans$Seasons;") (List.mem_of_getElem? (i := 2) rfl)) (fun x h => h) rfl dX8_hearth_46 ?_
      refine lv_iload_n hx hb dX8_hearth_49 rfl (lv_at hl 2 rfl) ?_
      obtain ⟨g15, g16, g17, g18, hv⟩ := hv
      obtain ⟨hp, hv⟩ := hv
      refine k_read_i (w := wC cy ad) (va_runVN (As := [.int p_]) (rest := []) ⟨hx, hb, hml, hown, hts⟩ (h_X4_placeOf D cy ad A p_ g15 g16 g17 g18 σ14 hp) ⟨va_cnB 1 hts gX8_hearth_X4_placeOf_n149 rfl rfl rfl (nwm_52 hN) (hts (.initialized RX4) (List.mem_of_getElem? (i := 25) rfl)) (by decide +kernel) ⟨le_R hRf (Nat.le_of_ble_eq_true rfl), le_R hRl (Nat.le_of_ble_eq_true rfl)⟩, (hts (.instanceMethod yX4_placeOf) (List.mem_of_getElem? (i := 111) rfl)), (hts (.selects RX4 yX4_placeOf yX4_placeOf) (List.mem_of_getElem? (i := 112) rfl))⟩ ⟨(fun a U g mk q => ⟨q.1, q.2.blind⟩), va_recv hK hP (ci := 4) (q0 := 21) rfl (wC_21 cy ad σ14), (fun U hU hW => ⟨rfl, WdC.pre hP hK hD hN hU hW⟩)⟩ rfl rfl hl.1 rfl (lv_room (Nat.le_of_ble_eq_true rfl)) dX8_hearth_50 ⟨le_R hRc (Nat.le_refl 0), le_R hRs (Nat.le_refl 0)⟩) hS (fun r19 H locs hr1 hP hS => ?_)
      have hv := hv r19 hr1
      rw [hZ]; rw [hQ] at hv
      exact W.iret (v := r19) hx hb hr (fun t ht hW => ⟨⟨r19, σ14, rfl, hv, ⟨P_of ht hP, hD⟩⟩, hS.F ht⟩) hS.2.2 dX8_hearth_53
    · have hv := hv.2 c20
      refine lv_iload_n hx hb dX8_hearth_31 rfl (lv_at hl 0 rfl) ?_
      rw [hZ]; rw [hQ] at hv
      exact W.iret (v := (fn_X8_refusal 1 (fn_X8_isOneOf season_ 40) σ0)) hx hb hr (fun t ht hW => ⟨⟨(fn_X8_refusal 1 (fn_X8_isOneOf season_ 40) σ0), σ0, rfl, hv, ⟨P_of ht hP, hD⟩⟩, hS.F ht⟩) hS.2.2 dX8_hearth_32
set_option maxHeartbeats 4000000 in
set_option maxRecDepth 100000 in
theorem wk_X8_told (l : Launch) (h_X4_taleAt : Ct_X4_taleAt l) (h_X8_isOneOf : Ct_X8_isOneOf l) (h_X8_reach : Ct_X8_reach l) (h_X8_refusal : Ct_X8_refusal l) (sp : Sp_X8_told) : Ct_X8_told l := by
  intro D cy ad A h_ season_ ag σ0  hpre
  refine Met.ofW (cc := cX8_told) (maxL := 4) (ret := (some .int)) (by decide) rfl ?_
  intro p e s m args below meth c s₁ B hml hv0
  obtain ⟨rfl, hP, hK, hD, hN⟩ := hv0
  have hx := B.exec
  have hb := B.bytes
  have hr := B.returns
  have hts := atoms_spec (ws := wsX8_told) B.pre
  have hown : s.vm.findClass RX8 = some m.cls := findClass_of_methodNamed B.named
  have hlocks := B.notSynchronized
  have hv := sp h_ season_ ag σ0 hpre
  have hl := lv_entry ([.ref (ad 0), .int h_, .int season_]) (n := 4) (Nat.le_of_ble_eq_true rfl)
  rw [lg_entry_eq]
  generalize (lg_sl ([.ref (ad 0), .int h_, .int season_]) ++ List.replicate (4 - (lg_sl ([.ref (ad 0), .int h_, .int season_])).length) Slot.unset).toArray = ls at hl ⊢
  have hl : lv_has ls 4 [(0, .ref (ad 0)), (1, .int h_), (2, .int season_)] := hl
  refine W_gen (fun R Z H locs hR hZ hH hlo => ?_)
  have hRf : R.frames = 5 := by rw [hR]; rfl
  have hRl : R.locals = 114 := by rw [hR]; rfl
  have hRc : R.cells = 0 := by rw [hR]; rfl
  have hRs : R.slots = 0 := by rw [hR]; rfl
  have hS : va_S A s.heap H locs := by rw [hH, hlo]; exact va_S.rf
  rw [← hH] at hP
  obtain ⟨Q, hQ⟩ : ∃ q : Int32 → S_ → Prop, q = (post_X8_told h_ season_ ag σ0) := ⟨_, rfl⟩
  rw [← hQ] at hv
  have hinX6 : ∀ w ∈ wsX60, w ∈ wsX8_told := by decide +kernel
  have hinX8 : ∀ w ∈ wsX80, w ∈ wsX8_told := by decide +kernel
  refine lv_aload_n hx hb dX8_told_0 rfl (lv_at hl 0 rfl) ?_
  refine lv_iload_n hx hb dX8_told_1 rfl (lv_at hl 1 rfl) ?_
  refine lv_iconst (v := 3) hx hb dX8_told_2 (by decide) ?_
  refine k_pure_i (va_runS (As := [.int h_, .int 3]) (rest := [.ref (ad 0)]) ⟨hx, hb, hml, hown, hts⟩ (h_X8_isOneOf h_ 3) (va_cwS 2 hts gX8_told_X8_isOneOf rfl rfl rfl (by decide +kernel) ⟨le_R hRf (Nat.le_of_ble_eq_true rfl), le_R hRl (Nat.le_of_ble_eq_true rfl)⟩) ⟨(fun a U g mk q => ⟨q.1, trivial⟩), (fun U hU hW => ⟨rfl, trivial⟩)⟩ rfl rfl hl.1 rfl (lv_room (Nat.le_of_ble_eq_true rfl)) dX8_told_3 ⟨le_R hRc (Nat.le_refl 0), le_R hRs (Nat.le_refl 0)⟩) hS hP (fun r H locs hr1 hP hS => ?_)
  subst hr1
  refine lv_iload_n hx hb dX8_told_6 rfl (lv_at hl 2 rfl) ?_
  refine lv_bipush (v := 40) hx hb dX8_told_7 (by decide) ?_
  refine k_pure_i (va_runS (As := [.int season_, .int 40]) (rest := [.int (fn_X8_isOneOf h_ 3), .ref (ad 0)]) ⟨hx, hb, hml, hown, hts⟩ (h_X8_isOneOf season_ 40) (va_cwS 2 hts gX8_told_X8_isOneOf rfl rfl rfl (by decide +kernel) ⟨le_R hRf (Nat.le_of_ble_eq_true rfl), le_R hRl (Nat.le_of_ble_eq_true rfl)⟩) ⟨(fun a U g mk q => ⟨q.1, trivial⟩), (fun U hU hW => ⟨rfl, trivial⟩)⟩ rfl rfl hl.1 rfl (lv_room (Nat.le_of_ble_eq_true rfl)) dX8_told_9 ⟨le_R hRc (Nat.le_refl 0), le_R hRs (Nat.le_refl 0)⟩) hS hP (fun r H locs hr1 hP hS => ?_)
  subst hr1
  have hp := True.intro
  refine k_read_i (w := wC cy ad) (va_runV (As := [.int (fn_X8_isOneOf h_ 3), .int (fn_X8_isOneOf season_ 40)]) (rest := []) ⟨hx, hb, hml, hown, hts⟩ (h_X8_refusal D cy ad A (fn_X8_isOneOf h_ 3) (fn_X8_isOneOf season_ 40) σ0 hp) (cwV 2 hts gX8_told_X8_refusal rfl rfl rfl (by decide +kernel) ⟨le_R hRf (Nat.le_of_ble_eq_true rfl), le_R hRl (Nat.le_of_ble_eq_true rfl)⟩) ⟨(fun a U g mk q => ⟨q.1, q.2.blind⟩), va_recv hK hP (ci := 8) (q0 := 0) rfl (wC_0 cy ad σ0), (fun U hU hW => ⟨rfl, WdC.pre hP hK hD hN hU hW⟩)⟩ rfl rfl hl.1 rfl (lv_room (Nat.le_of_ble_eq_true rfl)) dX8_told_12 ⟨le_R hRc (Nat.le_refl 0), le_R hRs (Nat.le_refl 0)⟩) hS (fun r H locs hr1 hP hS => ?_)
  subst hr1
  refine lv_istore_n (lv' := [(3, .int (fn_X8_refusal (fn_X8_isOneOf h_ 3) (fn_X8_isOneOf season_ 40) σ0)), (0, .ref (ad 0)), (1, .int h_), (2, .int season_)]) hx hb dX8_told_15 rfl hl (by decide) rfl (fun ls hl => ?_)
  refine lv_iload_n hx hb dX8_told_16 rfl (lv_at hl 0 rfl) ?_
  refine lv_if_eq (tgt := 22) hx hb dX8_told_17 (by decide) (fun c9 => ?_) (fun c9 => ?_)
  · have hv := hv.1 c9
    refine lv_aload_n hx hb dX8_told_22 rfl (lv_at hl 1 rfl) ?_
    refine lv_iload_n hx hb dX8_told_23 rfl (lv_at hl 3 rfl) ?_
    refine lv_aload_n hx hb dX8_told_24 rfl (lv_at hl 1 rfl) ?_
    refine va_get (ci := 8) (v := .ref (ad 11)) (C := RX8) (T := TX8) (N := 5) hx hb hts hinX8 hown hK hP 0 (wC_0 cy ad σ0) rfl 2 (by decide) (hts (.fieldLink RX8 27 "TaleBans" "land" "LTaleBans$Steppe;") (List.mem_of_getElem? (i := 1) rfl)) (fun x h => h) rfl dX8_told_25 ?_
    refine va_getN (ci := 6) (v := .int (rdI σ0 3)) (C := RX6) (T := TX6) (N := 8) hx hb hts hinX6 hown hK hP 11 (wC_11 cy ad σ0) rfl 6 (by decide) (nw_12 hN) (fun x h => h) rfl dX8_told_28 ?_
    obtain ⟨g1, g2, hv⟩ := hv
    obtain ⟨hp, hv⟩ := hv
    refine k_rel_v (w := wC cy ad) (va_runV (As := [.int season_, .int (rdI σ0 3)]) (rest := []) ⟨hx, hb, hml, hown, hts⟩ (h_X8_reach D cy ad A season_ (rdI σ0 3) g1 g2 σ0 hp) (cwV 2 hts gX8_told_X8_reach rfl rfl rfl (by decide +kernel) ⟨le_R hRf (Nat.le_of_ble_eq_true rfl), le_R hRl (Nat.le_of_ble_eq_true rfl)⟩) ⟨(fun a U g mk q => ⟨q.1, q.2.blind⟩), va_recv hK hP (ci := 8) (q0 := 0) rfl (wC_0 cy ad σ0), (fun U hU hW => ⟨rfl, WdC.pre hP hK hD hN hU hW⟩)⟩ rfl rfl hl.1 rfl (lv_room (Nat.le_of_ble_eq_true rfl)) dX8_told_31 ⟨le_R hRc (Nat.le_refl 0), le_R hRs (Nat.le_refl 0)⟩) hS (fun σ3 H locs hr1 hP hD hS => ?_)
    have hv := hv σ3 hr1
    refine lv_aload_n hx hb dX8_told_34 rfl (lv_at hl 1 rfl) ?_
    refine va_get (ci := 8) (v := .ref (ad 21)) (C := RX8) (T := TX8) (N := 5) hx hb hts hinX8 hown hK hP 0 (wC_0 cy ad σ3) rfl 3 (by decide) (hts (.fieldLink RX8 36 "TaleBans" "seasons" "LTaleBans$Seasons;") (List.mem_of_getElem? (i := 2) rfl)) (fun x h => h) rfl dX8_told_35 ?_
    refine lv_iload_n hx hb dX8_told_38 rfl (lv_at hl 2 rfl) ?_
    obtain ⟨g4, g5, g6, g7, hv⟩ := hv
    obtain ⟨hp, hv⟩ := hv
    refine k_read_i (w := wC cy ad) (va_runVN (As := [.int h_]) (rest := []) ⟨hx, hb, hml, hown, hts⟩ (h_X4_taleAt D cy ad A h_ g4 g5 g6 g7 σ3 hp) ⟨va_cnB 1 hts gX8_told_X4_taleAt_n152 rfl rfl rfl (nwm_53 hN) (hts (.initialized RX4) (List.mem_of_getElem? (i := 21) rfl)) (by decide +kernel) ⟨le_R hRf (Nat.le_of_ble_eq_true rfl), le_R hRl (Nat.le_of_ble_eq_true rfl)⟩, (hts (.instanceMethod yX4_taleAt) (List.mem_of_getElem? (i := 111) rfl)), (hts (.selects RX4 yX4_taleAt yX4_taleAt) (List.mem_of_getElem? (i := 112) rfl))⟩ ⟨(fun a U g mk q => ⟨q.1, q.2.blind⟩), va_recv hK hP (ci := 4) (q0 := 21) rfl (wC_21 cy ad σ3), (fun U hU hW => ⟨rfl, WdC.pre hP hK hD hN hU hW⟩)⟩ rfl rfl hl.1 rfl (lv_room (Nat.le_of_ble_eq_true rfl)) dX8_told_39 ⟨le_R hRc (Nat.le_refl 0), le_R hRs (Nat.le_refl 0)⟩) hS (fun r8 H locs hr1 hP hS => ?_)
    have hv := hv r8 hr1
    rw [hZ]; rw [hQ] at hv
    exact W.iret (v := r8) hx hb hr (fun t ht hW => ⟨⟨r8, σ3, rfl, hv, ⟨P_of ht hP, hD⟩⟩, hS.F ht⟩) hS.2.2 dX8_told_42
  · have hv := hv.2 c9
    refine lv_iload_n hx hb dX8_told_20 rfl (lv_at hl 0 rfl) ?_
    rw [hZ]; rw [hQ] at hv
    exact W.iret (v := (fn_X8_refusal (fn_X8_isOneOf h_ 3) (fn_X8_isOneOf season_ 40) σ0)) hx hb hr (fun t ht hW => ⟨⟨(fn_X8_refusal (fn_X8_isOneOf h_ 3) (fn_X8_isOneOf season_ 40) σ0), σ0, rfl, hv, ⟨P_of ht hP, hD⟩⟩, hS.F ht⟩) hS.2.2 dX8_told_21
set_option maxHeartbeats 4000000 in
set_option maxRecDepth 100000 in
theorem wk_X8_forbidden (l : Launch) (h_X4_bannedDeeds : Ct_X4_bannedDeeds l) (h_X6_isEmpty : Ct_X6_isEmpty l) (h_X8_isOneOf : Ct_X8_isOneOf l) (h_X8_reach : Ct_X8_reach l) (sp : Sp_X8_forbidden) : Ct_X8_forbidden l := by
  intro D cy ad A season_ ag σ0  hpre
  refine Met.ofW (cc := cX8_forbidden) (maxL := 2) (ret := (some .int)) (by decide) rfl ?_
  intro p e s m args below meth c s₁ B hml hv0
  obtain ⟨rfl, hP, hK, hD, hN⟩ := hv0
  have hx := B.exec
  have hb := B.bytes
  have hr := B.returns
  have hts := atoms_spec (ws := wsX8_forbidden) B.pre
  have hown : s.vm.findClass RX8 = some m.cls := findClass_of_methodNamed B.named
  have hlocks := B.notSynchronized
  have hv := sp season_ ag σ0 hpre
  have hl := lv_entry ([.ref (ad 0), .int season_]) (n := 2) (Nat.le_of_ble_eq_true rfl)
  rw [lg_entry_eq]
  generalize (lg_sl ([.ref (ad 0), .int season_]) ++ List.replicate (2 - (lg_sl ([.ref (ad 0), .int season_])).length) Slot.unset).toArray = ls at hl ⊢
  have hl : lv_has ls 2 [(0, .ref (ad 0)), (1, .int season_)] := hl
  refine W_gen (fun R Z H locs hR hZ hH hlo => ?_)
  have hRf : R.frames = 5 := by rw [hR]; rfl
  have hRl : R.locals = 114 := by rw [hR]; rfl
  have hRc : R.cells = 0 := by rw [hR]; rfl
  have hRs : R.slots = 0 := by rw [hR]; rfl
  have hS : va_S A s.heap H locs := by rw [hH, hlo]; exact va_S.rf
  rw [← hH] at hP
  obtain ⟨Q, hQ⟩ : ∃ q : Int32 → S_ → Prop, q = (post_X8_forbidden season_ ag σ0) := ⟨_, rfl⟩
  rw [← hQ] at hv
  have hinX6 : ∀ w ∈ wsX60, w ∈ wsX8_forbidden := by decide +kernel
  have hinX8 : ∀ w ∈ wsX80, w ∈ wsX8_forbidden := by decide +kernel
  refine lv_iload_n hx hb dX8_forbidden_0 rfl (lv_at hl 1 rfl) ?_
  refine lv_bipush (v := 40) hx hb dX8_forbidden_1 (by decide) ?_
  refine k_pure_i (va_runS (As := [.int season_, .int 40]) (rest := []) ⟨hx, hb, hml, hown, hts⟩ (h_X8_isOneOf season_ 40) (va_cwS 2 hts gX8_forbidden_X8_isOneOf rfl rfl rfl (by decide +kernel) ⟨le_R hRf (Nat.le_of_ble_eq_true rfl), le_R hRl (Nat.le_of_ble_eq_true rfl)⟩) ⟨(fun a U g mk q => ⟨q.1, trivial⟩), (fun U hU hW => ⟨rfl, trivial⟩)⟩ rfl rfl hl.1 rfl (lv_room (Nat.le_of_ble_eq_true rfl)) dX8_forbidden_3 ⟨le_R hRc (Nat.le_refl 0), le_R hRs (Nat.le_refl 0)⟩) hS hP (fun r H locs hr1 hP hS => ?_)
  subst hr1
  refine lv_if_ne (tgt := 12) hx hb dX8_forbidden_6 (by decide) (fun c9 => ?_) (fun c9 => ?_)
  · have hv := hv.1 c9
    refine lv_aload_n hx hb dX8_forbidden_12 rfl (lv_at hl 0 rfl) ?_
    refine va_get (ci := 8) (v := .ref (ad 11)) (C := RX8) (T := TX8) (N := 5) hx hb hts hinX8 hown hK hP 0 (wC_0 cy ad σ0) rfl 2 (by decide) (hts (.fieldLink RX8 27 "TaleBans" "land" "LTaleBans$Steppe;") (List.mem_of_getElem? (i := 1) rfl)) (fun x h => h) rfl dX8_forbidden_13 ?_
    have hp := True.intro
    refine k_read_i (w := wC cy ad) (va_runVN (As := []) (rest := []) ⟨hx, hb, hml, hown, hts⟩ (h_X6_isEmpty D cy ad A σ0 hp) ⟨va_cnB 0 hts gX8_forbidden_X6_isEmpty_n124 rfl rfl rfl (nwm_37 hN) (hts (.initialized RX6) (List.mem_of_getElem? (i := 8) rfl)) (by decide +kernel) ⟨le_R hRf (Nat.le_of_ble_eq_true rfl), le_R hRl (Nat.le_of_ble_eq_true rfl)⟩, (hts (.instanceMethod yX6_isEmpty) (List.mem_of_getElem? (i := 7) rfl)), (hts (.selects RX6 yX6_isEmpty yX6_isEmpty) (List.mem_of_getElem? (i := 9) rfl))⟩ ⟨(fun a U g mk q => ⟨q.1, q.2.blind⟩), va_recv hK hP (ci := 6) (q0 := 11) rfl (wC_11 cy ad σ0), (fun U hU hW => ⟨rfl, WdC.pre hP hK hD hN hU hW⟩)⟩ rfl rfl hl.1 rfl (lv_room (Nat.le_of_ble_eq_true rfl)) dX8_forbidden_16 ⟨le_R hRc (Nat.le_refl 0), le_R hRs (Nat.le_refl 0)⟩) hS (fun r H locs hr1 hP hS => ?_)
    subst hr1
    refine lv_if_eq (tgt := 25) hx hb dX8_forbidden_19 (by decide) (fun c8 => ?_) (fun c8 => ?_)
    · have hv := hv.1 c8
      refine lv_aload_n hx hb dX8_forbidden_25 rfl (lv_at hl 0 rfl) ?_
      refine lv_iload_n hx hb dX8_forbidden_26 rfl (lv_at hl 1 rfl) ?_
      refine lv_aload_n hx hb dX8_forbidden_27 rfl (lv_at hl 0 rfl) ?_
      refine va_get (ci := 8) (v := .ref (ad 11)) (C := RX8) (T := TX8) (N := 5) hx hb hts hinX8 hown hK hP 0 (wC_0 cy ad σ0) rfl 2 (by decide) (hts (.fieldLink RX8 27 "TaleBans" "land" "LTaleBans$Steppe;") (List.mem_of_getElem? (i := 1) rfl)) (fun x h => h) rfl dX8_forbidden_28 ?_
      refine va_getN (ci := 6) (v := .int (rdI σ0 3)) (C := RX6) (T := TX6) (N := 8) hx hb hts hinX6 hown hK hP 11 (wC_11 cy ad σ0) rfl 6 (by decide) (nw_12 hN) (fun x h => h) rfl dX8_forbidden_31 ?_
      obtain ⟨g1, g2, hv⟩ := hv
      obtain ⟨hp, hv⟩ := hv
      refine k_rel_v (w := wC cy ad) (va_runV (As := [.int season_, .int (rdI σ0 3)]) (rest := []) ⟨hx, hb, hml, hown, hts⟩ (h_X8_reach D cy ad A season_ (rdI σ0 3) g1 g2 σ0 hp) (cwV 2 hts gX8_forbidden_X8_reach rfl rfl rfl (by decide +kernel) ⟨le_R hRf (Nat.le_of_ble_eq_true rfl), le_R hRl (Nat.le_of_ble_eq_true rfl)⟩) ⟨(fun a U g mk q => ⟨q.1, q.2.blind⟩), va_recv hK hP (ci := 8) (q0 := 0) rfl (wC_0 cy ad σ0), (fun U hU hW => ⟨rfl, WdC.pre hP hK hD hN hU hW⟩)⟩ rfl rfl hl.1 rfl (lv_room (Nat.le_of_ble_eq_true rfl)) dX8_forbidden_34 ⟨le_R hRc (Nat.le_refl 0), le_R hRs (Nat.le_refl 0)⟩) hS (fun σ3 H locs hr1 hP hD hS => ?_)
      have hv := hv σ3 hr1
      refine lv_aload_n hx hb dX8_forbidden_37 rfl (lv_at hl 0 rfl) ?_
      refine va_get (ci := 8) (v := .ref (ad 21)) (C := RX8) (T := TX8) (N := 5) hx hb hts hinX8 hown hK hP 0 (wC_0 cy ad σ3) rfl 3 (by decide) (hts (.fieldLink RX8 36 "TaleBans" "seasons" "LTaleBans$Seasons;") (List.mem_of_getElem? (i := 2) rfl)) (fun x h => h) rfl dX8_forbidden_38 ?_
      obtain ⟨g4, g5, g6, hv⟩ := hv
      obtain ⟨hp, hv⟩ := hv
      refine k_read_i (w := wC cy ad) (va_runVN (As := []) (rest := []) ⟨hx, hb, hml, hown, hts⟩ (h_X4_bannedDeeds D cy ad A g4 g5 g6 σ3 hp) ⟨va_cnB 0 hts gX8_forbidden_X4_bannedDeeds_n155 rfl rfl rfl (nwm_54 hN) (hts (.initialized RX4) (List.mem_of_getElem? (i := 17) rfl)) (by decide +kernel) ⟨le_R hRf (Nat.le_of_ble_eq_true rfl), le_R hRl (Nat.le_of_ble_eq_true rfl)⟩, (hts (.instanceMethod yX4_bannedDeeds) (List.mem_of_getElem? (i := 107) rfl)), (hts (.selects RX4 yX4_bannedDeeds yX4_bannedDeeds) (List.mem_of_getElem? (i := 108) rfl))⟩ ⟨(fun a U g mk q => ⟨q.1, q.2.blind⟩), va_recv hK hP (ci := 4) (q0 := 21) rfl (wC_21 cy ad σ3), (fun U hU hW => ⟨rfl, WdC.pre hP hK hD hN hU hW⟩)⟩ rfl rfl hl.1 rfl (lv_room (Nat.le_of_ble_eq_true rfl)) dX8_forbidden_41 ⟨le_R hRc (Nat.le_refl 0), le_R hRs (Nat.le_refl 0)⟩) hS (fun r7 H locs hr1 hP hS => ?_)
      have hv := hv r7 hr1
      rw [hZ]; rw [hQ] at hv
      exact W.iret (v := r7) hx hb hr (fun t ht hW => ⟨⟨r7, σ3, rfl, hv, ⟨P_of ht hP, hD⟩⟩, hS.F ht⟩) hS.2.2 dX8_forbidden_44
    · have hv := hv.2 c8
      refine lv_bipush (v := (-3)) hx hb dX8_forbidden_22 (by decide) ?_
      rw [hZ]; rw [hQ] at hv
      exact W.iret (v := (-3)) hx hb hr (fun t ht hW => ⟨⟨(-3), σ0, rfl, hv, ⟨P_of ht hP, hD⟩⟩, hS.F ht⟩) hS.2.2 dX8_forbidden_24
  · have hv := hv.2 c9
    refine lv_bipush (v := (-2)) hx hb dX8_forbidden_9 (by decide) ?_
    rw [hZ]; rw [hQ] at hv
    exact W.iret (v := (-2)) hx hb hr (fun t ht hW => ⟨⟨(-2), σ0, rfl, hv, ⟨P_of ht hP, hD⟩⟩, hS.F ht⟩) hS.2.2 dX8_forbidden_11
set_option maxHeartbeats 4000000 in
set_option maxRecDepth 100000 in
theorem wk_X8_dies (l : Launch) (h_X3_has : Ct_X3_has l) (h_X8_deathOf : Ct_X8_deathOf l) (sp : Sp_X8_dies) : Ct_X8_dies l := by
  intro D cy ad A t_ ag σ0  hpre
  refine Met.ofW (cc := cX8_dies) (maxL := 2) (ret := (some .int)) (by decide) rfl ?_
  intro p e s m args below meth c s₁ B hml hv0
  obtain ⟨rfl, hP, hK, hD, hN⟩ := hv0
  have hx := B.exec
  have hb := B.bytes
  have hr := B.returns
  have hts := atoms_spec (ws := wsX8_dies) B.pre
  have hown : s.vm.findClass RX8 = some m.cls := findClass_of_methodNamed B.named
  have hlocks := B.notSynchronized
  have hv := sp t_ ag σ0 hpre
  have hl := lv_entry ([.ref (ad 0), .int t_]) (n := 2) (Nat.le_of_ble_eq_true rfl)
  rw [lg_entry_eq]
  generalize (lg_sl ([.ref (ad 0), .int t_]) ++ List.replicate (2 - (lg_sl ([.ref (ad 0), .int t_])).length) Slot.unset).toArray = ls at hl ⊢
  have hl : lv_has ls 2 [(0, .ref (ad 0)), (1, .int t_)] := hl
  refine W_gen (fun R Z H locs hR hZ hH hlo => ?_)
  have hRf : R.frames = 5 := by rw [hR]; rfl
  have hRl : R.locals = 114 := by rw [hR]; rfl
  have hRc : R.cells = 0 := by rw [hR]; rfl
  have hRs : R.slots = 0 := by rw [hR]; rfl
  have hS : va_S A s.heap H locs := by rw [hH, hlo]; exact va_S.rf
  rw [← hH] at hP
  obtain ⟨Q, hQ⟩ : ∃ q : Int32 → S_ → Prop, q = (post_X8_dies t_ ag σ0) := ⟨_, rfl⟩
  rw [← hQ] at hv
  have hinX6 : ∀ w ∈ wsX60, w ∈ wsX8_dies := by decide +kernel
  have hinX8 : ∀ w ∈ wsX80, w ∈ wsX8_dies := by decide +kernel
  refine lv_aload_n hx hb dX8_dies_0 rfl (lv_at hl 0 rfl) ?_
  refine va_get (ci := 8) (v := .ref (ad 11)) (C := RX8) (T := TX8) (N := 5) hx hb hts hinX8 hown hK hP 0 (wC_0 cy ad σ0) rfl 2 (by decide) (hts (.fieldLink RX8 27 "TaleBans" "land" "LTaleBans$Steppe;") (List.mem_of_getElem? (i := 1) rfl)) (fun x h => h) rfl dX8_dies_1 ?_
  refine va_getN (ci := 6) (v := .ref (ad (13))) (C := RX6) (T := TX6) (N := 8) hx hb hts hinX6 hown hK hP 11 (wC_11 cy ad σ0) rfl 1 (by decide) (nw_5 hN) (fun x h => h) rfl dX8_dies_4 ?_
  refine lv_iload_n hx hb dX8_dies_7 rfl (lv_at hl 1 rfl) ?_
  have hp := True.intro
  refine k_read_i (w := wC cy ad) (va_runVN (As := [.int t_]) (rest := []) ⟨hx, hb, hml, hown, hts⟩ (h_X3_has D cy ad A 0 t_ σ0 (show 0 < 4 by decide) hp) ⟨va_cnB 1 hts gX8_dies_X3_has_n131 rfl rfl rfl (nwm_42 hN) (hts (.initialized RX3) (List.mem_of_getElem? (i := 3) rfl)) (by decide +kernel) ⟨le_R hRf (Nat.le_of_ble_eq_true rfl), le_R hRl (Nat.le_of_ble_eq_true rfl)⟩, (hts (.instanceMethod yX3_has) (List.mem_of_getElem? (i := 2) rfl)), (hts (.selects RX3 yX3_has yX3_has) (List.mem_of_getElem? (i := 4) rfl))⟩ ⟨(fun a U g mk q => ⟨q.1, q.2.blind⟩), va_recv hK hP (ci := 3) (q0 := 13) rfl (wC_13 cy ad σ0), (fun U hU hW => ⟨rfl, WdC.pre hP hK hD hN hU hW⟩)⟩ rfl rfl hl.1 rfl (lv_room (Nat.le_of_ble_eq_true rfl)) dX8_dies_8 ⟨le_R hRc (Nat.le_refl 0), le_R hRs (Nat.le_refl 0)⟩) hS (fun r H locs hr1 hP hS => ?_)
  subst hr1
  refine lv_if_ne (tgt := 16) hx hb dX8_dies_11 (by decide) (fun c5 => ?_) (fun c5 => ?_)
  · have hv := hv.1 c5
    refine lv_aload_n hx hb dX8_dies_16 rfl (lv_at hl 0 rfl) ?_
    refine lv_iload_n hx hb dX8_dies_17 rfl (lv_at hl 1 rfl) ?_
    obtain ⟨g1, g2, hv⟩ := hv
    obtain ⟨hp, hv⟩ := hv
    refine k_rel_i (w := wC cy ad) (va_runV (As := [.int t_]) (rest := []) ⟨hx, hb, hml, hown, hts⟩ (h_X8_deathOf D cy ad A t_ g1 g2 σ0 hp) (cwV 1 hts gX8_dies_X8_deathOf rfl rfl rfl (by decide +kernel) ⟨le_R hRf (Nat.le_of_ble_eq_true rfl), le_R hRl (Nat.le_of_ble_eq_true rfl)⟩) ⟨(fun a U g mk q => ⟨q.1, q.2.blind⟩), va_recv hK hP (ci := 8) (q0 := 0) rfl (wC_0 cy ad σ0), (fun U hU hW => ⟨rfl, WdC.pre hP hK hD hN hU hW⟩)⟩ rfl rfl hl.1 rfl (lv_room (Nat.le_of_ble_eq_true rfl)) dX8_dies_18 ⟨le_R hRc (Nat.le_refl 0), le_R hRs (Nat.le_refl 0)⟩) hS (fun r4 σ3 H locs hr1 hP hD hS => ?_)
    have hv := hv r4 σ3 hr1
    rw [hZ]; rw [hQ] at hv
    exact W.iret (v := r4) hx hb hr (fun t ht hW => ⟨⟨r4, σ3, rfl, hv, ⟨P_of ht hP, hD⟩⟩, hS.F ht⟩) hS.2.2 dX8_dies_21
  · have hv := hv.2 c5
    refine lv_iconst (v := (-1)) hx hb dX8_dies_14 (by decide) ?_
    rw [hZ]; rw [hQ] at hv
    exact W.iret (v := (-1)) hx hb hr (fun t ht hW => ⟨⟨(-1), σ0, rfl, hv, ⟨P_of ht hP, hD⟩⟩, hS.F ht⟩) hS.2.2 dX8_dies_15
set_option maxHeartbeats 4000000 in
set_option maxRecDepth 100000 in
theorem wk_X8_free (l : Launch) (h_X4_begin : Ct_X4_begin l) (h_X4_isBanned : Ct_X4_isBanned l) (h_X4_pass : Ct_X4_pass l) (h_X8_isOneOf : Ct_X8_isOneOf l) (h_X8_refusal : Ct_X8_refusal l) (sp : Sp_X8_free) : Ct_X8_free l := by
  intro D cy ad A deed_ season_ ag σ0  hpre
  refine Met.ofW (cc := cX8_free) (maxL := 5) (ret := (some .int)) (by decide) rfl ?_
  intro p e s m args below meth c s₁ B hml hv0
  obtain ⟨rfl, hP, hK, hD, hN⟩ := hv0
  have hx := B.exec
  have hb := B.bytes
  have hr := B.returns
  have hts := atoms_spec (ws := wsX8_free) B.pre
  have hown : s.vm.findClass RX8 = some m.cls := findClass_of_methodNamed B.named
  have hlocks := B.notSynchronized
  have hv := sp deed_ season_ ag σ0 hpre
  have hl := lv_entry ([.ref (ad 0), .int deed_, .int season_]) (n := 5) (Nat.le_of_ble_eq_true rfl)
  rw [lg_entry_eq]
  generalize (lg_sl ([.ref (ad 0), .int deed_, .int season_]) ++ List.replicate (5 - (lg_sl ([.ref (ad 0), .int deed_, .int season_])).length) Slot.unset).toArray = ls at hl ⊢
  have hl : lv_has ls 5 [(0, .ref (ad 0)), (1, .int deed_), (2, .int season_)] := hl
  refine W_gen (fun R Z H locs hR hZ hH hlo => ?_)
  have hRf : R.frames = 5 := by rw [hR]; rfl
  have hRl : R.locals = 108 := by rw [hR]; rfl
  have hRc : R.cells = 0 := by rw [hR]; rfl
  have hRs : R.slots = 0 := by rw [hR]; rfl
  have hS : va_S A s.heap H locs := by rw [hH, hlo]; exact va_S.rf
  rw [← hH] at hP
  obtain ⟨Q, hQ⟩ : ∃ q : Int32 → S_ → Prop, q = (post_X8_free deed_ season_ ag σ0) := ⟨_, rfl⟩
  rw [← hQ] at hv
  have hinX6 : ∀ w ∈ wsX60, w ∈ wsX8_free := by decide +kernel
  have hinX8 : ∀ w ∈ wsX80, w ∈ wsX8_free := by decide +kernel
  refine lv_aload_n hx hb dX8_free_0 rfl (lv_at hl 0 rfl) ?_
  refine lv_iload_n hx hb dX8_free_1 rfl (lv_at hl 1 rfl) ?_
  refine lv_bipush (v := 6) hx hb dX8_free_2 (by decide) ?_
  refine k_pure_i (va_runS (As := [.int deed_, .int 6]) (rest := [.ref (ad 0)]) ⟨hx, hb, hml, hown, hts⟩ (h_X8_isOneOf deed_ 6) (va_cwS 2 hts gX8_free_X8_isOneOf rfl rfl rfl (by decide +kernel) ⟨le_R hRf (Nat.le_of_ble_eq_true rfl), le_R hRl (Nat.le_of_ble_eq_true rfl)⟩) ⟨(fun a U g mk q => ⟨q.1, trivial⟩), (fun U hU hW => ⟨rfl, trivial⟩)⟩ rfl rfl hl.1 rfl (lv_room (Nat.le_of_ble_eq_true rfl)) dX8_free_4 ⟨le_R hRc (Nat.le_refl 0), le_R hRs (Nat.le_refl 0)⟩) hS hP (fun r H locs hr1 hP hS => ?_)
  subst hr1
  refine lv_iload_n hx hb dX8_free_7 rfl (lv_at hl 2 rfl) ?_
  refine lv_bipush (v := 40) hx hb dX8_free_8 (by decide) ?_
  refine k_pure_i (va_runS (As := [.int season_, .int 40]) (rest := [.int (fn_X8_isOneOf deed_ 6), .ref (ad 0)]) ⟨hx, hb, hml, hown, hts⟩ (h_X8_isOneOf season_ 40) (va_cwS 2 hts gX8_free_X8_isOneOf rfl rfl rfl (by decide +kernel) ⟨le_R hRf (Nat.le_of_ble_eq_true rfl), le_R hRl (Nat.le_of_ble_eq_true rfl)⟩) ⟨(fun a U g mk q => ⟨q.1, trivial⟩), (fun U hU hW => ⟨rfl, trivial⟩)⟩ rfl rfl hl.1 rfl (lv_room (Nat.le_of_ble_eq_true rfl)) dX8_free_10 ⟨le_R hRc (Nat.le_refl 0), le_R hRs (Nat.le_refl 0)⟩) hS hP (fun r H locs hr1 hP hS => ?_)
  subst hr1
  have hp := True.intro
  refine k_read_i (w := wC cy ad) (va_runV (As := [.int (fn_X8_isOneOf deed_ 6), .int (fn_X8_isOneOf season_ 40)]) (rest := []) ⟨hx, hb, hml, hown, hts⟩ (h_X8_refusal D cy ad A (fn_X8_isOneOf deed_ 6) (fn_X8_isOneOf season_ 40) σ0 hp) (cwV 2 hts gX8_free_X8_refusal rfl rfl rfl (by decide +kernel) ⟨le_R hRf (Nat.le_of_ble_eq_true rfl), le_R hRl (Nat.le_of_ble_eq_true rfl)⟩) ⟨(fun a U g mk q => ⟨q.1, q.2.blind⟩), va_recv hK hP (ci := 8) (q0 := 0) rfl (wC_0 cy ad σ0), (fun U hU hW => ⟨rfl, WdC.pre hP hK hD hN hU hW⟩)⟩ rfl rfl hl.1 rfl (lv_room (Nat.le_of_ble_eq_true rfl)) dX8_free_13 ⟨le_R hRc (Nat.le_refl 0), le_R hRs (Nat.le_refl 0)⟩) hS (fun r H locs hr1 hP hS => ?_)
  subst hr1
  refine lv_istore_n (lv' := [(3, .int (fn_X8_refusal (fn_X8_isOneOf deed_ 6) (fn_X8_isOneOf season_ 40) σ0)), (0, .ref (ad 0)), (1, .int deed_), (2, .int season_)]) hx hb dX8_free_16 rfl hl (by decide) rfl (fun ls hl => ?_)
  refine lv_iload_n hx hb dX8_free_17 rfl (lv_at hl 0 rfl) ?_
  refine lv_if_eq (tgt := 23) hx hb dX8_free_18 (by decide) (fun c17 => ?_) (fun c17 => ?_)
  · have hv := hv.1 c17
    refine lv_aload_n hx hb dX8_free_23 rfl (lv_at hl 1 rfl) ?_
    refine va_get (ci := 8) (v := .ref (ad 21)) (C := RX8) (T := TX8) (N := 5) hx hb hts hinX8 hown hK hP 0 (wC_0 cy ad σ0) rfl 3 (by decide) (hts (.fieldLink RX8 36 "TaleBans" "seasons" "LTaleBans$Seasons;") (List.mem_of_getElem? (i := 1) rfl)) (fun x h => h) rfl dX8_free_24 ?_
    refine lv_aload_n hx hb dX8_free_27 rfl (lv_at hl 1 rfl) ?_
    refine va_get (ci := 8) (v := .ref (ad 11)) (C := RX8) (T := TX8) (N := 5) hx hb hts hinX8 hown hK hP 0 (wC_0 cy ad σ0) rfl 2 (by decide) (hts (.fieldLink RX8 27 "TaleBans" "land" "LTaleBans$Steppe;") (List.mem_of_getElem? (i := 2) rfl)) (fun x h => h) rfl dX8_free_28 ?_
    refine va_getN (ci := 6) (v := .int (rdI σ0 3)) (C := RX6) (T := TX6) (N := 8) hx hb hts hinX6 hown hK hP 11 (wC_11 cy ad σ0) rfl 6 (by decide) (nw_12 hN) (fun x h => h) rfl dX8_free_31 ?_
    refine lv_aload_n hx hb dX8_free_34 rfl (lv_at hl 1 rfl) ?_
    refine va_get (ci := 8) (v := .ref (ad 11)) (C := RX8) (T := TX8) (N := 5) hx hb hts hinX8 hown hK hP 0 (wC_0 cy ad σ0) rfl 2 (by decide) (hts (.fieldLink RX8 27 "TaleBans" "land" "LTaleBans$Steppe;") (List.mem_of_getElem? (i := 2) rfl)) (fun x h => h) rfl dX8_free_35 ?_
    refine va_getN (ci := 6) (v := .int (rdI σ0 4)) (C := RX6) (T := TX6) (N := 8) hx hb hts hinX6 hown hK hP 11 (wC_11 cy ad σ0) rfl 7 (by decide) (nw_13 hN) (fun x h => h) rfl dX8_free_38 ?_
    obtain ⟨g1, hv⟩ := hv
    obtain ⟨hp, hv⟩ := hv
    refine k_rel_v (w := wC cy ad) (va_runVN (As := [.int (rdI σ0 3), .int (rdI σ0 4)]) (rest := []) ⟨hx, hb, hml, hown, hts⟩ (h_X4_begin D cy ad A (rdI σ0 3) (rdI σ0 4) g1 σ0 hp) ⟨va_cnB 2 hts gX8_free_X4_begin_n161 rfl rfl rfl (nwm_45 hN) (hts (.initialized RX4) (List.mem_of_getElem? (i := 17) rfl)) (by decide +kernel) ⟨le_R hRf (Nat.le_of_ble_eq_true rfl), le_R hRl (Nat.le_of_ble_eq_true rfl)⟩, (hts (.instanceMethod yX4_begin) (List.mem_of_getElem? (i := 16) rfl)), (hts (.selects RX4 yX4_begin yX4_begin) (List.mem_of_getElem? (i := 18) rfl))⟩ ⟨(fun a U g mk q => ⟨q.1, q.2.blind⟩), va_recv hK hP (ci := 4) (q0 := 21) rfl (wC_21 cy ad σ0), (fun U hU hW => ⟨rfl, WdC.pre hP hK hD hN hU hW⟩)⟩ rfl rfl hl.1 rfl (lv_room (Nat.le_of_ble_eq_true rfl)) dX8_free_41 ⟨le_R hRc (Nat.le_refl 0), le_R hRs (Nat.le_refl 0)⟩) hS (fun σ2 H locs hr1 hP hD hS => ?_)
    have hv := hv σ2 hr1
    refine lv_iconst (v := 0) hx hb dX8_free_44 (by decide) ?_
    refine lv_istore (lv' := [(4, .int 0), (3, .int (fn_X8_refusal (fn_X8_isOneOf deed_ 6) (fn_X8_isOneOf season_ 40) σ0)), (0, .ref (ad 0)), (1, .int deed_), (2, .int season_)]) hx hb dX8_free_45 hl (by decide) rfl (fun ls hl => ?_)
    obtain ⟨n47, hv⟩ := hv
    have lp47 : ∀ (nn47 : Nat) (x3 : Int32) (σ4 : S_) (H : Heap) (locs : List Loc) (ls : Array Slot), vl_X8_free_47 deed_ season_ Q nn47 x3 σ4 → va_P D vwCl (wC cy ad σ4) H → va_D A (wC cy ad σ4) → va_S A s.heap H locs → lv_has ls 5 [(0, .ref (ad 0)), (1, .int deed_), (2, .int season_), (4, .int x3)] → W p l e R s m ([.ref (ad 0), .int deed_, .int season_] : List Value).toArray  below meth c H locs 0 0 Z (F0 m 47 ls []) := by
      intro nn47
      induction nn47 with
      | zero => intro x3 σ4 H locs ls hv; exact absurd hv id
      | succ mm47 ih47 =>
        intro x3 σ4 H locs ls hv hP hD hS hl
        refine lv_iload hx hb dX8_free_47 (lv_at hl 3 rfl) ?_
        refine lv_bipush (v := 40) hx hb dX8_free_49 (by decide) ?_
        refine lv_icmp_ge (tgt := 87) hx hb dX8_free_51 (by decide) (fun c16 => ?_) (fun c16 => ?_)
        · have hv := hv.1 c16
          refine lv_bipush (v := (-9)) hx hb dX8_free_87 (by decide) ?_
          rw [hZ]; rw [hQ] at hv
          exact W.iret (v := (-9)) hx hb hr (fun t ht hW => ⟨⟨(-9), σ4, rfl, hv, ⟨P_of ht hP, hD⟩⟩, hS.F ht⟩) hS.2.2 dX8_free_89
        · have hv := hv.2 c16
          refine lv_aload_n hx hb dX8_free_54 rfl (lv_at hl 0 rfl) ?_
          refine va_get (ci := 8) (v := .ref (ad 21)) (C := RX8) (T := TX8) (N := 5) hx hb hts hinX8 hown hK hP 0 (wC_0 cy ad σ4) rfl 3 (by decide) (hts (.fieldLink RX8 36 "TaleBans" "seasons" "LTaleBans$Seasons;") (List.mem_of_getElem? (i := 1) rfl)) (fun x h => h) rfl dX8_free_55 ?_
          obtain ⟨g5, g6, g7, hv⟩ := hv
          obtain ⟨hp, hv⟩ := hv
          refine k_rel_v (w := wC cy ad) (va_runVN (As := []) (rest := []) ⟨hx, hb, hml, hown, hts⟩ (h_X4_pass D cy ad A g5 g6 g7 σ4 hp) ⟨va_cnB 0 hts gX8_free_X4_pass_n164 rfl rfl rfl (nwm_47 hN) (hts (.initialized RX4) (List.mem_of_getElem? (i := 17) rfl)) (by decide +kernel) ⟨le_R hRf (Nat.le_of_ble_eq_true rfl), le_R hRl (Nat.le_of_ble_eq_true rfl)⟩, (hts (.instanceMethod yX4_pass) (List.mem_of_getElem? (i := 58) rfl)), (hts (.selects RX4 yX4_pass yX4_pass) (List.mem_of_getElem? (i := 59) rfl))⟩ ⟨(fun a U g mk q => ⟨q.1, q.2.blind⟩), va_recv hK hP (ci := 4) (q0 := 21) rfl (wC_21 cy ad σ4), (fun U hU hW => ⟨rfl, WdC.pre hP hK hD hN hU hW⟩)⟩ rfl rfl hl.1 rfl (lv_room (Nat.le_of_ble_eq_true rfl)) dX8_free_58 ⟨le_R hRc (Nat.le_refl 0), le_R hRs (Nat.le_refl 0)⟩) hS (fun σ8 H locs hr1 hP hD hS => ?_)
          have hv := hv σ8 hr1
          refine lv_iload hx hb dX8_free_61 (lv_at hl 3 rfl) ?_
          refine lv_iload_n hx hb dX8_free_63 rfl (lv_at hl 2 rfl) ?_
          refine lv_icmp_lt (tgt := 81) hx hb dX8_free_64 (by decide) (fun c15 => ?_) (fun c15 => ?_)
          · have hv := hv.1 c15
            refine lv_iinc (v := (x3 + 1)) (lv' := [(4, .int (x3 + 1)), (0, .ref (ad 0)), (1, .int deed_), (2, .int season_)]) hx hb dX8_free_81 hl (k := 3) rfl rfl (by decide) rfl (fun ls hl => ?_)
            refine lv_goto (tgt := 47) hx hb dX8_free_84 (by decide) ?_
            exact ih47 (x3 + 1) σ8 _ _ _ hv hP hD hS (lv_sub hl [1, 2, 3, 0] rfl)
          · have hv := hv.2 c15
            refine lv_aload_n hx hb dX8_free_67 rfl (lv_at hl 0 rfl) ?_
            refine va_get (ci := 8) (v := .ref (ad 21)) (C := RX8) (T := TX8) (N := 5) hx hb hts hinX8 hown hK hP 0 (wC_0 cy ad σ8) rfl 3 (by decide) (hts (.fieldLink RX8 36 "TaleBans" "seasons" "LTaleBans$Seasons;") (List.mem_of_getElem? (i := 1) rfl)) (fun x h => h) rfl dX8_free_68 ?_
            refine lv_iload_n hx hb dX8_free_71 rfl (lv_at hl 1 rfl) ?_
            obtain ⟨g9, g10, g11, g12, hv⟩ := hv
            obtain ⟨hp, hv⟩ := hv
            refine k_read_i (w := wC cy ad) (va_runVN (As := [.int deed_]) (rest := []) ⟨hx, hb, hml, hown, hts⟩ (h_X4_isBanned D cy ad A deed_ g9 g10 g11 g12 σ8 hp) ⟨va_cnB 1 hts gX8_free_X4_isBanned_n167 rfl rfl rfl (nwm_56 hN) (hts (.initialized RX4) (List.mem_of_getElem? (i := 17) rfl)) (by decide +kernel) ⟨le_R hRf (Nat.le_of_ble_eq_true rfl), le_R hRl (Nat.le_of_ble_eq_true rfl)⟩, (hts (.instanceMethod yX4_isBanned) (List.mem_of_getElem? (i := 107) rfl)), (hts (.selects RX4 yX4_isBanned yX4_isBanned) (List.mem_of_getElem? (i := 108) rfl))⟩ ⟨(fun a U g mk q => ⟨q.1, q.2.blind⟩), va_recv hK hP (ci := 4) (q0 := 21) rfl (wC_21 cy ad σ8), (fun U hU hW => ⟨rfl, WdC.pre hP hK hD hN hU hW⟩)⟩ rfl rfl hl.1 rfl (lv_room (Nat.le_of_ble_eq_true rfl)) dX8_free_72 ⟨le_R hRc (Nat.le_refl 0), le_R hRs (Nat.le_refl 0)⟩) hS (fun r13 H locs hr1 hP hS => ?_)
            have hv := hv r13 hr1
            refine lv_if_ne (tgt := 81) hx hb dX8_free_75 (by decide) (fun c14 => ?_) (fun c14 => ?_)
            · have hv := hv.1 c14
              refine lv_iinc (v := (x3 + 1)) (lv' := [(4, .int (x3 + 1)), (0, .ref (ad 0)), (1, .int deed_), (2, .int season_)]) hx hb dX8_free_81 hl (k := 3) rfl rfl (by decide) rfl (fun ls hl => ?_)
              refine lv_goto (tgt := 47) hx hb dX8_free_84 (by decide) ?_
              exact ih47 (x3 + 1) σ8 _ _ _ hv hP hD hS (lv_sub hl [1, 2, 3, 0] rfl)
            · have hv := hv.2 c14
              refine lv_iload hx hb dX8_free_78 (lv_at hl 3 rfl) ?_
              rw [hZ]; rw [hQ] at hv
              exact W.iret (v := x3) hx hb hr (fun t ht hW => ⟨⟨x3, σ8, rfl, hv, ⟨P_of ht hP, hD⟩⟩, hS.F ht⟩) hS.2.2 dX8_free_80
    exact lp47 n47 0 σ2 _ _ _ hv hP hD hS (lv_sub hl [2, 3, 4, 0] rfl)
  · have hv := hv.2 c17
    refine lv_iload_n hx hb dX8_free_21 rfl (lv_at hl 0 rfl) ?_
    rw [hZ]; rw [hQ] at hv
    exact W.iret (v := (fn_X8_refusal (fn_X8_isOneOf deed_ 6) (fn_X8_isOneOf season_ 40) σ0)) hx hb hr (fun t ht hW => ⟨⟨(fn_X8_refusal (fn_X8_isOneOf deed_ 6) (fn_X8_isOneOf season_ 40) σ0), σ0, rfl, hv, ⟨P_of ht hP, hD⟩⟩, hS.F ht⟩) hS.2.2 dX8_free_22
set_option maxHeartbeats 4000000 in
set_option maxRecDepth 100000 in
theorem wk_X8_fewest (l : Launch) (h_J6_bitCount_0f7a4 : Ct_J6_bitCount_0f7a4 l) (h_X8_isBannedIfPaid : Ct_X8_isBannedIfPaid l) (h_X8_isOneOf : Ct_X8_isOneOf l) (h_X8_refusal : Ct_X8_refusal l) (sp : Sp_X8_fewest) : Ct_X8_fewest l := by
  intro D cy ad A deed_ season_ ag σ0  hpre
  refine Met.ofW (cc := cX8_fewest) (maxL := 7) (ret := (some .int)) (by decide) rfl ?_
  intro p e s m args below meth c s₁ B hml hv0
  obtain ⟨rfl, hP, hK, hD, hN⟩ := hv0
  have hx := B.exec
  have hb := B.bytes
  have hr := B.returns
  have hts := atoms_spec (ws := wsX8_fewest) B.pre
  have hown : s.vm.findClass RX8 = some m.cls := findClass_of_methodNamed B.named
  have hlocks := B.notSynchronized
  have hv := sp deed_ season_ ag σ0 hpre
  have hl := lv_entry ([.ref (ad 0), .int deed_, .int season_]) (n := 7) (Nat.le_of_ble_eq_true rfl)
  rw [lg_entry_eq]
  generalize (lg_sl ([.ref (ad 0), .int deed_, .int season_]) ++ List.replicate (7 - (lg_sl ([.ref (ad 0), .int deed_, .int season_])).length) Slot.unset).toArray = ls at hl ⊢
  have hl : lv_has ls 7 [(0, .ref (ad 0)), (1, .int deed_), (2, .int season_)] := hl
  refine W_gen (fun R Z H locs hR hZ hH hlo => ?_)
  have hRf : R.frames = 6 := by rw [hR]; rfl
  have hRl : R.locals = 137 := by rw [hR]; rfl
  have hRc : R.cells = 0 := by rw [hR]; rfl
  have hRs : R.slots = 0 := by rw [hR]; rfl
  have hS : va_S A s.heap H locs := by rw [hH, hlo]; exact va_S.rf
  rw [← hH] at hP
  obtain ⟨Q, hQ⟩ : ∃ q : Int32 → S_ → Prop, q = (post_X8_fewest deed_ season_ ag σ0) := ⟨_, rfl⟩
  rw [← hQ] at hv
  have hinX6 : ∀ w ∈ wsX60, w ∈ wsX8_fewest := by decide +kernel
  have hinX8 : ∀ w ∈ wsX80, w ∈ wsX8_fewest := by decide +kernel
  refine lv_aload_n hx hb dX8_fewest_0 rfl (lv_at hl 0 rfl) ?_
  refine lv_iload_n hx hb dX8_fewest_1 rfl (lv_at hl 1 rfl) ?_
  refine lv_bipush (v := 6) hx hb dX8_fewest_2 (by decide) ?_
  refine k_pure_i (va_runS (As := [.int deed_, .int 6]) (rest := [.ref (ad 0)]) ⟨hx, hb, hml, hown, hts⟩ (h_X8_isOneOf deed_ 6) (va_cwS 2 hts gX8_fewest_X8_isOneOf rfl rfl rfl (by decide +kernel) ⟨le_R hRf (Nat.le_of_ble_eq_true rfl), le_R hRl (Nat.le_of_ble_eq_true rfl)⟩) ⟨(fun a U g mk q => ⟨q.1, trivial⟩), (fun U hU hW => ⟨rfl, trivial⟩)⟩ rfl rfl hl.1 rfl (lv_room (Nat.le_of_ble_eq_true rfl)) dX8_fewest_4 ⟨le_R hRc (Nat.le_refl 0), le_R hRs (Nat.le_refl 0)⟩) hS hP (fun r H locs hr1 hP hS => ?_)
  subst hr1
  refine lv_iload_n hx hb dX8_fewest_7 rfl (lv_at hl 2 rfl) ?_
  refine lv_bipush (v := 40) hx hb dX8_fewest_8 (by decide) ?_
  refine k_pure_i (va_runS (As := [.int season_, .int 40]) (rest := [.int (fn_X8_isOneOf deed_ 6), .ref (ad 0)]) ⟨hx, hb, hml, hown, hts⟩ (h_X8_isOneOf season_ 40) (va_cwS 2 hts gX8_fewest_X8_isOneOf rfl rfl rfl (by decide +kernel) ⟨le_R hRf (Nat.le_of_ble_eq_true rfl), le_R hRl (Nat.le_of_ble_eq_true rfl)⟩) ⟨(fun a U g mk q => ⟨q.1, trivial⟩), (fun U hU hW => ⟨rfl, trivial⟩)⟩ rfl rfl hl.1 rfl (lv_room (Nat.le_of_ble_eq_true rfl)) dX8_fewest_10 ⟨le_R hRc (Nat.le_refl 0), le_R hRs (Nat.le_refl 0)⟩) hS hP (fun r H locs hr1 hP hS => ?_)
  subst hr1
  have hp := True.intro
  refine k_read_i (w := wC cy ad) (va_runV (As := [.int (fn_X8_isOneOf deed_ 6), .int (fn_X8_isOneOf season_ 40)]) (rest := []) ⟨hx, hb, hml, hown, hts⟩ (h_X8_refusal D cy ad A (fn_X8_isOneOf deed_ 6) (fn_X8_isOneOf season_ 40) σ0 hp) (cwV 2 hts gX8_fewest_X8_refusal rfl rfl rfl (by decide +kernel) ⟨le_R hRf (Nat.le_of_ble_eq_true rfl), le_R hRl (Nat.le_of_ble_eq_true rfl)⟩) ⟨(fun a U g mk q => ⟨q.1, q.2.blind⟩), va_recv hK hP (ci := 8) (q0 := 0) rfl (wC_0 cy ad σ0), (fun U hU hW => ⟨rfl, WdC.pre hP hK hD hN hU hW⟩)⟩ rfl rfl hl.1 rfl (lv_room (Nat.le_of_ble_eq_true rfl)) dX8_fewest_13 ⟨le_R hRc (Nat.le_refl 0), le_R hRs (Nat.le_refl 0)⟩) hS (fun r H locs hr1 hP hS => ?_)
  subst hr1
  refine lv_istore_n (lv' := [(3, .int (fn_X8_refusal (fn_X8_isOneOf deed_ 6) (fn_X8_isOneOf season_ 40) σ0)), (0, .ref (ad 0)), (1, .int deed_), (2, .int season_)]) hx hb dX8_fewest_16 rfl hl (by decide) rfl (fun ls hl => ?_)
  refine lv_iload_n hx hb dX8_fewest_17 rfl (lv_at hl 0 rfl) ?_
  refine lv_if_eq (tgt := 23) hx hb dX8_fewest_18 (by decide) (fun c18 => ?_) (fun c18 => ?_)
  · have hv := hv.1 c18
    refine lv_bipush (v := (-9)) hx hb dX8_fewest_23 (by decide) ?_
    refine lv_istore (lv' := [(4, .int (-9)), (3, .int (fn_X8_refusal (fn_X8_isOneOf deed_ 6) (fn_X8_isOneOf season_ 40) σ0)), (0, .ref (ad 0)), (1, .int deed_), (2, .int season_)]) hx hb dX8_fewest_25 hl (by decide) rfl (fun ls hl => ?_)
    refine lv_iconst (v := 0) hx hb dX8_fewest_27 (by decide) ?_
    refine lv_istore (lv' := [(5, .int 0), (4, .int (-9)), (3, .int (fn_X8_refusal (fn_X8_isOneOf deed_ 6) (fn_X8_isOneOf season_ 40) σ0)), (0, .ref (ad 0)), (1, .int deed_), (2, .int season_)]) hx hb dX8_fewest_28 hl (by decide) rfl (fun ls hl => ?_)
    obtain ⟨n30, hv⟩ := hv
    have lp30 : ∀ (nn30 : Nat) (x1 : Int32) (x2 : Int32) (σ3 : S_) (H : Heap) (locs : List Loc) (ls : Array Slot), vl_X8_fewest_30 deed_ season_ Q nn30 x1 x2 σ3 → va_P D vwCl (wC cy ad σ3) H → va_D A (wC cy ad σ3) → va_S A s.heap H locs → lv_has ls 7 [(0, .ref (ad 0)), (1, .int deed_), (2, .int season_), (4, .int x1), (5, .int x2)] → W p l e R s m ([.ref (ad 0), .int deed_, .int season_] : List Value).toArray  below meth c H locs 0 0 Z (F0 m 30 ls []) := by
      intro nn30
      induction nn30 with
      | zero => intro x1 x2 σ3 H locs ls hv; exact absurd hv id
      | succ mm30 ih30 =>
        intro x1 x2 σ3 H locs ls hv hP hD hS hl
        refine lv_iload hx hb dX8_fewest_30 (lv_at hl 4 rfl) ?_
        refine lv_iconst (v := 1) hx hb dX8_fewest_32 (by decide) ?_
        refine lv_aload_n hx hb dX8_fewest_33 rfl (lv_at hl 0 rfl) ?_
        refine va_get (ci := 8) (v := .ref (ad 11)) (C := RX8) (T := TX8) (N := 5) hx hb hts hinX8 hown hK hP 0 (wC_0 cy ad σ3) rfl 2 (by decide) (hts (.fieldLink RX8 27 "TaleBans" "land" "LTaleBans$Steppe;") (List.mem_of_getElem? (i := 1) rfl)) (fun x h => h) rfl dX8_fewest_34 ?_
        refine va_getN (ci := 6) (v := .int (rdI σ3 2)) (C := RX6) (T := TX6) (N := 8) hx hb hts hinX6 hown hK hP 11 (wC_11 cy ad σ3) rfl 5 (by decide) (nw_11 hN) (fun x h => h) rfl dX8_fewest_37 ?_
        refine lv_ishl hx hb dX8_fewest_40 ?_
        refine lv_icmp_ge (tgt := 118) hx hb dX8_fewest_41 (by decide) (fun c17 => ?_) (fun c17 => ?_)
        · have hv := hv.1 c17
          refine lv_iload hx hb dX8_fewest_118 (lv_at hl 3 rfl) ?_
          rw [hZ]; rw [hQ] at hv
          exact W.iret (v := x1) hx hb hr (fun t ht hW => ⟨⟨x1, σ3, rfl, hv, ⟨P_of ht hP, hD⟩⟩, hS.F ht⟩) hS.2.2 dX8_fewest_120
        · have hv := hv.2 c17
          refine lv_iload hx hb dX8_fewest_44 (lv_at hl 3 rfl) ?_
          refine lv_bipush (v := (-9)) hx hb dX8_fewest_46 (by decide) ?_
          obtain ⟨P4, hv, hvr⟩ := hv
          have jn5 : ∀ (b6 : Int32) (H : Heap) (locs : List Loc) (ls : Array Slot), P4 b6 → va_P D vwCl (wC cy ad σ3) H → va_S A s.heap H locs → lv_has ls 7 [(0, .ref (ad 0)), (1, .int deed_), (2, .int season_), (4, .int x1), (5, .int x2)] → W p l e R s m ([.ref (ad 0), .int deed_, .int season_] : List Value).toArray below meth c H locs 0 0 Z (F0 m 69 ls [.int b6]) := by
            intro b6 H locs ls hv hP hS hl
            have hv := hvr b6 hv
            refine lv_istore (lv' := [(6, .int b6), (0, .ref (ad 0)), (1, .int deed_), (2, .int season_), (4, .int x1), (5, .int x2)]) hx hb dX8_fewest_69 hl (by decide) rfl (fun ls hl => ?_)
            refine lv_iload hx hb dX8_fewest_71 (lv_at hl 0 rfl) ?_
            refine lv_if_eq (tgt := 112) hx hb dX8_fewest_73 (by decide) (fun c16 => ?_) (fun c16 => ?_)
            · have hv := hv.1 c16
              refine lv_iinc (v := (x2 + 1)) (lv' := [(5, .int (x2 + 1)), (6, .int b6), (0, .ref (ad 0)), (1, .int deed_), (2, .int season_), (4, .int x1)]) hx hb dX8_fewest_112 hl (k := 5) rfl rfl (by decide) rfl (fun ls hl => ?_)
              refine lv_goto (tgt := 30) hx hb dX8_fewest_115 (by decide) ?_
              exact ih30 x1 (x2 + 1) σ3 _ _ _ hv hP hD hS (lv_sub hl [2, 3, 4, 5, 0] rfl)
            · have hv := hv.2 c16
              refine lv_iload hx hb dX8_fewest_76 (lv_at hl 5 rfl) ?_
              refine lv_aload_n hx hb dX8_fewest_78 rfl (lv_at hl 1 rfl) ?_
              refine va_get (ci := 8) (v := .ref (ad 11)) (C := RX8) (T := TX8) (N := 5) hx hb hts hinX8 hown hK hP 0 (wC_0 cy ad σ3) rfl 2 (by decide) (hts (.fieldLink RX8 27 "TaleBans" "land" "LTaleBans$Steppe;") (List.mem_of_getElem? (i := 1) rfl)) (fun x h => h) rfl dX8_fewest_79 ?_
              refine va_getN (ci := 6) (v := .int (rdI σ3 3)) (C := RX6) (T := TX6) (N := 8) hx hb hts hinX6 hown hK hP 11 (wC_11 cy ad σ3) rfl 6 (by decide) (nw_12 hN) (fun x h => h) rfl dX8_fewest_82 ?_
              refine lv_iand hx hb dX8_fewest_85 ?_
              refine lv_if_ne (tgt := 112) hx hb dX8_fewest_86 (by decide) (fun c15 => ?_) (fun c15 => ?_)
              · have hv := hv.1 c15
                refine lv_iinc (v := (x2 + 1)) (lv' := [(5, .int (x2 + 1)), (6, .int b6), (0, .ref (ad 0)), (1, .int deed_), (2, .int season_), (4, .int x1)]) hx hb dX8_fewest_112 hl (k := 5) rfl rfl (by decide) rfl (fun ls hl => ?_)
                refine lv_goto (tgt := 30) hx hb dX8_fewest_115 (by decide) ?_
                exact ih30 x1 (x2 + 1) σ3 _ _ _ hv hP hD hS (lv_sub hl [2, 3, 4, 5, 0] rfl)
              · have hv := hv.2 c15
                refine lv_aload_n hx hb dX8_fewest_89 rfl (lv_at hl 1 rfl) ?_
                refine lv_iload_n hx hb dX8_fewest_90 rfl (lv_at hl 2 rfl) ?_
                refine lv_iload_n hx hb dX8_fewest_91 rfl (lv_at hl 3 rfl) ?_
                refine lv_aload_n hx hb dX8_fewest_92 rfl (lv_at hl 1 rfl) ?_
                refine va_get (ci := 8) (v := .ref (ad 11)) (C := RX8) (T := TX8) (N := 5) hx hb hts hinX8 hown hK hP 0 (wC_0 cy ad σ3) rfl 2 (by decide) (hts (.fieldLink RX8 27 "TaleBans" "land" "LTaleBans$Steppe;") (List.mem_of_getElem? (i := 1) rfl)) (fun x h => h) rfl dX8_fewest_93 ?_
                refine va_getN (ci := 6) (v := .int (rdI σ3 3)) (C := RX6) (T := TX6) (N := 8) hx hb hts hinX6 hown hK hP 11 (wC_11 cy ad σ3) rfl 6 (by decide) (nw_12 hN) (fun x h => h) rfl dX8_fewest_96 ?_
                refine lv_iload hx hb dX8_fewest_99 (lv_at hl 5 rfl) ?_
                refine lv_ior hx hb dX8_fewest_101 ?_
                obtain ⟨g9, g10, g11, hv⟩ := hv
                obtain ⟨hp, hv⟩ := hv
                refine k_rel_i (w := wC cy ad) (va_runV (As := [.int deed_, .int season_, .int ((rdI σ3 3) ||| x2)]) (rest := []) ⟨hx, hb, hml, hown, hts⟩ (h_X8_isBannedIfPaid D cy ad A deed_ season_ ((rdI σ3 3) ||| x2) g9 g10 g11 σ3 hp) (cwV 3 hts gX8_fewest_X8_isBannedIfPaid rfl rfl rfl (by decide +kernel) ⟨le_R hRf (Nat.le_of_ble_eq_true rfl), le_R hRl (Nat.le_of_ble_eq_true rfl)⟩) ⟨(fun a U g mk q => ⟨q.1, q.2.blind⟩), va_recv hK hP (ci := 8) (q0 := 0) rfl (wC_0 cy ad σ3), (fun U hU hW => ⟨rfl, WdC.pre hP hK hD hN hU hW⟩)⟩ rfl rfl hl.1 rfl (lv_room (Nat.le_of_ble_eq_true rfl)) dX8_fewest_102 ⟨le_R hRc (Nat.le_refl 0), le_R hRs (Nat.le_refl 0)⟩) hS (fun r13 σ12 H locs hr1 hP hD hS => ?_)
                have hv := hv r13 σ12 hr1
                refine lv_if_ne (tgt := 112) hx hb dX8_fewest_105 (by decide) (fun c14 => ?_) (fun c14 => ?_)
                · have hv := hv.1 c14
                  refine lv_iinc (v := (x2 + 1)) (lv' := [(5, .int (x2 + 1)), (6, .int b6), (0, .ref (ad 0)), (1, .int deed_), (2, .int season_), (4, .int x1)]) hx hb dX8_fewest_112 hl (k := 5) rfl rfl (by decide) rfl (fun ls hl => ?_)
                  refine lv_goto (tgt := 30) hx hb dX8_fewest_115 (by decide) ?_
                  exact ih30 x1 (x2 + 1) σ12 _ _ _ hv hP hD hS (lv_sub hl [2, 3, 4, 5, 0] rfl)
                · have hv := hv.2 c14
                  refine lv_iload hx hb dX8_fewest_108 (lv_at hl 5 rfl) ?_
                  refine lv_istore (lv' := [(4, .int x2), (6, .int b6), (0, .ref (ad 0)), (1, .int deed_), (2, .int season_), (5, .int x2)]) hx hb dX8_fewest_110 hl (by decide) rfl (fun ls hl => ?_)
                  refine lv_iinc (v := (x2 + 1)) (lv' := [(5, .int (x2 + 1)), (4, .int x2), (6, .int b6), (0, .ref (ad 0)), (1, .int deed_), (2, .int season_)]) hx hb dX8_fewest_112 hl (k := 5) rfl rfl (by decide) rfl (fun ls hl => ?_)
                  refine lv_goto (tgt := 30) hx hb dX8_fewest_115 (by decide) ?_
                  exact ih30 x2 (x2 + 1) σ12 _ _ _ hv hP hD hS (lv_sub hl [3, 4, 5, 1, 0] rfl)
          refine lv_icmp_eq (tgt := 64) hx hb dX8_fewest_48 (by decide) (fun c8 => ?_) (fun c8 => ?_)
          · have hv := hv.1 c8
            refine lv_iconst (v := 1) hx hb dX8_fewest_64 (by decide) ?_
            refine lv_goto (tgt := 69) hx hb dX8_fewest_65 (by decide) ?_
            exact jn5 1 _ _ _ hv hP hS hl
          · have hv := hv.2 c8
            refine lv_iload hx hb dX8_fewest_51 (lv_at hl 4 rfl) ?_
            refine k_pure_i (va_runS (As := [.int x2]) (rest := []) ⟨hx, hb, hml, hown, hts⟩ (h_J6_bitCount_0f7a4 x2) (va_cwS 1 hts gX8_fewest_J6_bitCount_0f7a4 rfl rfl rfl (by decide +kernel) ⟨le_R hRf (Nat.le_of_ble_eq_true rfl), le_R hRl (Nat.le_of_ble_eq_true rfl)⟩) ⟨(fun a U g mk q => ⟨q.1, trivial⟩), (fun U hU hW => ⟨rfl, trivial⟩)⟩ rfl rfl hl.1 rfl (lv_room (Nat.le_of_ble_eq_true rfl)) dX8_fewest_53 ⟨le_R hRc (Nat.le_refl 0), le_R hRs (Nat.le_refl 0)⟩) hS hP (fun r H locs hr1 hP hS => ?_)
            subst hr1
            refine lv_iload hx hb dX8_fewest_56 (lv_at hl 3 rfl) ?_
            refine k_pure_i (va_runS (As := [.int x1]) (rest := [.int (fn_J6_bitCount_0f7a4 x2)]) ⟨hx, hb, hml, hown, hts⟩ (h_J6_bitCount_0f7a4 x1) (va_cwS 1 hts gX8_fewest_J6_bitCount_0f7a4 rfl rfl rfl (by decide +kernel) ⟨le_R hRf (Nat.le_of_ble_eq_true rfl), le_R hRl (Nat.le_of_ble_eq_true rfl)⟩) ⟨(fun a U g mk q => ⟨q.1, trivial⟩), (fun U hU hW => ⟨rfl, trivial⟩)⟩ rfl rfl hl.1 rfl (lv_room (Nat.le_of_ble_eq_true rfl)) dX8_fewest_58 ⟨le_R hRc (Nat.le_refl 0), le_R hRs (Nat.le_refl 0)⟩) hS hP (fun r H locs hr1 hP hS => ?_)
            subst hr1
            refine lv_icmp_ge (tgt := 68) hx hb dX8_fewest_61 (by decide) (fun c7 => ?_) (fun c7 => ?_)
            · have hv := hv.1 c7
              refine lv_iconst (v := 0) hx hb dX8_fewest_68 (by decide) ?_
              exact jn5 0 _ _ _ hv hP hS hl
            · have hv := hv.2 c7
              refine lv_iconst (v := 1) hx hb dX8_fewest_64 (by decide) ?_
              refine lv_goto (tgt := 69) hx hb dX8_fewest_65 (by decide) ?_
              exact jn5 1 _ _ _ hv hP hS hl
    exact lp30 n30 (-9) 0 σ0 _ _ _ hv hP hD hS (lv_sub hl [3, 4, 5, 1, 0] rfl)
  · have hv := hv.2 c18
    refine lv_iload_n hx hb dX8_fewest_21 rfl (lv_at hl 0 rfl) ?_
    rw [hZ]; rw [hQ] at hv
    exact W.iret (v := (fn_X8_refusal (fn_X8_isOneOf deed_ 6) (fn_X8_isOneOf season_ 40) σ0)) hx hb hr (fun t ht hW => ⟨⟨(fn_X8_refusal (fn_X8_isOneOf deed_ 6) (fn_X8_isOneOf season_ 40) σ0), σ0, rfl, hv, ⟨P_of ht hP, hD⟩⟩, hS.F ht⟩) hS.2.2 dX8_fewest_22
set_option maxHeartbeats 4000000 in
set_option maxRecDepth 100000 in
theorem wk_X8_longest (l : Launch) (h_X3_add : Ct_X3_add l) (h_X3_set : Ct_X3_set l) (h_X3_takeBack : Ct_X3_takeBack l) (h_X6_isEmpty : Ct_X6_isEmpty l) (h_X8_deathOf : Ct_X8_deathOf l) (h_X8_isOneOf : Ct_X8_isOneOf l) (sp : Sp_X8_longest) : Ct_X8_longest l := by
  intro D cy ad A season_ what_ ag σ0  hpre
  refine Met.ofW (cc := cX8_longest) (maxL := 9) (ret := (some .int)) (by decide) rfl ?_
  intro p e s m args below meth c s₁ B hml hv0
  obtain ⟨rfl, hP, hK, hD, hN⟩ := hv0
  have hx := B.exec
  have hb := B.bytes
  have hr := B.returns
  have hts := atoms_spec (ws := wsX8_longest) B.pre
  have hown : s.vm.findClass RX8 = some m.cls := findClass_of_methodNamed B.named
  have hlocks := B.notSynchronized
  have hv := sp season_ what_ ag σ0 hpre
  have hl := lv_entry ([.ref (ad 0), .int season_, .int what_]) (n := 9) (Nat.le_of_ble_eq_true rfl)
  rw [lg_entry_eq]
  generalize (lg_sl ([.ref (ad 0), .int season_, .int what_]) ++ List.replicate (9 - (lg_sl ([.ref (ad 0), .int season_, .int what_])).length) Slot.unset).toArray = ls at hl ⊢
  have hl : lv_has ls 9 [(0, .ref (ad 0)), (1, .int season_), (2, .int what_)] := hl
  refine W_gen (fun R Z H locs hR hZ hH hlo => ?_)
  have hRf : R.frames = 5 := by rw [hR]; rfl
  have hRl : R.locals = 114 := by rw [hR]; rfl
  have hRc : R.cells = 0 := by rw [hR]; rfl
  have hRs : R.slots = 0 := by rw [hR]; rfl
  have hS : va_S A s.heap H locs := by rw [hH, hlo]; exact va_S.rf
  rw [← hH] at hP
  obtain ⟨Q, hQ⟩ : ∃ q : Int32 → S_ → Prop, q = (post_X8_longest season_ what_ ag σ0) := ⟨_, rfl⟩
  rw [← hQ] at hv
  have hinX6 : ∀ w ∈ wsX60, w ∈ wsX8_longest := by decide +kernel
  have hinX8 : ∀ w ∈ wsX80, w ∈ wsX8_longest := by decide +kernel
  refine lv_iload_n hx hb dX8_longest_0 rfl (lv_at hl 1 rfl) ?_
  refine lv_bipush (v := 40) hx hb dX8_longest_1 (by decide) ?_
  refine k_pure_i (va_runS (As := [.int season_, .int 40]) (rest := []) ⟨hx, hb, hml, hown, hts⟩ (h_X8_isOneOf season_ 40) (va_cwS 2 hts gX8_longest_X8_isOneOf rfl rfl rfl (by decide +kernel) ⟨le_R hRf (Nat.le_of_ble_eq_true rfl), le_R hRl (Nat.le_of_ble_eq_true rfl)⟩) ⟨(fun a U g mk q => ⟨q.1, trivial⟩), (fun U hU hW => ⟨rfl, trivial⟩)⟩ rfl rfl hl.1 rfl (lv_room (Nat.le_of_ble_eq_true rfl)) dX8_longest_3 ⟨le_R hRc (Nat.le_refl 0), le_R hRs (Nat.le_refl 0)⟩) hS hP (fun r H locs hr1 hP hS => ?_)
  subst hr1
  refine lv_if_eq (tgt := 17) hx hb dX8_longest_6 (by decide) (fun c25 => ?_) (fun c25 => ?_)
  · have hv := hv.1 c25
    refine lv_bipush (v := (-2)) hx hb dX8_longest_17 (by decide) ?_
    rw [hZ]; rw [hQ] at hv
    exact W.iret (v := (-2)) hx hb hr (fun t ht hW => ⟨⟨(-2), σ0, rfl, hv, ⟨P_of ht hP, hD⟩⟩, hS.F ht⟩) hS.2.2 dX8_longest_19
  · have hv := hv.2 c25
    refine lv_iload_n hx hb dX8_longest_9 rfl (lv_at hl 2 rfl) ?_
    refine lv_iconst (v := 2) hx hb dX8_longest_10 (by decide) ?_
    refine k_pure_i (va_runS (As := [.int what_, .int 2]) (rest := []) ⟨hx, hb, hml, hown, hts⟩ (h_X8_isOneOf what_ 2) (va_cwS 2 hts gX8_longest_X8_isOneOf rfl rfl rfl (by decide +kernel) ⟨le_R hRf (Nat.le_of_ble_eq_true rfl), le_R hRl (Nat.le_of_ble_eq_true rfl)⟩) ⟨(fun a U g mk q => ⟨q.1, trivial⟩), (fun U hU hW => ⟨rfl, trivial⟩)⟩ rfl rfl hl.1 rfl (lv_room (Nat.le_of_ble_eq_true rfl)) dX8_longest_11 ⟨le_R hRc (Nat.le_refl 0), le_R hRs (Nat.le_refl 0)⟩) hS hP (fun r H locs hr1 hP hS => ?_)
    subst hr1
    refine lv_if_ne (tgt := 20) hx hb dX8_longest_14 (by decide) (fun c24 => ?_) (fun c24 => ?_)
    · have hv := hv.1 c24
      refine lv_aload_n hx hb dX8_longest_20 rfl (lv_at hl 0 rfl) ?_
      refine va_get (ci := 8) (v := .ref (ad 11)) (C := RX8) (T := TX8) (N := 5) hx hb hts hinX8 hown hK hP 0 (wC_0 cy ad σ0) rfl 2 (by decide) (hts (.fieldLink RX8 27 "TaleBans" "land" "LTaleBans$Steppe;") (List.mem_of_getElem? (i := 1) rfl)) (fun x h => h) rfl dX8_longest_21 ?_
      have hp := True.intro
      refine k_read_i (w := wC cy ad) (va_runVN (As := []) (rest := []) ⟨hx, hb, hml, hown, hts⟩ (h_X6_isEmpty D cy ad A σ0 hp) ⟨va_cnB 0 hts gX8_longest_X6_isEmpty_n124 rfl rfl rfl (nwm_37 hN) (hts (.initialized RX6) (List.mem_of_getElem? (i := 7) rfl)) (by decide +kernel) ⟨le_R hRf (Nat.le_of_ble_eq_true rfl), le_R hRl (Nat.le_of_ble_eq_true rfl)⟩, (hts (.instanceMethod yX6_isEmpty) (List.mem_of_getElem? (i := 6) rfl)), (hts (.selects RX6 yX6_isEmpty yX6_isEmpty) (List.mem_of_getElem? (i := 8) rfl))⟩ ⟨(fun a U g mk q => ⟨q.1, q.2.blind⟩), va_recv hK hP (ci := 6) (q0 := 11) rfl (wC_11 cy ad σ0), (fun U hU hW => ⟨rfl, WdC.pre hP hK hD hN hU hW⟩)⟩ rfl rfl hl.1 rfl (lv_room (Nat.le_of_ble_eq_true rfl)) dX8_longest_24 ⟨le_R hRc (Nat.le_refl 0), le_R hRs (Nat.le_refl 0)⟩) hS (fun r H locs hr1 hP hS => ?_)
      subst hr1
      refine lv_if_eq (tgt := 33) hx hb dX8_longest_27 (by decide) (fun c23 => ?_) (fun c23 => ?_)
      · have hv := hv.1 c23
        refine lv_aload_n hx hb dX8_longest_33 rfl (lv_at hl 0 rfl) ?_
        refine va_get (ci := 8) (v := .ref (ad 11)) (C := RX8) (T := TX8) (N := 5) hx hb hts hinX8 hown hK hP 0 (wC_0 cy ad σ0) rfl 2 (by decide) (hts (.fieldLink RX8 27 "TaleBans" "land" "LTaleBans$Steppe;") (List.mem_of_getElem? (i := 1) rfl)) (fun x h => h) rfl dX8_longest_34 ?_
        refine va_getN (ci := 6) (v := .ref (ad (13))) (C := RX6) (T := TX6) (N := 8) hx hb hts hinX6 hown hK hP 11 (wC_11 cy ad σ0) rfl 1 (by decide) (nw_5 hN) (fun x h => h) rfl dX8_longest_37 ?_
        refine lv_iconst (v := 0) hx hb dX8_longest_40 (by decide) ?_
        refine lv_iload_n hx hb dX8_longest_41 rfl (lv_at hl 1 rfl) ?_
        refine lv_iconst (v := 0) hx hb dX8_longest_42 (by decide) ?_
        refine lv_iconst (v := 0) hx hb dX8_longest_43 (by decide) ?_
        obtain ⟨hp, hv⟩ := hv
        refine k_rel_i (w := wC cy ad) (va_runVN (As := [.int 0, .int season_, .int 0, .int 0]) (rest := []) ⟨hx, hb, hml, hown, hts⟩ (h_X3_add D cy ad A 0 0 season_ 0 0 σ0 (show 0 < 4 by decide) hp) ⟨va_cnB 4 hts gX8_longest_X3_add_n105 rfl rfl rfl (nwm_38 hN) (hts (.initialized RX3) (List.mem_of_getElem? (i := 12) rfl)) (by decide +kernel) ⟨le_R hRf (Nat.le_of_ble_eq_true rfl), le_R hRl (Nat.le_of_ble_eq_true rfl)⟩, (hts (.instanceMethod yX3_add) (List.mem_of_getElem? (i := 11) rfl)), (hts (.selects RX3 yX3_add yX3_add) (List.mem_of_getElem? (i := 13) rfl))⟩ ⟨(fun a U g mk q => ⟨q.1, q.2.blind⟩), va_recv hK hP (ci := 3) (q0 := 13) rfl (wC_13 cy ad σ0), (fun U hU hW => ⟨rfl, WdC.pre hP hK hD hN hU hW⟩)⟩ rfl rfl hl.1 rfl (lv_room (Nat.le_of_ble_eq_true rfl)) dX8_longest_44 ⟨le_R hRc (Nat.le_refl 0), le_R hRs (Nat.le_refl 0)⟩) hS (fun r2 σ1 H locs hr1 hP hD hS => ?_)
        have hv := hv r2 σ1 hr1
        refine lv_istore_n (lv' := [(3, .int r2), (0, .ref (ad 0)), (1, .int season_), (2, .int what_)]) hx hb dX8_longest_47 rfl hl (by decide) rfl (fun ls hl => ?_)
        refine lv_iload_n hx hb dX8_longest_48 rfl (lv_at hl 0 rfl) ?_
        refine lv_bipush (v := (-4)) hx hb dX8_longest_49 (by decide) ?_
        refine lv_icmp_ne (tgt := 57) hx hb dX8_longest_51 (by decide) (fun c22 => ?_) (fun c22 => ?_)
        · have hv := hv.1 c22
          refine lv_iconst (v := 0) hx hb dX8_longest_57 (by decide) ?_
          refine lv_istore (lv' := [(4, .int 0), (3, .int r2), (0, .ref (ad 0)), (1, .int season_), (2, .int what_)]) hx hb dX8_longest_58 hl (by decide) rfl (fun ls hl => ?_)
          refine lv_iconst (v := 0) hx hb dX8_longest_60 (by decide) ?_
          refine lv_istore (lv' := [(5, .int 0), (4, .int 0), (3, .int r2), (0, .ref (ad 0)), (1, .int season_), (2, .int what_)]) hx hb dX8_longest_61 hl (by decide) rfl (fun ls hl => ?_)
          refine lv_iconst (v := 0) hx hb dX8_longest_63 (by decide) ?_
          refine lv_istore (lv' := [(6, .int 0), (5, .int 0), (4, .int 0), (3, .int r2), (0, .ref (ad 0)), (1, .int season_), (2, .int what_)]) hx hb dX8_longest_64 hl (by decide) rfl (fun ls hl => ?_)
          obtain ⟨n66, hv⟩ := hv
          have lp66 : ∀ (nn66 : Nat) (x3 : Int32) (x4 : Int32) (x5 : Int32) (σ6 : S_) (H : Heap) (locs : List Loc) (ls : Array Slot), vl_X8_longest_66 what_ r2 Q nn66 x3 x4 x5 σ6 → va_P D vwCl (wC cy ad σ6) H → va_D A (wC cy ad σ6) → va_S A s.heap H locs → lv_has ls 9 [(0, .ref (ad 0)), (2, .int what_), (3, .int r2), (4, .int x3), (5, .int x4), (6, .int x5)] → W p l e R s m ([.ref (ad 0), .int season_, .int what_] : List Value).toArray  below meth c H locs 0 0 Z (F0 m 66 ls []) := by
            intro nn66
            induction nn66 with
            | zero => intro x3 x4 x5 σ6 H locs ls hv; exact absurd hv id
            | succ mm66 ih66 =>
              intro x3 x4 x5 σ6 H locs ls hv hP hD hS hl
              refine lv_iload hx hb dX8_longest_66 (lv_at hl 5 rfl) ?_
              refine lv_aload_n hx hb dX8_longest_68 rfl (lv_at hl 0 rfl) ?_
              refine va_get (ci := 8) (v := .ref (ad 11)) (C := RX8) (T := TX8) (N := 5) hx hb hts hinX8 hown hK hP 0 (wC_0 cy ad σ6) rfl 2 (by decide) (hts (.fieldLink RX8 27 "TaleBans" "land" "LTaleBans$Steppe;") (List.mem_of_getElem? (i := 1) rfl)) (fun x h => h) rfl dX8_longest_69 ?_
              refine va_getN (ci := 6) (v := .int (rdI σ6 2)) (C := RX6) (T := TX6) (N := 8) hx hb hts hinX6 hown hK hP 11 (wC_11 cy ad σ6) rfl 5 (by decide) (nw_11 hN) (fun x h => h) rfl dX8_longest_72 ?_
              refine lv_icmp_ge (tgt := 136) hx hb dX8_longest_75 (by decide) (fun c21 => ?_) (fun c21 => ?_)
              · have hv := hv.1 c21
                refine lv_aload_n hx hb dX8_longest_136 rfl (lv_at hl 0 rfl) ?_
                refine va_get (ci := 8) (v := .ref (ad 11)) (C := RX8) (T := TX8) (N := 5) hx hb hts hinX8 hown hK hP 0 (wC_0 cy ad σ6) rfl 2 (by decide) (hts (.fieldLink RX8 27 "TaleBans" "land" "LTaleBans$Steppe;") (List.mem_of_getElem? (i := 1) rfl)) (fun x h => h) rfl dX8_longest_137 ?_
                refine va_getN (ci := 6) (v := .ref (ad (13))) (C := RX6) (T := TX6) (N := 8) hx hb hts hinX6 hown hK hP 11 (wC_11 cy ad σ6) rfl 1 (by decide) (nw_5 hN) (fun x h => h) rfl dX8_longest_140 ?_
                refine lv_iconst (v := 1) hx hb dX8_longest_143 (by decide) ?_
                have hp := True.intro
                refine k_rel_i (w := wC cy ad) (va_runVN (As := [.int 1]) (rest := []) ⟨hx, hb, hml, hown, hts⟩ (h_X3_takeBack D cy ad A 0 1 σ6 (show 0 < 4 by decide) hp) ⟨va_cnB 1 hts gX8_longest_X3_takeBack_n111 rfl rfl rfl (nwm_40 hN) (hts (.initialized RX3) (List.mem_of_getElem? (i := 12) rfl)) (by decide +kernel) ⟨le_R hRf (Nat.le_of_ble_eq_true rfl), le_R hRl (Nat.le_of_ble_eq_true rfl)⟩, (hts (.instanceMethod yX3_takeBack) (List.mem_of_getElem? (i := 119) rfl)), (hts (.selects RX3 yX3_takeBack yX3_takeBack) (List.mem_of_getElem? (i := 120) rfl))⟩ ⟨(fun a U g mk q => ⟨q.1, q.2.blind⟩), va_recv hK hP (ci := 3) (q0 := 13) rfl (wC_13 cy ad σ6), (fun U hU hW => ⟨rfl, WdC.pre hP hK hD hN hU hW⟩)⟩ rfl rfl hl.1 rfl (lv_room (Nat.le_of_ble_eq_true rfl)) dX8_longest_144 ⟨le_R hRc (Nat.le_refl 0), le_R hRs (Nat.le_refl 0)⟩) hS (fun r8 σ7 H locs hr1 hP hD hS => ?_)
                have hv := hv r8 σ7 hr1
                refine lv_pop hx hb dX8_longest_147 rfl ?_
                refine lv_iload_n hx hb dX8_longest_148 rfl (lv_at hl 1 rfl) ?_
                refine lv_if_ne (tgt := 155) hx hb dX8_longest_149 (by decide) (fun c10 => ?_) (fun c10 => ?_)
                · have hv := hv.1 c10
                  refine lv_iload hx hb dX8_longest_155 (lv_at hl 4 rfl) ?_
                  refine lv_bipush (v := 40) hx hb dX8_longest_157 (by decide) ?_
                  refine lv_icmp_ne (tgt := 167) hx hb dX8_longest_159 (by decide) (fun c9 => ?_) (fun c9 => ?_)
                  · have hv := hv.1 c9
                    refine lv_iload hx hb dX8_longest_167 (lv_at hl 4 rfl) ?_
                    rw [hZ]; rw [hQ] at hv
                    exact W.iret (v := x4) hx hb hr (fun t ht hW => ⟨⟨x4, σ7, rfl, hv, ⟨P_of ht hP, hD⟩⟩, hS.F ht⟩) hS.2.2 dX8_longest_169
                  · have hv := hv.2 c9
                    refine lv_bipush (v := (-9)) hx hb dX8_longest_162 (by decide) ?_
                    refine lv_goto (tgt := 169) hx hb dX8_longest_164 (by decide) ?_
                    rw [hZ]; rw [hQ] at hv
                    exact W.iret (v := (-9)) hx hb hr (fun t ht hW => ⟨⟨(-9), σ7, rfl, hv, ⟨P_of ht hP, hD⟩⟩, hS.F ht⟩) hS.2.2 dX8_longest_169
                · have hv := hv.2 c10
                  refine lv_iload hx hb dX8_longest_152 (lv_at hl 3 rfl) ?_
                  rw [hZ]; rw [hQ] at hv
                  exact W.iret (v := x3) hx hb hr (fun t ht hW => ⟨⟨x3, σ7, rfl, hv, ⟨P_of ht hP, hD⟩⟩, hS.F ht⟩) hS.2.2 dX8_longest_154
              · have hv := hv.2 c21
                refine lv_aload_n hx hb dX8_longest_78 rfl (lv_at hl 0 rfl) ?_
                refine va_get (ci := 8) (v := .ref (ad 11)) (C := RX8) (T := TX8) (N := 5) hx hb hts hinX8 hown hK hP 0 (wC_0 cy ad σ6) rfl 2 (by decide) (hts (.fieldLink RX8 27 "TaleBans" "land" "LTaleBans$Steppe;") (List.mem_of_getElem? (i := 1) rfl)) (fun x h => h) rfl dX8_longest_79 ?_
                refine va_getN (ci := 6) (v := .ref (ad (13))) (C := RX6) (T := TX6) (N := 8) hx hb hts hinX6 hown hK hP 11 (wC_11 cy ad σ6) rfl 1 (by decide) (nw_5 hN) (fun x h => h) rfl dX8_longest_82 ?_
                refine lv_iload_n hx hb dX8_longest_85 rfl (lv_at hl 2 rfl) ?_
                refine lv_iconst (v := 0) hx hb dX8_longest_86 (by decide) ?_
                refine lv_iload hx hb dX8_longest_87 (lv_at hl 5 rfl) ?_
                obtain ⟨hp, hv⟩ := hv
                refine k_rel_v (w := wC cy ad) (va_runVN (As := [.int r2, .int 0, .int x5]) (rest := []) ⟨hx, hb, hml, hown, hts⟩ (h_X3_set D cy ad A 0 r2 0 x5 σ6 (show 0 < 4 by decide) hp) ⟨va_cnB 3 hts gX8_longest_X3_set_n139 rfl rfl rfl (nwm_44 hN) (hts (.initialized RX3) (List.mem_of_getElem? (i := 12) rfl)) (by decide +kernel) ⟨le_R hRf (Nat.le_of_ble_eq_true rfl), le_R hRl (Nat.le_of_ble_eq_true rfl)⟩, (hts (.instanceMethod yX3_set) (List.mem_of_getElem? (i := 18) rfl)), (hts (.selects RX3 yX3_set yX3_set) (List.mem_of_getElem? (i := 19) rfl))⟩ ⟨(fun a U g mk q => ⟨q.1, q.2.blind⟩), va_recv hK hP (ci := 3) (q0 := 13) rfl (wC_13 cy ad σ6), (fun U hU hW => ⟨rfl, WdC.pre hP hK hD hN hU hW⟩)⟩ rfl rfl hl.1 rfl (lv_room (Nat.le_of_ble_eq_true rfl)) dX8_longest_89 ⟨le_R hRc (Nat.le_refl 0), le_R hRs (Nat.le_refl 0)⟩) hS (fun σ11 H locs hr1 hP hD hS => ?_)
                have hv := hv σ11 hr1
                refine lv_aload_n hx hb dX8_longest_92 rfl (lv_at hl 0 rfl) ?_
                refine lv_iload_n hx hb dX8_longest_93 rfl (lv_at hl 2 rfl) ?_
                obtain ⟨g12, g13, hv⟩ := hv
                obtain ⟨hp, hv⟩ := hv
                refine k_rel_i (w := wC cy ad) (va_runV (As := [.int r2]) (rest := []) ⟨hx, hb, hml, hown, hts⟩ (h_X8_deathOf D cy ad A r2 g12 g13 σ11 hp) (cwV 1 hts gX8_longest_X8_deathOf rfl rfl rfl (by decide +kernel) ⟨le_R hRf (Nat.le_of_ble_eq_true rfl), le_R hRl (Nat.le_of_ble_eq_true rfl)⟩) ⟨(fun a U g mk q => ⟨q.1, q.2.blind⟩), va_recv hK hP (ci := 8) (q0 := 0) rfl (wC_0 cy ad σ11), (fun U hU hW => ⟨rfl, WdC.pre hP hK hD hN hU hW⟩)⟩ rfl rfl hl.1 rfl (lv_room (Nat.le_of_ble_eq_true rfl)) dX8_longest_94 ⟨le_R hRc (Nat.le_refl 0), le_R hRs (Nat.le_refl 0)⟩) hS (fun r15 σ14 H locs hr1 hP hD hS => ?_)
                have hv := hv r15 σ14 hr1
                refine lv_istore (lv' := [(7, .int r15), (0, .ref (ad 0)), (2, .int what_), (3, .int r2), (4, .int x3), (5, .int x4), (6, .int x5)]) hx hb dX8_longest_97 hl (by decide) rfl (fun ls hl => ?_)
                refine lv_iload hx hb dX8_longest_99 (lv_at hl 0 rfl) ?_
                refine lv_bipush (v := (-9)) hx hb dX8_longest_101 (by decide) ?_
                obtain ⟨P16, hv, hvr⟩ := hv
                have jn17 : ∀ (b18 : Int32) (H : Heap) (locs : List Loc) (ls : Array Slot), P16 b18 → va_P D vwCl (wC cy ad σ14) H → va_S A s.heap H locs → lv_has ls 9 [(7, .int r15), (0, .ref (ad 0)), (2, .int what_), (3, .int r2), (4, .int x3), (5, .int x4), (6, .int x5)] → W p l e R s m ([.ref (ad 0), .int season_, .int what_] : List Value).toArray below meth c H locs 0 0 Z (F0 m 113 ls [.int b18]) := by
                  intro b18 H locs ls hv hP hS hl
                  have hv := hvr b18 hv
                  refine lv_istore (lv' := [(8, .int b18), (7, .int r15), (0, .ref (ad 0)), (2, .int what_), (3, .int r2), (4, .int x3), (5, .int x4), (6, .int x5)]) hx hb dX8_longest_113 hl (by decide) rfl (fun ls hl => ?_)
                  refine lv_iload hx hb dX8_longest_115 (lv_at hl 0 rfl) ?_
                  refine lv_iload hx hb dX8_longest_117 (lv_at hl 6 rfl) ?_
                  refine lv_icmp_le (tgt := 130) hx hb dX8_longest_119 (by decide) (fun c20 => ?_) (fun c20 => ?_)
                  · have hv := hv.1 c20
                    refine lv_iinc (v := (x5 + 1)) (lv' := [(6, .int (x5 + 1)), (8, .int b18), (7, .int r15), (0, .ref (ad 0)), (2, .int what_), (3, .int r2), (4, .int x3), (5, .int x4)]) hx hb dX8_longest_130 hl (k := 7) rfl rfl (by decide) rfl (fun ls hl => ?_)
                    refine lv_goto (tgt := 66) hx hb dX8_longest_133 (by decide) ?_
                    exact ih66 x3 x4 (x5 + 1) σ14 _ _ _ hv hP hD hS (lv_sub hl [3, 4, 5, 6, 7, 0] rfl)
                  · have hv := hv.2 c20
                    refine lv_iload hx hb dX8_longest_122 (lv_at hl 7 rfl) ?_
                    refine lv_istore (lv' := [(4, .int x5), (8, .int b18), (7, .int r15), (0, .ref (ad 0)), (2, .int what_), (3, .int r2), (5, .int x4), (6, .int x5)]) hx hb dX8_longest_124 hl (by decide) rfl (fun ls hl => ?_)
                    refine lv_iload hx hb dX8_longest_126 (lv_at hl 1 rfl) ?_
                    refine lv_istore (lv' := [(5, .int b18), (4, .int x5), (8, .int b18), (7, .int r15), (0, .ref (ad 0)), (2, .int what_), (3, .int r2), (6, .int x5)]) hx hb dX8_longest_128 hl (by decide) rfl (fun ls hl => ?_)
                    refine lv_iinc (v := (x5 + 1)) (lv' := [(6, .int (x5 + 1)), (5, .int b18), (4, .int x5), (8, .int b18), (7, .int r15), (0, .ref (ad 0)), (2, .int what_), (3, .int r2)]) hx hb dX8_longest_130 hl (k := 7) rfl rfl (by decide) rfl (fun ls hl => ?_)
                    refine lv_goto (tgt := 66) hx hb dX8_longest_133 (by decide) ?_
                    exact ih66 x5 b18 (x5 + 1) σ14 _ _ _ hv hP hD hS (lv_sub hl [5, 6, 7, 2, 1, 0] rfl)
                refine lv_icmp_ne (tgt := 111) hx hb dX8_longest_103 (by decide) (fun c19 => ?_) (fun c19 => ?_)
                · have hv := hv.1 c19
                  refine lv_iload hx hb dX8_longest_111 (lv_at hl 0 rfl) ?_
                  exact jn17 r15 _ _ _ hv hP hS hl
                · have hv := hv.2 c19
                  refine lv_bipush (v := 40) hx hb dX8_longest_106 (by decide) ?_
                  refine lv_goto (tgt := 113) hx hb dX8_longest_108 (by decide) ?_
                  exact jn17 40 _ _ _ hv hP hS hl
          exact lp66 n66 0 0 0 σ1 _ _ _ hv hP hD hS (lv_sub hl [4, 6, 3, 2, 1, 0] rfl)
        · have hv := hv.2 c22
          refine lv_bipush (v := (-4)) hx hb dX8_longest_54 (by decide) ?_
          rw [hZ]; rw [hQ] at hv
          exact W.iret (v := (-4)) hx hb hr (fun t ht hW => ⟨⟨(-4), σ1, rfl, hv, ⟨P_of ht hP, hD⟩⟩, hS.F ht⟩) hS.2.2 dX8_longest_56
      · have hv := hv.2 c23
        refine lv_bipush (v := (-3)) hx hb dX8_longest_30 (by decide) ?_
        rw [hZ]; rw [hQ] at hv
        exact W.iret (v := (-3)) hx hb hr (fun t ht hW => ⟨⟨(-3), σ0, rfl, hv, ⟨P_of ht hP, hD⟩⟩, hS.F ht⟩) hS.2.2 dX8_longest_32
    · have hv := hv.2 c24
      refine lv_bipush (v := (-2)) hx hb dX8_longest_17 (by decide) ?_
      rw [hZ]; rw [hQ] at hv
      exact W.iret (v := (-2)) hx hb hr (fun t ht hW => ⟨⟨(-2), σ0, rfl, hv, ⟨P_of ht hP, hD⟩⟩, hS.F ht⟩) hS.2.2 dX8_longest_19
set_option maxHeartbeats 4000000 in
set_option maxRecDepth 100000 in
theorem wk_X8_need (l : Launch) (h_X3_add : Ct_X3_add l) (h_X6_isEmpty : Ct_X6_isEmpty l) (h_X8_isOneOf : Ct_X8_isOneOf l) (sp : Sp_X8_need) : Ct_X8_need l := by
  intro D cy ad A deed_ other_ ag σ0  hpre
  refine Met.ofW (cc := cX8_need) (maxL := 3) (ret := (some .int)) (by decide) rfl ?_
  intro p e s m args below meth c s₁ B hml hv0
  obtain ⟨rfl, hP, hK, hD, hN⟩ := hv0
  have hx := B.exec
  have hb := B.bytes
  have hr := B.returns
  have hts := atoms_spec (ws := wsX8_need) B.pre
  have hown : s.vm.findClass RX8 = some m.cls := findClass_of_methodNamed B.named
  have hlocks := B.notSynchronized
  have hv := sp deed_ other_ ag σ0 hpre
  have hl := lv_entry ([.ref (ad 0), .int deed_, .int other_]) (n := 3) (Nat.le_of_ble_eq_true rfl)
  rw [lg_entry_eq]
  generalize (lg_sl ([.ref (ad 0), .int deed_, .int other_]) ++ List.replicate (3 - (lg_sl ([.ref (ad 0), .int deed_, .int other_])).length) Slot.unset).toArray = ls at hl ⊢
  have hl : lv_has ls 3 [(0, .ref (ad 0)), (1, .int deed_), (2, .int other_)] := hl
  refine W_gen (fun R Z H locs hR hZ hH hlo => ?_)
  have hRf : R.frames = 3 := by rw [hR]; rfl
  have hRl : R.locals = 68 := by rw [hR]; rfl
  have hRc : R.cells = 0 := by rw [hR]; rfl
  have hRs : R.slots = 0 := by rw [hR]; rfl
  have hS : va_S A s.heap H locs := by rw [hH, hlo]; exact va_S.rf
  rw [← hH] at hP
  obtain ⟨Q, hQ⟩ : ∃ q : Int32 → S_ → Prop, q = (post_X8_need deed_ other_ ag σ0) := ⟨_, rfl⟩
  rw [← hQ] at hv
  have hinX6 : ∀ w ∈ wsX60, w ∈ wsX8_need := by decide +kernel
  have hinX8 : ∀ w ∈ wsX80, w ∈ wsX8_need := by decide +kernel
  refine lv_iload_n hx hb dX8_need_0 rfl (lv_at hl 1 rfl) ?_
  refine lv_bipush (v := 6) hx hb dX8_need_1 (by decide) ?_
  refine k_pure_i (va_runS (As := [.int deed_, .int 6]) (rest := []) ⟨hx, hb, hml, hown, hts⟩ (h_X8_isOneOf deed_ 6) (va_cwS 2 hts gX8_need_X8_isOneOf rfl rfl rfl (by decide +kernel) ⟨le_R hRf (Nat.le_of_ble_eq_true rfl), le_R hRl (Nat.le_of_ble_eq_true rfl)⟩) ⟨(fun a U g mk q => ⟨q.1, trivial⟩), (fun U hU hW => ⟨rfl, trivial⟩)⟩ rfl rfl hl.1 rfl (lv_room (Nat.le_of_ble_eq_true rfl)) dX8_need_3 ⟨le_R hRc (Nat.le_refl 0), le_R hRs (Nat.le_refl 0)⟩) hS hP (fun r H locs hr1 hP hS => ?_)
  subst hr1
  refine lv_if_eq (tgt := 18) hx hb dX8_need_6 (by decide) (fun c5 => ?_) (fun c5 => ?_)
  · have hv := hv.1 c5
    refine lv_iconst (v := (-1)) hx hb dX8_need_18 (by decide) ?_
    rw [hZ]; rw [hQ] at hv
    exact W.iret (v := (-1)) hx hb hr (fun t ht hW => ⟨⟨(-1), σ0, rfl, hv, ⟨P_of ht hP, hD⟩⟩, hS.F ht⟩) hS.2.2 dX8_need_19
  · have hv := hv.2 c5
    refine lv_iload_n hx hb dX8_need_9 rfl (lv_at hl 2 rfl) ?_
    refine lv_bipush (v := 6) hx hb dX8_need_10 (by decide) ?_
    refine k_pure_i (va_runS (As := [.int other_, .int 6]) (rest := []) ⟨hx, hb, hml, hown, hts⟩ (h_X8_isOneOf other_ 6) (va_cwS 2 hts gX8_need_X8_isOneOf rfl rfl rfl (by decide +kernel) ⟨le_R hRf (Nat.le_of_ble_eq_true rfl), le_R hRl (Nat.le_of_ble_eq_true rfl)⟩) ⟨(fun a U g mk q => ⟨q.1, trivial⟩), (fun U hU hW => ⟨rfl, trivial⟩)⟩ rfl rfl hl.1 rfl (lv_room (Nat.le_of_ble_eq_true rfl)) dX8_need_12 ⟨le_R hRc (Nat.le_refl 0), le_R hRs (Nat.le_refl 0)⟩) hS hP (fun r H locs hr1 hP hS => ?_)
    subst hr1
    refine lv_if_ne (tgt := 20) hx hb dX8_need_15 (by decide) (fun c4 => ?_) (fun c4 => ?_)
    · have hv := hv.1 c4
      refine lv_aload_n hx hb dX8_need_20 rfl (lv_at hl 0 rfl) ?_
      refine va_get (ci := 8) (v := .ref (ad 11)) (C := RX8) (T := TX8) (N := 5) hx hb hts hinX8 hown hK hP 0 (wC_0 cy ad σ0) rfl 2 (by decide) (hts (.fieldLink RX8 27 "TaleBans" "land" "LTaleBans$Steppe;") (List.mem_of_getElem? (i := 1) rfl)) (fun x h => h) rfl dX8_need_21 ?_
      have hp := True.intro
      refine k_read_i (w := wC cy ad) (va_runVN (As := []) (rest := []) ⟨hx, hb, hml, hown, hts⟩ (h_X6_isEmpty D cy ad A σ0 hp) ⟨va_cnB 0 hts gX8_need_X6_isEmpty_n124 rfl rfl rfl (nwm_37 hN) (hts (.initialized RX6) (List.mem_of_getElem? (i := 7) rfl)) (by decide +kernel) ⟨le_R hRf (Nat.le_of_ble_eq_true rfl), le_R hRl (Nat.le_of_ble_eq_true rfl)⟩, (hts (.instanceMethod yX6_isEmpty) (List.mem_of_getElem? (i := 6) rfl)), (hts (.selects RX6 yX6_isEmpty yX6_isEmpty) (List.mem_of_getElem? (i := 8) rfl))⟩ ⟨(fun a U g mk q => ⟨q.1, q.2.blind⟩), va_recv hK hP (ci := 6) (q0 := 11) rfl (wC_11 cy ad σ0), (fun U hU hW => ⟨rfl, WdC.pre hP hK hD hN hU hW⟩)⟩ rfl rfl hl.1 rfl (lv_room (Nat.le_of_ble_eq_true rfl)) dX8_need_24 ⟨le_R hRc (Nat.le_refl 0), le_R hRs (Nat.le_refl 0)⟩) hS (fun r H locs hr1 hP hS => ?_)
      subst hr1
      refine lv_if_eq (tgt := 33) hx hb dX8_need_27 (by decide) (fun c3 => ?_) (fun c3 => ?_)
      · have hv := hv.1 c3
        refine lv_aload_n hx hb dX8_need_33 rfl (lv_at hl 0 rfl) ?_
        refine va_get (ci := 8) (v := .ref (ad 11)) (C := RX8) (T := TX8) (N := 5) hx hb hts hinX8 hown hK hP 0 (wC_0 cy ad σ0) rfl 2 (by decide) (hts (.fieldLink RX8 27 "TaleBans" "land" "LTaleBans$Steppe;") (List.mem_of_getElem? (i := 1) rfl)) (fun x h => h) rfl dX8_need_34 ?_
        refine va_getN (ci := 6) (v := .ref (ad (17))) (C := RX6) (T := TX6) (N := 8) hx hb hts hinX6 hown hK hP 11 (wC_11 cy ad σ0) rfl 3 (by decide) (nw_8 hN) (fun x h => h) rfl dX8_need_37 ?_
        refine lv_iload_n hx hb dX8_need_40 rfl (lv_at hl 1 rfl) ?_
        refine lv_iload_n hx hb dX8_need_41 rfl (lv_at hl 2 rfl) ?_
        refine lv_iconst (v := 0) hx hb dX8_need_42 (by decide) ?_
        refine lv_iconst (v := 0) hx hb dX8_need_43 (by decide) ?_
        obtain ⟨hp, hv⟩ := hv
        refine k_rel_i (w := wC cy ad) (va_runVN (As := [.int deed_, .int other_, .int 0, .int 0]) (rest := []) ⟨hx, hb, hml, hown, hts⟩ (h_X3_add D cy ad A 2 deed_ other_ 0 0 σ0 (show 2 < 4 by decide) hp) ⟨va_cnB 4 hts gX8_need_X3_add_n105 rfl rfl rfl (nwm_38 hN) (hts (.initialized RX3) (List.mem_of_getElem? (i := 12) rfl)) (by decide +kernel) ⟨le_R hRf (Nat.le_of_ble_eq_true rfl), le_R hRl (Nat.le_of_ble_eq_true rfl)⟩, (hts (.instanceMethod yX3_add) (List.mem_of_getElem? (i := 11) rfl)), (hts (.selects RX3 yX3_add yX3_add) (List.mem_of_getElem? (i := 13) rfl))⟩ ⟨(fun a U g mk q => ⟨q.1, q.2.blind⟩), va_recv hK hP (ci := 3) (q0 := 17) rfl (wC_17 cy ad σ0), (fun U hU hW => ⟨rfl, WdC.pre hP hK hD hN hU hW⟩)⟩ rfl rfl hl.1 rfl (lv_room (Nat.le_of_ble_eq_true rfl)) dX8_need_44 ⟨le_R hRc (Nat.le_refl 0), le_R hRs (Nat.le_refl 0)⟩) hS (fun r2 σ1 H locs hr1 hP hD hS => ?_)
        have hv := hv r2 σ1 hr1
        rw [hZ]; rw [hQ] at hv
        exact W.iret (v := r2) hx hb hr (fun t ht hW => ⟨⟨r2, σ1, rfl, hv, ⟨P_of ht hP, hD⟩⟩, hS.F ht⟩) hS.2.2 dX8_need_47
      · have hv := hv.2 c3
        refine lv_bipush (v := (-3)) hx hb dX8_need_30 (by decide) ?_
        rw [hZ]; rw [hQ] at hv
        exact W.iret (v := (-3)) hx hb hr (fun t ht hW => ⟨⟨(-3), σ0, rfl, hv, ⟨P_of ht hP, hD⟩⟩, hS.F ht⟩) hS.2.2 dX8_need_32
    · have hv := hv.2 c4
      refine lv_iconst (v := (-1)) hx hb dX8_need_18 (by decide) ?_
      rw [hZ]; rw [hQ] at hv
      exact W.iret (v := (-1)) hx hb hr (fun t ht hW => ⟨⟨(-1), σ0, rfl, hv, ⟨P_of ht hP, hD⟩⟩, hS.F ht⟩) hS.2.2 dX8_need_19
set_option maxHeartbeats 4000000 in
set_option maxRecDepth 100000 in
theorem wk_X8_clash (l : Launch) (h_X4_bannedDeeds : Ct_X4_bannedDeeds l) (h_X4_begin : Ct_X4_begin l) (h_X4_pass : Ct_X4_pass l) (h_X6_firstUnmet : Ct_X6_firstUnmet l) (h_X6_isEmpty : Ct_X6_isEmpty l) (h_X8_isOneOf : Ct_X8_isOneOf l) (sp : Sp_X8_clash) : Ct_X8_clash l := by
  intro D cy ad A what_ ag σ0  hpre
  refine Met.ofW (cc := cX8_clash) (maxL := 4) (ret := (some .int)) (by decide) rfl ?_
  intro p e s m args below meth c s₁ B hml hv0
  obtain ⟨rfl, hP, hK, hD, hN⟩ := hv0
  have hx := B.exec
  have hb := B.bytes
  have hr := B.returns
  have hts := atoms_spec (ws := wsX8_clash) B.pre
  have hown : s.vm.findClass RX8 = some m.cls := findClass_of_methodNamed B.named
  have hlocks := B.notSynchronized
  have hv := sp what_ ag σ0 hpre
  have hl := lv_entry ([.ref (ad 0), .int what_]) (n := 4) (Nat.le_of_ble_eq_true rfl)
  rw [lg_entry_eq]
  generalize (lg_sl ([.ref (ad 0), .int what_]) ++ List.replicate (4 - (lg_sl ([.ref (ad 0), .int what_])).length) Slot.unset).toArray = ls at hl ⊢
  have hl : lv_has ls 4 [(0, .ref (ad 0)), (1, .int what_)] := hl
  refine W_gen (fun R Z H locs hR hZ hH hlo => ?_)
  have hRf : R.frames = 4 := by rw [hR]; rfl
  have hRl : R.locals = 91 := by rw [hR]; rfl
  have hRc : R.cells = 0 := by rw [hR]; rfl
  have hRs : R.slots = 0 := by rw [hR]; rfl
  have hS : va_S A s.heap H locs := by rw [hH, hlo]; exact va_S.rf
  rw [← hH] at hP
  obtain ⟨Q, hQ⟩ : ∃ q : Int32 → S_ → Prop, q = (post_X8_clash what_ ag σ0) := ⟨_, rfl⟩
  rw [← hQ] at hv
  have hinX6 : ∀ w ∈ wsX60, w ∈ wsX8_clash := by decide +kernel
  have hinX8 : ∀ w ∈ wsX80, w ∈ wsX8_clash := by decide +kernel
  refine lv_iload_n hx hb dX8_clash_0 rfl (lv_at hl 1 rfl) ?_
  refine lv_iconst (v := 2) hx hb dX8_clash_1 (by decide) ?_
  refine k_pure_i (va_runS (As := [.int what_, .int 2]) (rest := []) ⟨hx, hb, hml, hown, hts⟩ (h_X8_isOneOf what_ 2) (va_cwS 2 hts gX8_clash_X8_isOneOf rfl rfl rfl (by decide +kernel) ⟨le_R hRf (Nat.le_of_ble_eq_true rfl), le_R hRl (Nat.le_of_ble_eq_true rfl)⟩) ⟨(fun a U g mk q => ⟨q.1, trivial⟩), (fun U hU hW => ⟨rfl, trivial⟩)⟩ rfl rfl hl.1 rfl (lv_room (Nat.le_of_ble_eq_true rfl)) dX8_clash_2 ⟨le_R hRc (Nat.le_refl 0), le_R hRs (Nat.le_refl 0)⟩) hS hP (fun r H locs hr1 hP hS => ?_)
  subst hr1
  refine lv_if_ne (tgt := 11) hx hb dX8_clash_5 (by decide) (fun c20 => ?_) (fun c20 => ?_)
  · have hv := hv.1 c20
    refine lv_aload_n hx hb dX8_clash_11 rfl (lv_at hl 0 rfl) ?_
    refine va_get (ci := 8) (v := .ref (ad 11)) (C := RX8) (T := TX8) (N := 5) hx hb hts hinX8 hown hK hP 0 (wC_0 cy ad σ0) rfl 2 (by decide) (hts (.fieldLink RX8 27 "TaleBans" "land" "LTaleBans$Steppe;") (List.mem_of_getElem? (i := 1) rfl)) (fun x h => h) rfl dX8_clash_12 ?_
    have hp := True.intro
    refine k_read_i (w := wC cy ad) (va_runVN (As := []) (rest := []) ⟨hx, hb, hml, hown, hts⟩ (h_X6_isEmpty D cy ad A σ0 hp) ⟨va_cnB 0 hts gX8_clash_X6_isEmpty_n124 rfl rfl rfl (nwm_37 hN) (hts (.initialized RX6) (List.mem_of_getElem? (i := 8) rfl)) (by decide +kernel) ⟨le_R hRf (Nat.le_of_ble_eq_true rfl), le_R hRl (Nat.le_of_ble_eq_true rfl)⟩, (hts (.instanceMethod yX6_isEmpty) (List.mem_of_getElem? (i := 7) rfl)), (hts (.selects RX6 yX6_isEmpty yX6_isEmpty) (List.mem_of_getElem? (i := 9) rfl))⟩ ⟨(fun a U g mk q => ⟨q.1, q.2.blind⟩), va_recv hK hP (ci := 6) (q0 := 11) rfl (wC_11 cy ad σ0), (fun U hU hW => ⟨rfl, WdC.pre hP hK hD hN hU hW⟩)⟩ rfl rfl hl.1 rfl (lv_room (Nat.le_of_ble_eq_true rfl)) dX8_clash_15 ⟨le_R hRc (Nat.le_refl 0), le_R hRs (Nat.le_refl 0)⟩) hS (fun r H locs hr1 hP hS => ?_)
    subst hr1
    refine lv_if_eq (tgt := 24) hx hb dX8_clash_18 (by decide) (fun c19 => ?_) (fun c19 => ?_)
    · have hv := hv.1 c19
      refine lv_aload_n hx hb dX8_clash_24 rfl (lv_at hl 0 rfl) ?_
      refine va_get (ci := 8) (v := .ref (ad 21)) (C := RX8) (T := TX8) (N := 5) hx hb hts hinX8 hown hK hP 0 (wC_0 cy ad σ0) rfl 3 (by decide) (hts (.fieldLink RX8 36 "TaleBans" "seasons" "LTaleBans$Seasons;") (List.mem_of_getElem? (i := 2) rfl)) (fun x h => h) rfl dX8_clash_25 ?_
      refine lv_aload_n hx hb dX8_clash_28 rfl (lv_at hl 0 rfl) ?_
      refine va_get (ci := 8) (v := .ref (ad 11)) (C := RX8) (T := TX8) (N := 5) hx hb hts hinX8 hown hK hP 0 (wC_0 cy ad σ0) rfl 2 (by decide) (hts (.fieldLink RX8 27 "TaleBans" "land" "LTaleBans$Steppe;") (List.mem_of_getElem? (i := 1) rfl)) (fun x h => h) rfl dX8_clash_29 ?_
      refine va_getN (ci := 6) (v := .int (rdI σ0 3)) (C := RX6) (T := TX6) (N := 8) hx hb hts hinX6 hown hK hP 11 (wC_11 cy ad σ0) rfl 6 (by decide) (nw_12 hN) (fun x h => h) rfl dX8_clash_32 ?_
      refine lv_aload_n hx hb dX8_clash_35 rfl (lv_at hl 0 rfl) ?_
      refine va_get (ci := 8) (v := .ref (ad 11)) (C := RX8) (T := TX8) (N := 5) hx hb hts hinX8 hown hK hP 0 (wC_0 cy ad σ0) rfl 2 (by decide) (hts (.fieldLink RX8 27 "TaleBans" "land" "LTaleBans$Steppe;") (List.mem_of_getElem? (i := 1) rfl)) (fun x h => h) rfl dX8_clash_36 ?_
      refine va_getN (ci := 6) (v := .int (rdI σ0 4)) (C := RX6) (T := TX6) (N := 8) hx hb hts hinX6 hown hK hP 11 (wC_11 cy ad σ0) rfl 7 (by decide) (nw_13 hN) (fun x h => h) rfl dX8_clash_39 ?_
      obtain ⟨g1, hv⟩ := hv
      obtain ⟨hp, hv⟩ := hv
      refine k_rel_v (w := wC cy ad) (va_runVN (As := [.int (rdI σ0 3), .int (rdI σ0 4)]) (rest := []) ⟨hx, hb, hml, hown, hts⟩ (h_X4_begin D cy ad A (rdI σ0 3) (rdI σ0 4) g1 σ0 hp) ⟨va_cnB 2 hts gX8_clash_X4_begin_n161 rfl rfl rfl (nwm_45 hN) (hts (.initialized RX4) (List.mem_of_getElem? (i := 13) rfl)) (by decide +kernel) ⟨le_R hRf (Nat.le_of_ble_eq_true rfl), le_R hRl (Nat.le_of_ble_eq_true rfl)⟩, (hts (.instanceMethod yX4_begin) (List.mem_of_getElem? (i := 12) rfl)), (hts (.selects RX4 yX4_begin yX4_begin) (List.mem_of_getElem? (i := 14) rfl))⟩ ⟨(fun a U g mk q => ⟨q.1, q.2.blind⟩), va_recv hK hP (ci := 4) (q0 := 21) rfl (wC_21 cy ad σ0), (fun U hU hW => ⟨rfl, WdC.pre hP hK hD hN hU hW⟩)⟩ rfl rfl hl.1 rfl (lv_room (Nat.le_of_ble_eq_true rfl)) dX8_clash_42 ⟨le_R hRc (Nat.le_refl 0), le_R hRs (Nat.le_refl 0)⟩) hS (fun σ2 H locs hr1 hP hD hS => ?_)
      have hv := hv σ2 hr1
      refine lv_iconst (v := 0) hx hb dX8_clash_45 (by decide) ?_
      refine lv_istore_n (lv' := [(2, .int 0), (0, .ref (ad 0)), (1, .int what_)]) hx hb dX8_clash_46 rfl hl (by decide) rfl (fun ls hl => ?_)
      obtain ⟨n47, hv⟩ := hv
      have lp47 : ∀ (nn47 : Nat) (x3 : Int32) (σ4 : S_) (H : Heap) (locs : List Loc) (ls : Array Slot), vl_X8_clash_47 what_ Q nn47 x3 σ4 → va_P D vwCl (wC cy ad σ4) H → va_D A (wC cy ad σ4) → va_S A s.heap H locs → lv_has ls 4 [(0, .ref (ad 0)), (1, .int what_), (2, .int x3)] → W p l e R s m ([.ref (ad 0), .int what_] : List Value).toArray  below meth c H locs 0 0 Z (F0 m 47 ls []) := by
        intro nn47
        induction nn47 with
        | zero => intro x3 σ4 H locs ls hv; exact absurd hv id
        | succ mm47 ih47 =>
          intro x3 σ4 H locs ls hv hP hD hS hl
          refine lv_iload_n hx hb dX8_clash_47 rfl (lv_at hl 2 rfl) ?_
          refine lv_bipush (v := 40) hx hb dX8_clash_48 (by decide) ?_
          refine lv_icmp_ge (tgt := 97) hx hb dX8_clash_50 (by decide) (fun c18 => ?_) (fun c18 => ?_)
          · have hv := hv.1 c18
            refine lv_bipush (v := (-9)) hx hb dX8_clash_97 (by decide) ?_
            rw [hZ]; rw [hQ] at hv
            exact W.iret (v := (-9)) hx hb hr (fun t ht hW => ⟨⟨(-9), σ4, rfl, hv, ⟨P_of ht hP, hD⟩⟩, hS.F ht⟩) hS.2.2 dX8_clash_99
          · have hv := hv.2 c18
            refine lv_aload_n hx hb dX8_clash_53 rfl (lv_at hl 0 rfl) ?_
            refine va_get (ci := 8) (v := .ref (ad 21)) (C := RX8) (T := TX8) (N := 5) hx hb hts hinX8 hown hK hP 0 (wC_0 cy ad σ4) rfl 3 (by decide) (hts (.fieldLink RX8 36 "TaleBans" "seasons" "LTaleBans$Seasons;") (List.mem_of_getElem? (i := 2) rfl)) (fun x h => h) rfl dX8_clash_54 ?_
            obtain ⟨g5, g6, g7, hv⟩ := hv
            obtain ⟨hp, hv⟩ := hv
            refine k_rel_v (w := wC cy ad) (va_runVN (As := []) (rest := []) ⟨hx, hb, hml, hown, hts⟩ (h_X4_pass D cy ad A g5 g6 g7 σ4 hp) ⟨va_cnB 0 hts gX8_clash_X4_pass_n164 rfl rfl rfl (nwm_47 hN) (hts (.initialized RX4) (List.mem_of_getElem? (i := 13) rfl)) (by decide +kernel) ⟨le_R hRf (Nat.le_of_ble_eq_true rfl), le_R hRl (Nat.le_of_ble_eq_true rfl)⟩, (hts (.instanceMethod yX4_pass) (List.mem_of_getElem? (i := 54) rfl)), (hts (.selects RX4 yX4_pass yX4_pass) (List.mem_of_getElem? (i := 55) rfl))⟩ ⟨(fun a U g mk q => ⟨q.1, q.2.blind⟩), va_recv hK hP (ci := 4) (q0 := 21) rfl (wC_21 cy ad σ4), (fun U hU hW => ⟨rfl, WdC.pre hP hK hD hN hU hW⟩)⟩ rfl rfl hl.1 rfl (lv_room (Nat.le_of_ble_eq_true rfl)) dX8_clash_57 ⟨le_R hRc (Nat.le_refl 0), le_R hRs (Nat.le_refl 0)⟩) hS (fun σ8 H locs hr1 hP hD hS => ?_)
            have hv := hv σ8 hr1
            refine lv_aload_n hx hb dX8_clash_60 rfl (lv_at hl 0 rfl) ?_
            refine va_get (ci := 8) (v := .ref (ad 11)) (C := RX8) (T := TX8) (N := 5) hx hb hts hinX8 hown hK hP 0 (wC_0 cy ad σ8) rfl 2 (by decide) (hts (.fieldLink RX8 27 "TaleBans" "land" "LTaleBans$Steppe;") (List.mem_of_getElem? (i := 1) rfl)) (fun x h => h) rfl dX8_clash_61 ?_
            refine lv_aload_n hx hb dX8_clash_64 rfl (lv_at hl 0 rfl) ?_
            refine va_get (ci := 8) (v := .ref (ad 21)) (C := RX8) (T := TX8) (N := 5) hx hb hts hinX8 hown hK hP 0 (wC_0 cy ad σ8) rfl 3 (by decide) (hts (.fieldLink RX8 36 "TaleBans" "seasons" "LTaleBans$Seasons;") (List.mem_of_getElem? (i := 2) rfl)) (fun x h => h) rfl dX8_clash_65 ?_
            obtain ⟨g9, g10, g11, hv⟩ := hv
            obtain ⟨hp, hv⟩ := hv
            refine k_read_i (w := wC cy ad) (va_runVN (As := []) (rest := [.ref (ad 11)]) ⟨hx, hb, hml, hown, hts⟩ (h_X4_bannedDeeds D cy ad A g9 g10 g11 σ8 hp) ⟨va_cnB 0 hts gX8_clash_X4_bannedDeeds_n155 rfl rfl rfl (nwm_54 hN) (hts (.initialized RX4) (List.mem_of_getElem? (i := 13) rfl)) (by decide +kernel) ⟨le_R hRf (Nat.le_of_ble_eq_true rfl), le_R hRl (Nat.le_of_ble_eq_true rfl)⟩, (hts (.instanceMethod yX4_bannedDeeds) (List.mem_of_getElem? (i := 103) rfl)), (hts (.selects RX4 yX4_bannedDeeds yX4_bannedDeeds) (List.mem_of_getElem? (i := 104) rfl))⟩ ⟨(fun a U g mk q => ⟨q.1, q.2.blind⟩), va_recv hK hP (ci := 4) (q0 := 21) rfl (wC_21 cy ad σ8), (fun U hU hW => ⟨rfl, WdC.pre hP hK hD hN hU hW⟩)⟩ rfl rfl hl.1 rfl (lv_room (Nat.le_of_ble_eq_true rfl)) dX8_clash_68 ⟨le_R hRc (Nat.le_refl 0), le_R hRs (Nat.le_refl 0)⟩) hS (fun r12 H locs hr1 hP hS => ?_)
            have hv := hv r12 hr1
            obtain ⟨g13, g14, hv⟩ := hv
            obtain ⟨hp, hv⟩ := hv
            refine k_read_i (w := wC cy ad) (va_runVN (As := [.int r12]) (rest := []) ⟨hx, hb, hml, hown, hts⟩ (h_X6_firstUnmet D cy ad A r12 g13 g14 σ8 hp) ⟨va_cnB 1 hts gX8_clash_X6_firstUnmet_n182 rfl rfl rfl (nwm_57 hN) (hts (.initialized RX6) (List.mem_of_getElem? (i := 8) rfl)) (by decide +kernel) ⟨le_R hRf (Nat.le_of_ble_eq_true rfl), le_R hRl (Nat.le_of_ble_eq_true rfl)⟩, (hts (.instanceMethod yX6_firstUnmet) (List.mem_of_getElem? (i := 114) rfl)), (hts (.selects RX6 yX6_firstUnmet yX6_firstUnmet) (List.mem_of_getElem? (i := 115) rfl))⟩ ⟨(fun a U g mk q => ⟨q.1, q.2.blind⟩), va_recv hK hP (ci := 6) (q0 := 11) rfl (wC_11 cy ad σ8), (fun U hU hW => ⟨rfl, WdC.pre hP hK hD hN hU hW⟩)⟩ rfl rfl hl.1 rfl (lv_room (Nat.le_of_ble_eq_true rfl)) dX8_clash_71 ⟨le_R hRc (Nat.le_refl 0), le_R hRs (Nat.le_refl 0)⟩) hS (fun r15 H locs hr1 hP hS => ?_)
            have hv := hv r15 hr1
            refine lv_istore_n (lv' := [(3, .int r15), (0, .ref (ad 0)), (1, .int what_), (2, .int x3)]) hx hb dX8_clash_74 rfl hl (by decide) rfl (fun ls hl => ?_)
            refine lv_iload_n hx hb dX8_clash_75 rfl (lv_at hl 0 rfl) ?_
            refine lv_bipush (v := (-9)) hx hb dX8_clash_76 (by decide) ?_
            refine lv_icmp_eq (tgt := 91) hx hb dX8_clash_78 (by decide) (fun c17 => ?_) (fun c17 => ?_)
            · have hv := hv.1 c17
              refine lv_iinc (v := (x3 + 1)) (lv' := [(2, .int (x3 + 1)), (3, .int r15), (0, .ref (ad 0)), (1, .int what_)]) hx hb dX8_clash_91 hl (k := 3) rfl rfl (by decide) rfl (fun ls hl => ?_)
              refine lv_goto (tgt := 47) hx hb dX8_clash_94 (by decide) ?_
              exact ih47 (x3 + 1) σ8 _ _ _ hv hP hD hS (lv_sub hl [2, 3, 0] rfl)
            · have hv := hv.2 c17
              refine lv_iload_n hx hb dX8_clash_81 rfl (lv_at hl 2 rfl) ?_
              refine lv_if_ne (tgt := 89) hx hb dX8_clash_82 (by decide) (fun c16 => ?_) (fun c16 => ?_)
              · have hv := hv.1 c16
                refine lv_iload_n hx hb dX8_clash_89 rfl (lv_at hl 0 rfl) ?_
                rw [hZ]; rw [hQ] at hv
                exact W.iret (v := r15) hx hb hr (fun t ht hW => ⟨⟨r15, σ8, rfl, hv, ⟨P_of ht hP, hD⟩⟩, hS.F ht⟩) hS.2.2 dX8_clash_90
              · have hv := hv.2 c16
                refine lv_iload_n hx hb dX8_clash_85 rfl (lv_at hl 3 rfl) ?_
                refine lv_goto (tgt := 90) hx hb dX8_clash_86 (by decide) ?_
                rw [hZ]; rw [hQ] at hv
                exact W.iret (v := x3) hx hb hr (fun t ht hW => ⟨⟨x3, σ8, rfl, hv, ⟨P_of ht hP, hD⟩⟩, hS.F ht⟩) hS.2.2 dX8_clash_90
      exact lp47 n47 0 σ2 _ _ _ hv hP hD hS (lv_sub hl [1, 2, 0] rfl)
    · have hv := hv.2 c19
      refine lv_bipush (v := (-3)) hx hb dX8_clash_21 (by decide) ?_
      rw [hZ]; rw [hQ] at hv
      exact W.iret (v := (-3)) hx hb hr (fun t ht hW => ⟨⟨(-3), σ0, rfl, hv, ⟨P_of ht hP, hD⟩⟩, hS.F ht⟩) hS.2.2 dX8_clash_23
  · have hv := hv.2 c20
    refine lv_bipush (v := (-2)) hx hb dX8_clash_8 (by decide) ?_
    rw [hZ]; rw [hQ] at hv
    exact W.iret (v := (-2)) hx hb hr (fun t ht hW => ⟨⟨(-2), σ0, rfl, hv, ⟨P_of ht hP, hD⟩⟩, hS.F ht⟩) hS.2.2 dX8_clash_10
set_option maxHeartbeats 4000000 in
set_option maxRecDepth 100000 in
theorem wk_X8_plan (l : Launch) (h_X5_faultOfTaking : Ct_X5_faultOfTaking l) (h_X5_hasOnlyBelow : Ct_X5_hasOnlyBelow l) (h_X6_isEmpty : Ct_X6_isEmpty l) (h_X8_faulted : Ct_X8_faulted l) (h_X8_firstBanned : Ct_X8_firstBanned l) (h_X8_isOneOf : Ct_X8_isOneOf l) (h_X8_sheetAt : Ct_X8_sheetAt l) (sp : Sp_X8_plan) : Ct_X8_plan l := by
  intro D cy ad A season_ sh_ lane_ i_ n_ ag σ0  hpre
  refine Met.ofW (cc := cX8_plan) (maxL := 8) (ret := (some .int)) (by decide) rfl ?_
  intro p e s m args below meth c s₁ B hml hv0
  obtain ⟨rfl, hP, hK, hD, hN⟩ := hv0
  have hx := B.exec
  have hb := B.bytes
  have hr := B.returns
  have hts := atoms_spec (ws := wsX8_plan) B.pre
  have hown : s.vm.findClass RX8 = some m.cls := findClass_of_methodNamed B.named
  have hlocks := B.notSynchronized
  have hv := sp season_ sh_ lane_ i_ n_ ag σ0 hpre
  have hl := lv_entry ([.ref (ad 0), .int season_, .int sh_, .int lane_, .int i_, .int n_]) (n := 8) (Nat.le_of_ble_eq_true rfl)
  rw [lg_entry_eq]
  generalize (lg_sl ([.ref (ad 0), .int season_, .int sh_, .int lane_, .int i_, .int n_]) ++ List.replicate (8 - (lg_sl ([.ref (ad 0), .int season_, .int sh_, .int lane_, .int i_, .int n_])).length) Slot.unset).toArray = ls at hl ⊢
  have hl : lv_has ls 8 [(0, .ref (ad 0)), (1, .int season_), (2, .int sh_), (3, .int lane_), (4, .int i_), (5, .int n_)] := hl
  refine W_gen (fun R Z H locs hR hZ hH hlo => ?_)
  have hRf : R.frames = 6 := by rw [hR]; rfl
  have hRl : R.locals = 134 := by rw [hR]; rfl
  have hRc : R.cells = 0 := by rw [hR]; rfl
  have hRs : R.slots = 0 := by rw [hR]; rfl
  have hS : va_S A s.heap H locs := by rw [hH, hlo]; exact va_S.rf
  rw [← hH] at hP
  obtain ⟨Q, hQ⟩ : ∃ q : Int32 → S_ → Prop, q = (post_X8_plan season_ sh_ lane_ i_ n_ ag σ0) := ⟨_, rfl⟩
  rw [← hQ] at hv
  have hinX8 : ∀ w ∈ wsX80, w ∈ wsX8_plan := by decide +kernel
  refine lv_aload_n hx hb dX8_plan_0 rfl (lv_at hl 0 rfl) ?_
  refine lv_iconst (v := 0) hx hb dX8_plan_1 (by decide) ?_
  refine va_put (ci := 8) (v := .int 0) (ty := .int) (C := RX8) (T := TX8) (N := 5) hx hb hts hinX8 tyX8 tyX8_ok nmX8 hown hK hP hD hS 0 (wC_0 cy ad σ0) rfl 4 (by decide) (hts (.fieldLink RX8 41 "TaleBans" "latestFault" "I") (List.mem_of_getElem? (i := 1) rfl)) (fun x h => h) rfl (by decide +kernel) rfl rfl (Nat.le_of_ble_eq_true rfl) dX8_plan_2 (fun H locs hP hD hS => ?_)
  obtain ⟨σ1, e2⟩ : ∃ y : S_, y = wrI σ0 0 0 := ⟨_, rfl⟩
  have hP : va_P D vwCl (wC cy ad σ1) H := by rw [e2]; exact hP
  have hD : va_D A (wC cy ad σ1) := by rw [e2]; exact hD
  have hv := hv σ1 e2
  refine lv_aload_n hx hb dX8_plan_5 rfl (lv_at hl 0 rfl) ?_
  refine lv_iload_n hx hb dX8_plan_6 rfl (lv_at hl 2 rfl) ?_
  have hp := True.intro
  refine k_read_e (w := wC cy ad) (va_runV (As := [.int sh_]) (rest := []) ⟨hx, hb, hml, hown, hts⟩ (h_X8_sheetAt D cy ad A sh_ σ1 hp) (cwV 1 hts gX8_plan_X8_sheetAt rfl rfl rfl (by decide +kernel) ⟨le_R hRf (Nat.le_of_ble_eq_true rfl), le_R hRl (Nat.le_of_ble_eq_true rfl)⟩) ⟨(fun a U g mk q => ⟨q.1, q.2.blind⟩), va_recv hK hP (ci := 8) (q0 := 0) rfl (wC_0 cy ad σ1), (fun U hU hW => ⟨rfl, WdC.pre hP hK hD hN hU hW⟩)⟩ rfl rfl hl.1 rfl (lv_room (Nat.le_of_ble_eq_true rfl)) dX8_plan_7 ⟨le_R hRc (Nat.le_refl 0), le_R hRs (Nat.le_refl 0)⟩) hS (fun r H locs hr1 hP hS => ?_)
  subst hr1
  cases o4 : (fn_X8_sheetAt sh_ σ1) with
  | none =>
    have hv := hv.1 o4
    refine W_top (v' := .null) rfl ?_
    refine lv_astoreN (lv' := [(6, .null), (0, .ref (ad 0)), (1, .int season_), (2, .int sh_), (3, .int lane_), (4, .int i_), (5, .int n_)]) hx hb dX8_plan_10 hl (by decide) rfl (fun ls hl => ?_)
    refine lv_aloadN hx hb dX8_plan_12 (lv_at hl 0 rfl) ?_
    refine lv_ifnonnullN hx hb dX8_plan_14 ?_
    refine lv_iconst (v := (-1)) hx hb dX8_plan_17 (by decide) ?_
    rw [hZ]; rw [hQ] at hv
    exact W.iret (v := (-1)) hx hb hr (fun t ht hW => ⟨⟨(-1), σ1, rfl, hv, ⟨P_of ht hP, hD⟩⟩, hS.F ht⟩) hS.2.2 dX8_plan_18
  | some j3 =>
    obtain ⟨hj_j3, hv⟩ := hv.2 j3 o4
    refine W_top (v' := .ref (ad (2 + 2 * j3))) rfl ?_
    refine lv_astore (lv' := [(6, .ref (ad (2 + 2 * j3))), (0, .ref (ad 0)), (1, .int season_), (2, .int sh_), (3, .int lane_), (4, .int i_), (5, .int n_)]) hx hb dX8_plan_10 hl (by decide) rfl (fun ls hl => ?_)
    refine lv_aload hx hb dX8_plan_12 (lv_at hl 0 rfl) ?_
    refine lv_ifnonnull (tgt := 19) hx hb dX8_plan_14 (by decide) ?_
    refine lv_iload_n hx hb dX8_plan_19 rfl (lv_at hl 4 rfl) ?_
    refine lv_iconst (v := 3) hx hb dX8_plan_20 (by decide) ?_
    refine k_pure_i (va_runS (As := [.int lane_, .int 3]) (rest := []) ⟨hx, hb, hml, hown, hts⟩ (h_X8_isOneOf lane_ 3) (va_cwS 2 hts gX8_plan_X8_isOneOf rfl rfl rfl (by decide +kernel) ⟨le_R hRf (Nat.le_of_ble_eq_true rfl), le_R hRl (Nat.le_of_ble_eq_true rfl)⟩) ⟨(fun a U g mk q => ⟨q.1, trivial⟩), (fun U hU hW => ⟨rfl, trivial⟩)⟩ rfl rfl hl.1 rfl (lv_room (Nat.le_of_ble_eq_true rfl)) dX8_plan_21 ⟨le_R hRc (Nat.le_refl 0), le_R hRs (Nat.le_refl 0)⟩) hS hP (fun r H locs hr1 hP hS => ?_)
    subst hr1
    refine lv_if_eq (tgt := 36) hx hb dX8_plan_24 (by decide) (fun c21 => ?_) (fun c21 => ?_)
    · have hv := hv.1 c21
      refine lv_bipush (v := (-2)) hx hb dX8_plan_36 (by decide) ?_
      rw [hZ]; rw [hQ] at hv
      exact W.iret (v := (-2)) hx hb hr (fun t ht hW => ⟨⟨(-2), σ1, rfl, hv, ⟨P_of ht hP, hD⟩⟩, hS.F ht⟩) hS.2.2 dX8_plan_38
    · have hv := hv.2 c21
      refine lv_iload_n hx hb dX8_plan_27 rfl (lv_at hl 2 rfl) ?_
      refine lv_bipush (v := 40) hx hb dX8_plan_28 (by decide) ?_
      refine k_pure_i (va_runS (As := [.int season_, .int 40]) (rest := []) ⟨hx, hb, hml, hown, hts⟩ (h_X8_isOneOf season_ 40) (va_cwS 2 hts gX8_plan_X8_isOneOf rfl rfl rfl (by decide +kernel) ⟨le_R hRf (Nat.le_of_ble_eq_true rfl), le_R hRl (Nat.le_of_ble_eq_true rfl)⟩) ⟨(fun a U g mk q => ⟨q.1, trivial⟩), (fun U hU hW => ⟨rfl, trivial⟩)⟩ rfl rfl hl.1 rfl (lv_room (Nat.le_of_ble_eq_true rfl)) dX8_plan_30 ⟨le_R hRc (Nat.le_refl 0), le_R hRs (Nat.le_refl 0)⟩) hS hP (fun r H locs hr1 hP hS => ?_)
      subst hr1
      refine lv_if_ne (tgt := 39) hx hb dX8_plan_33 (by decide) (fun c20 => ?_) (fun c20 => ?_)
      · have hv := hv.1 c20
        refine lv_aload_n hx hb dX8_plan_39 rfl (lv_at hl 1 rfl) ?_
        refine va_get (ci := 8) (v := .ref (ad 11)) (C := RX8) (T := TX8) (N := 5) hx hb hts hinX8 hown hK hP 0 (wC_0 cy ad σ1) rfl 2 (by decide) (hts (.fieldLink RX8 27 "TaleBans" "land" "LTaleBans$Steppe;") (List.mem_of_getElem? (i := 2) rfl)) (fun x h => h) rfl dX8_plan_40 ?_
        have hp := True.intro
        refine k_read_i (w := wC cy ad) (va_runVN (As := []) (rest := []) ⟨hx, hb, hml, hown, hts⟩ (h_X6_isEmpty D cy ad A σ1 hp) ⟨va_cnB 0 hts gX8_plan_X6_isEmpty_n124 rfl rfl rfl (nwm_37 hN) (hts (.initialized RX6) (List.mem_of_getElem? (i := 13) rfl)) (by decide +kernel) ⟨le_R hRf (Nat.le_of_ble_eq_true rfl), le_R hRl (Nat.le_of_ble_eq_true rfl)⟩, (hts (.instanceMethod yX6_isEmpty) (List.mem_of_getElem? (i := 12) rfl)), (hts (.selects RX6 yX6_isEmpty yX6_isEmpty) (List.mem_of_getElem? (i := 14) rfl))⟩ ⟨(fun a U g mk q => ⟨q.1, q.2.blind⟩), va_recv hK hP (ci := 6) (q0 := 11) rfl (wC_11 cy ad σ1), (fun U hU hW => ⟨rfl, WdC.pre hP hK hD hN hU hW⟩)⟩ rfl rfl hl.1 rfl (lv_room (Nat.le_of_ble_eq_true rfl)) dX8_plan_43 ⟨le_R hRc (Nat.le_refl 0), le_R hRs (Nat.le_refl 0)⟩) hS (fun r H locs hr1 hP hS => ?_)
        subst hr1
        refine lv_if_eq (tgt := 52) hx hb dX8_plan_46 (by decide) (fun c19 => ?_) (fun c19 => ?_)
        · have hv := hv.1 c19
          refine lv_aload hx hb dX8_plan_52 (lv_at hl 0 rfl) ?_
          refine lv_iload_n hx hb dX8_plan_54 rfl (lv_at hl 4 rfl) ?_
          refine lv_iload hx hb dX8_plan_55 (lv_at hl 5 rfl) ?_
          refine lv_iload hx hb dX8_plan_57 (lv_at hl 6 rfl) ?_
          have hp := True.intro
          refine k_read_i (w := wC cy ad) (va_runVN (As := [.int lane_, .int i_, .int n_]) (rest := []) ⟨hx, hb, hml, hown, hts⟩ (h_X5_faultOfTaking D cy ad A j3 lane_ i_ n_ σ1 hj_j3 hp) ⟨va_cnB 3 hts gX8_plan_X5_faultOfTaking_n53 rfl rfl rfl (nwm_24 hN) (hts (.initialized RX5) (List.mem_of_getElem? (i := 18) rfl)) (by decide +kernel) ⟨le_R hRf (Nat.le_of_ble_eq_true rfl), le_R hRl (Nat.le_of_ble_eq_true rfl)⟩, (hts (.instanceMethod yX5_faultOfTaking) (List.mem_of_getElem? (i := 17) rfl)), (hts (.selects RX5 yX5_faultOfTaking yX5_faultOfTaking) (List.mem_of_getElem? (i := 19) rfl))⟩ ⟨(fun a U g mk q => ⟨q.1, q.2.blind⟩), va_recv hK hP (ci := 5) (q0 := (2 + 2 * j3)) rfl (wC_sh cy ad σ1 hj_j3), (fun U hU hW => ⟨rfl, WdC.pre hP hK hD hN hU hW⟩)⟩ rfl rfl hl.1 rfl (lv_room (Nat.le_of_ble_eq_true rfl)) dX8_plan_59 ⟨le_R hRc (Nat.le_refl 0), le_R hRs (Nat.le_refl 0)⟩) hS (fun r H locs hr1 hP hS => ?_)
          subst hr1
          refine lv_istore (lv' := [(7, .int (fn_X5_faultOfTaking j3 lane_ i_ n_ σ1)), (6, .ref (ad (2 + 2 * j3))), (0, .ref (ad 0)), (1, .int season_), (2, .int sh_), (3, .int lane_), (4, .int i_), (5, .int n_)]) hx hb dX8_plan_62 hl (by decide) rfl (fun ls hl => ?_)
          refine lv_iload hx hb dX8_plan_64 (lv_at hl 0 rfl) ?_
          refine lv_if_eq (tgt := 76) hx hb dX8_plan_66 (by decide) (fun c18 => ?_) (fun c18 => ?_)
          · have hv := hv.1 c18
            refine lv_iload hx hb dX8_plan_76 (lv_at hl 7 rfl) ?_
            refine lv_bipush (v := 40) hx hb dX8_plan_78 (by decide) ?_
            refine lv_iload_n hx hb dX8_plan_80 rfl (lv_at hl 3 rfl) ?_
            refine lv_isub hx hb dX8_plan_81 ?_
            refine lv_icmp_le (tgt := 88) hx hb dX8_plan_82 (by decide) (fun c15 => ?_) (fun c15 => ?_)
            · have hv := hv.1 c15
              refine lv_aload hx hb dX8_plan_88 (lv_at hl 1 rfl) ?_
              refine lv_bipush (v := 6) hx hb dX8_plan_90 (by decide) ?_
              refine lv_iload hx hb dX8_plan_92 (lv_at hl 6 rfl) ?_
              refine lv_iload hx hb dX8_plan_94 (lv_at hl 7 rfl) ?_
              obtain ⟨g5, g6, hv⟩ := hv
              obtain ⟨hp, hv⟩ := hv
              refine k_read_i (w := wC cy ad) (va_runVN (As := [.int 6, .int i_, .int n_]) (rest := []) ⟨hx, hb, hml, hown, hts⟩ (h_X5_hasOnlyBelow D cy ad A j3 6 i_ n_ g5 g6 σ1 hj_j3 hp) ⟨va_cnB 3 hts gX8_plan_X5_hasOnlyBelow_n185 rfl rfl rfl (nwm_60 hN) (hts (.initialized RX5) (List.mem_of_getElem? (i := 18) rfl)) (by decide +kernel) ⟨le_R hRf (Nat.le_of_ble_eq_true rfl), le_R hRl (Nat.le_of_ble_eq_true rfl)⟩, (hts (.instanceMethod yX5_hasOnlyBelow) (List.mem_of_getElem? (i := 35) rfl)), (hts (.selects RX5 yX5_hasOnlyBelow yX5_hasOnlyBelow) (List.mem_of_getElem? (i := 36) rfl))⟩ ⟨(fun a U g mk q => ⟨q.1, q.2.blind⟩), va_recv hK hP (ci := 5) (q0 := (2 + 2 * j3)) rfl (wC_sh cy ad σ1 hj_j3), (fun U hU hW => ⟨rfl, WdC.pre hP hK hD hN hU hW⟩)⟩ rfl rfl hl.1 rfl (lv_room (Nat.le_of_ble_eq_true rfl)) dX8_plan_96 ⟨le_R hRc (Nat.le_refl 0), le_R hRs (Nat.le_refl 0)⟩) hS (fun r7 H locs hr1 hP hS => ?_)
              have hv := hv r7 hr1
              refine lv_if_ne (tgt := 104) hx hb dX8_plan_99 (by decide) (fun c14 => ?_) (fun c14 => ?_)
              · have hv := hv.1 c14
                refine lv_aload_n hx hb dX8_plan_104 rfl (lv_at hl 2 rfl) ?_
                refine lv_iload_n hx hb dX8_plan_105 rfl (lv_at hl 3 rfl) ?_
                refine lv_aload hx hb dX8_plan_106 (lv_at hl 1 rfl) ?_
                refine lv_iload hx hb dX8_plan_108 (lv_at hl 6 rfl) ?_
                refine lv_iload hx hb dX8_plan_110 (lv_at hl 7 rfl) ?_
                obtain ⟨g8, g9, g10, g11, hv⟩ := hv
                obtain ⟨hp, hv⟩ := hv
                refine k_rel_i (w := wC cy ad) (va_runV (As := [.int season_, .ref (ad (2 + 2 * j3)), .int i_, .int n_]) (rest := []) ⟨hx, hb, hml, hown, hts⟩ (h_X8_firstBanned D cy ad A season_ j3 i_ n_ g8 g9 g10 g11 σ1 hj_j3 hp) (cwV 4 hts gX8_plan_X8_firstBanned rfl rfl rfl (by decide +kernel) ⟨le_R hRf (Nat.le_of_ble_eq_true rfl), le_R hRl (Nat.le_of_ble_eq_true rfl)⟩) ⟨(fun a U g mk q => ⟨q.1, q.2.blind⟩), va_recv hK hP (ci := 8) (q0 := 0) rfl (wC_0 cy ad σ1), (fun U hU hW => ⟨rfl, WdC.pre hP hK hD hN hU hW⟩)⟩ rfl rfl hl.1 rfl (lv_room (Nat.le_of_ble_eq_true rfl)) dX8_plan_112 ⟨le_R hRc (Nat.le_refl 0), le_R hRs (Nat.le_refl 0)⟩) hS (fun r13 σ12 H locs hr1 hP hD hS => ?_)
                have hv := hv r13 σ12 hr1
                rw [hZ]; rw [hQ] at hv
                exact W.iret (v := r13) hx hb hr (fun t ht hW => ⟨⟨r13, σ12, rfl, hv, ⟨P_of ht hP, hD⟩⟩, hS.F ht⟩) hS.2.2 dX8_plan_115
              · have hv := hv.2 c14
                refine lv_iconst (v := (-1)) hx hb dX8_plan_102 (by decide) ?_
                rw [hZ]; rw [hQ] at hv
                exact W.iret (v := (-1)) hx hb hr (fun t ht hW => ⟨⟨(-1), σ1, rfl, hv, ⟨P_of ht hP, hD⟩⟩, hS.F ht⟩) hS.2.2 dX8_plan_103
            · have hv := hv.2 c15
              refine lv_bipush (v := (-2)) hx hb dX8_plan_85 (by decide) ?_
              rw [hZ]; rw [hQ] at hv
              exact W.iret (v := (-2)) hx hb hr (fun t ht hW => ⟨⟨(-2), σ1, rfl, hv, ⟨P_of ht hP, hD⟩⟩, hS.F ht⟩) hS.2.2 dX8_plan_87
          · have hv := hv.2 c18
            refine lv_aload_n hx hb dX8_plan_69 rfl (lv_at hl 2 rfl) ?_
            refine lv_iload hx hb dX8_plan_70 (lv_at hl 0 rfl) ?_
            have hp := True.intro
            refine k_rel_i (w := wC cy ad) (va_runV (As := [.int (fn_X5_faultOfTaking j3 lane_ i_ n_ σ1)]) (rest := []) ⟨hx, hb, hml, hown, hts⟩ (h_X8_faulted D cy ad A (fn_X5_faultOfTaking j3 lane_ i_ n_ σ1) σ1 hp) (cwV 1 hts gX8_plan_X8_faulted rfl rfl rfl (by decide +kernel) ⟨le_R hRf (Nat.le_of_ble_eq_true rfl), le_R hRl (Nat.le_of_ble_eq_true rfl)⟩) ⟨(fun a U g mk q => ⟨q.1, q.2.blind⟩), va_recv hK hP (ci := 8) (q0 := 0) rfl (wC_0 cy ad σ1), (fun U hU hW => ⟨rfl, WdC.pre hP hK hD hN hU hW⟩)⟩ rfl rfl hl.1 rfl (lv_room (Nat.le_of_ble_eq_true rfl)) dX8_plan_72 ⟨le_R hRc (Nat.le_refl 0), le_R hRs (Nat.le_refl 0)⟩) hS (fun r17 σ16 H locs hr1 hP hD hS => ?_)
            have hv := hv r17 σ16 hr1
            rw [hZ]; rw [hQ] at hv
            exact W.iret (v := r17) hx hb hr (fun t ht hW => ⟨⟨r17, σ16, rfl, hv, ⟨P_of ht hP, hD⟩⟩, hS.F ht⟩) hS.2.2 dX8_plan_75
        · have hv := hv.2 c19
          refine lv_bipush (v := (-3)) hx hb dX8_plan_49 (by decide) ?_
          rw [hZ]; rw [hQ] at hv
          exact W.iret (v := (-3)) hx hb hr (fun t ht hW => ⟨⟨(-3), σ1, rfl, hv, ⟨P_of ht hP, hD⟩⟩, hS.F ht⟩) hS.2.2 dX8_plan_51
      · have hv := hv.2 c20
        refine lv_bipush (v := (-2)) hx hb dX8_plan_36 (by decide) ?_
        rw [hZ]; rw [hQ] at hv
        exact W.iret (v := (-2)) hx hb hr (fun t ht hW => ⟨⟨(-2), σ1, rfl, hv, ⟨P_of ht hP, hD⟩⟩, hS.F ht⟩) hS.2.2 dX8_plan_38
set_option maxHeartbeats 4000000 in
set_option maxRecDepth 100000 in
theorem wk_X8_reading (l : Launch) (h_X3_add : Ct_X3_add l) (h_X3_has : Ct_X3_has l) (h_X6_person : Ct_X6_person l) (h_X8_isOneOf : Ct_X8_isOneOf l) (h_X8_refusal : Ct_X8_refusal l) (sp : Sp_X8_reading) : Ct_X8_reading l := by
  intro D cy ad A p_ t_ season_ did_ ag σ0  hpre
  refine Met.ofW (cc := cX8_reading) (maxL := 6) (ret := (some .int)) (by decide) rfl ?_
  intro p e s m args below meth c s₁ B hml hv0
  obtain ⟨rfl, hP, hK, hD, hN⟩ := hv0
  have hx := B.exec
  have hb := B.bytes
  have hr := B.returns
  have hts := atoms_spec (ws := wsX8_reading) B.pre
  have hown : s.vm.findClass RX8 = some m.cls := findClass_of_methodNamed B.named
  have hlocks := B.notSynchronized
  have hv := sp p_ t_ season_ did_ ag σ0 hpre
  have hl := lv_entry ([.ref (ad 0), .int p_, .int t_, .int season_, .int did_]) (n := 6) (Nat.le_of_ble_eq_true rfl)
  rw [lg_entry_eq]
  generalize (lg_sl ([.ref (ad 0), .int p_, .int t_, .int season_, .int did_]) ++ List.replicate (6 - (lg_sl ([.ref (ad 0), .int p_, .int t_, .int season_, .int did_])).length) Slot.unset).toArray = ls at hl ⊢
  have hl : lv_has ls 6 [(0, .ref (ad 0)), (1, .int p_), (2, .int t_), (3, .int season_), (4, .int did_)] := hl
  refine W_gen (fun R Z H locs hR hZ hH hlo => ?_)
  have hRf : R.frames = 3 := by rw [hR]; rfl
  have hRl : R.locals = 68 := by rw [hR]; rfl
  have hRc : R.cells = 0 := by rw [hR]; rfl
  have hRs : R.slots = 0 := by rw [hR]; rfl
  have hS : va_S A s.heap H locs := by rw [hH, hlo]; exact va_S.rf
  rw [← hH] at hP
  obtain ⟨Q, hQ⟩ : ∃ q : Int32 → S_ → Prop, q = (post_X8_reading p_ t_ season_ did_ ag σ0) := ⟨_, rfl⟩
  rw [← hQ] at hv
  have hinX6 : ∀ w ∈ wsX60, w ∈ wsX8_reading := by decide +kernel
  have hinX8 : ∀ w ∈ wsX80, w ∈ wsX8_reading := by decide +kernel
  refine lv_aload_n hx hb dX8_reading_0 rfl (lv_at hl 0 rfl) ?_
  refine lv_aload_n hx hb dX8_reading_1 rfl (lv_at hl 0 rfl) ?_
  refine va_get (ci := 8) (v := .ref (ad 11)) (C := RX8) (T := TX8) (N := 5) hx hb hts hinX8 hown hK hP 0 (wC_0 cy ad σ0) rfl 2 (by decide) (hts (.fieldLink RX8 27 "TaleBans" "land" "LTaleBans$Steppe;") (List.mem_of_getElem? (i := 1) rfl)) (fun x h => h) rfl dX8_reading_2 ?_
  refine lv_iload_n hx hb dX8_reading_5 rfl (lv_at hl 1 rfl) ?_
  obtain ⟨hp, hv⟩ := hv
  refine k_read_e (w := wC cy ad) (va_runVN (As := [.int p_]) (rest := [.ref (ad 0)]) ⟨hx, hb, hml, hown, hts⟩ (h_X6_person D cy ad A p_ σ0 hp) ⟨va_cnB 1 hts gX8_reading_X6_person_n72 rfl rfl rfl (nwm_35 hN) (hts (.initialized RX6) (List.mem_of_getElem? (i := 3) rfl)) (by decide +kernel) ⟨le_R hRf (Nat.le_of_ble_eq_true rfl), le_R hRl (Nat.le_of_ble_eq_true rfl)⟩, (hts (.instanceMethod yX6_person) (List.mem_of_getElem? (i := 2) rfl)), (hts (.selects RX6 yX6_person yX6_person) (List.mem_of_getElem? (i := 4) rfl))⟩ ⟨(fun a U g mk q => ⟨q.1, q.2.blind⟩), va_recv hK hP (ci := 6) (q0 := 11) rfl (wC_11 cy ad σ0), (fun U hU hW => ⟨rfl, WdC.pre hP hK hD hN hU hW⟩)⟩ rfl rfl hl.1 rfl (lv_room (Nat.le_of_ble_eq_true rfl)) dX8_reading_6 ⟨le_R hRc (Nat.le_refl 0), le_R hRs (Nat.le_refl 0)⟩) hS (fun r H locs hr1 hP hS => ?_)
  subst hr1
  cases o2 : (fn_X6_person p_ σ0) with
  | none =>
    have hv := hv.1 o2
    refine W_top (v' := .null) rfl ?_
    refine lv_ifnullN (tgt := 30) hx hb dX8_reading_9 (by decide) ?_
    refine lv_iconst (v := 0) hx hb dX8_reading_30 (by decide) ?_
    refine lv_iload_n hx hb dX8_reading_31 rfl (lv_at hl 3 rfl) ?_
    refine lv_bipush (v := 40) hx hb dX8_reading_32 (by decide) ?_
    refine k_pure_i (va_runS (As := [.int season_, .int 40]) (rest := [.int 0, .ref (ad 0)]) ⟨hx, hb, hml, hown, hts⟩ (h_X8_isOneOf season_ 40) (va_cwS 2 hts gX8_reading_X8_isOneOf rfl rfl rfl (by decide +kernel) ⟨le_R hRf (Nat.le_of_ble_eq_true rfl), le_R hRl (Nat.le_of_ble_eq_true rfl)⟩) ⟨(fun a U g mk q => ⟨q.1, trivial⟩), (fun U hU hW => ⟨rfl, trivial⟩)⟩ rfl rfl hl.1 rfl (lv_room (Nat.le_of_ble_eq_true rfl)) dX8_reading_34 ⟨le_R hRc (Nat.le_refl 0), le_R hRs (Nat.le_refl 0)⟩) hS hP (fun r H locs hr1 hP hS => ?_)
    subst hr1
    have hp := True.intro
    refine k_read_i (w := wC cy ad) (va_runV (As := [.int 0, .int (fn_X8_isOneOf season_ 40)]) (rest := []) ⟨hx, hb, hml, hown, hts⟩ (h_X8_refusal D cy ad A 0 (fn_X8_isOneOf season_ 40) σ0 hp) (cwV 2 hts gX8_reading_X8_refusal rfl rfl rfl (by decide +kernel) ⟨le_R hRf (Nat.le_of_ble_eq_true rfl), le_R hRl (Nat.le_of_ble_eq_true rfl)⟩) ⟨(fun a U g mk q => ⟨q.1, q.2.blind⟩), va_recv hK hP (ci := 8) (q0 := 0) rfl (wC_0 cy ad σ0), (fun U hU hW => ⟨rfl, WdC.pre hP hK hD hN hU hW⟩)⟩ rfl rfl hl.1 rfl (lv_room (Nat.le_of_ble_eq_true rfl)) dX8_reading_37 ⟨le_R hRc (Nat.le_refl 0), le_R hRs (Nat.le_refl 0)⟩) hS (fun r H locs hr1 hP hS => ?_)
    subst hr1
    refine lv_istore (lv' := [(5, .int (fn_X8_refusal 0 (fn_X8_isOneOf season_ 40) σ0)), (0, .ref (ad 0)), (1, .int p_), (2, .int t_), (3, .int season_), (4, .int did_)]) hx hb dX8_reading_40 hl (by decide) rfl (fun ls hl => ?_)
    refine lv_iload hx hb dX8_reading_42 (lv_at hl 0 rfl) ?_
    refine lv_if_eq (tgt := 50) hx hb dX8_reading_44 (by decide) (fun c9 => ?_) (fun c9 => ?_)
    · have hv := hv.1 c9
      refine lv_aload_n hx hb dX8_reading_50 rfl (lv_at hl 1 rfl) ?_
      refine va_get (ci := 8) (v := .ref (ad 11)) (C := RX8) (T := TX8) (N := 5) hx hb hts hinX8 hown hK hP 0 (wC_0 cy ad σ0) rfl 2 (by decide) (hts (.fieldLink RX8 27 "TaleBans" "land" "LTaleBans$Steppe;") (List.mem_of_getElem? (i := 1) rfl)) (fun x h => h) rfl dX8_reading_51 ?_
      refine va_getN (ci := 6) (v := .ref (ad (19))) (C := RX6) (T := TX6) (N := 8) hx hb hts hinX6 hown hK hP 11 (wC_11 cy ad σ0) rfl 4 (by decide) (nw_9 hN) (fun x h => h) rfl dX8_reading_54 ?_
      refine lv_iload_n hx hb dX8_reading_57 rfl (lv_at hl 2 rfl) ?_
      refine lv_iload_n hx hb dX8_reading_58 rfl (lv_at hl 4 rfl) ?_
      refine lv_iload_n hx hb dX8_reading_59 rfl (lv_at hl 3 rfl) ?_
      refine lv_iload hx hb dX8_reading_60 (lv_at hl 5 rfl) ?_
      obtain ⟨P3, hv, hvr⟩ := hv
      have jn4 : ∀ (b5 : Int32) (H : Heap) (locs : List Loc) (ls : Array Slot), P3 b5 → va_P D vwCl (wC cy ad σ0) H → va_S A s.heap H locs → lv_has ls 6 [(5, .int (fn_X8_refusal 0 (fn_X8_isOneOf season_ 40) σ0)), (0, .ref (ad 0)), (1, .int p_), (2, .int t_), (3, .int season_), (4, .int did_)] → W p l e R s m ([.ref (ad 0), .int p_, .int t_, .int season_, .int did_] : List Value).toArray below meth c H locs 0 0 Z (F0 m 70 ls [.int b5, .int t_, .int season_, .int p_, .ref (ad (19))]) := by
        intro b5 H locs ls hv hP hS hl
        have hv := hvr b5 hv
        obtain ⟨hp, hv⟩ := hv
        refine k_rel_i (w := wC cy ad) (va_runVN (As := [.int p_, .int season_, .int t_, .int b5]) (rest := []) ⟨hx, hb, hml, hown, hts⟩ (h_X3_add D cy ad A 3 p_ season_ t_ b5 σ0 (show 3 < 4 by decide) hp) ⟨va_cnB 4 hts gX8_reading_X3_add_n105 rfl rfl rfl (nwm_38 hN) (hts (.initialized RX3) (List.mem_of_getElem? (i := 12) rfl)) (by decide +kernel) ⟨le_R hRf (Nat.le_of_ble_eq_true rfl), le_R hRl (Nat.le_of_ble_eq_true rfl)⟩, (hts (.instanceMethod yX3_add) (List.mem_of_getElem? (i := 24) rfl)), (hts (.selects RX3 yX3_add yX3_add) (List.mem_of_getElem? (i := 25) rfl))⟩ ⟨(fun a U g mk q => ⟨q.1, q.2.blind⟩), va_recv hK hP (ci := 3) (q0 := 19) rfl (wC_19 cy ad σ0), (fun U hU hW => ⟨rfl, WdC.pre hP hK hD hN hU hW⟩)⟩ rfl rfl hl.1 rfl (lv_room (Nat.le_of_ble_eq_true rfl)) dX8_reading_70 ⟨le_R hRc (Nat.le_refl 0), le_R hRs (Nat.le_refl 0)⟩) hS (fun r8 σ7 H locs hr1 hP hD hS => ?_)
        have hv := hv r8 σ7 hr1
        rw [hZ]; rw [hQ] at hv
        exact W.iret (v := r8) hx hb hr (fun t ht hW => ⟨⟨r8, σ7, rfl, hv, ⟨P_of ht hP, hD⟩⟩, hS.F ht⟩) hS.2.2 dX8_reading_73
      refine lv_if_eq (tgt := 69) hx hb dX8_reading_62 (by decide) (fun c6 => ?_) (fun c6 => ?_)
      · have hv := hv.1 c6
        refine lv_iconst (v := 0) hx hb dX8_reading_69 (by decide) ?_
        exact jn4 0 _ _ _ hv hP hS hl
      · have hv := hv.2 c6
        refine lv_iconst (v := 1) hx hb dX8_reading_65 (by decide) ?_
        refine lv_goto (tgt := 70) hx hb dX8_reading_66 (by decide) ?_
        exact jn4 1 _ _ _ hv hP hS hl
    · have hv := hv.2 c9
      refine lv_iload hx hb dX8_reading_47 (lv_at hl 0 rfl) ?_
      rw [hZ]; rw [hQ] at hv
      exact W.iret (v := (fn_X8_refusal 0 (fn_X8_isOneOf season_ 40) σ0)) hx hb hr (fun t ht hW => ⟨⟨(fn_X8_refusal 0 (fn_X8_isOneOf season_ 40) σ0), σ0, rfl, hv, ⟨P_of ht hP, hD⟩⟩, hS.F ht⟩) hS.2.2 dX8_reading_49
  | some j1 =>
    obtain ⟨hj_j1, hv⟩ := hv.2 j1 o2
    refine W_top (v' := .ref ((hget σ0 j1).1)) rfl ?_
    refine lv_ifnull hx hb dX8_reading_9 ?_
    refine lv_aload_n hx hb dX8_reading_12 rfl (lv_at hl 0 rfl) ?_
    refine va_get (ci := 8) (v := .ref (ad 11)) (C := RX8) (T := TX8) (N := 5) hx hb hts hinX8 hown hK hP 0 (wC_0 cy ad σ0) rfl 2 (by decide) (hts (.fieldLink RX8 27 "TaleBans" "land" "LTaleBans$Steppe;") (List.mem_of_getElem? (i := 1) rfl)) (fun x h => h) rfl dX8_reading_13 ?_
    refine va_getN (ci := 6) (v := .ref (ad (13))) (C := RX6) (T := TX6) (N := 8) hx hb hts hinX6 hown hK hP 11 (wC_11 cy ad σ0) rfl 1 (by decide) (nw_5 hN) (fun x h => h) rfl dX8_reading_16 ?_
    refine lv_iload_n hx hb dX8_reading_19 rfl (lv_at hl 2 rfl) ?_
    have hp := True.intro
    refine k_read_i (w := wC cy ad) (va_runVN (As := [.int t_]) (rest := [.ref (ad 0)]) ⟨hx, hb, hml, hown, hts⟩ (h_X3_has D cy ad A 0 t_ σ0 (show 0 < 4 by decide) hp) ⟨va_cnB 1 hts gX8_reading_X3_has_n131 rfl rfl rfl (nwm_42 hN) (hts (.initialized RX3) (List.mem_of_getElem? (i := 12) rfl)) (by decide +kernel) ⟨le_R hRf (Nat.le_of_ble_eq_true rfl), le_R hRl (Nat.le_of_ble_eq_true rfl)⟩, (hts (.instanceMethod yX3_has) (List.mem_of_getElem? (i := 11) rfl)), (hts (.selects RX3 yX3_has yX3_has) (List.mem_of_getElem? (i := 13) rfl))⟩ ⟨(fun a U g mk q => ⟨q.1, q.2.blind⟩), va_recv hK hP (ci := 3) (q0 := 13) rfl (wC_13 cy ad σ0), (fun U hU hW => ⟨rfl, WdC.pre hP hK hD hN hU hW⟩)⟩ rfl rfl hl.1 rfl (lv_room (Nat.le_of_ble_eq_true rfl)) dX8_reading_20 ⟨le_R hRc (Nat.le_refl 0), le_R hRs (Nat.le_refl 0)⟩) hS (fun r H locs hr1 hP hS => ?_)
    subst hr1
    obtain ⟨P10, hv, hvr⟩ := hv
    have jn11 : ∀ (b12 : Int32) (H : Heap) (locs : List Loc) (ls : Array Slot), P10 b12 → va_P D vwCl (wC cy ad σ0) H → va_S A s.heap H locs → lv_has ls 6 [(0, .ref (ad 0)), (1, .int p_), (2, .int t_), (3, .int season_), (4, .int did_)] → W p l e R s m ([.ref (ad 0), .int p_, .int t_, .int season_, .int did_] : List Value).toArray below meth c H locs 0 0 Z (F0 m 31 ls [.int b12, .ref (ad 0)]) := by
      intro b12 H locs ls hv hP hS hl
      have hv := hvr b12 hv
      refine lv_iload_n hx hb dX8_reading_31 rfl (lv_at hl 3 rfl) ?_
      refine lv_bipush (v := 40) hx hb dX8_reading_32 (by decide) ?_
      refine k_pure_i (va_runS (As := [.int season_, .int 40]) (rest := [.int b12, .ref (ad 0)]) ⟨hx, hb, hml, hown, hts⟩ (h_X8_isOneOf season_ 40) (va_cwS 2 hts gX8_reading_X8_isOneOf rfl rfl rfl (by decide +kernel) ⟨le_R hRf (Nat.le_of_ble_eq_true rfl), le_R hRl (Nat.le_of_ble_eq_true rfl)⟩) ⟨(fun a U g mk q => ⟨q.1, trivial⟩), (fun U hU hW => ⟨rfl, trivial⟩)⟩ rfl rfl hl.1 rfl (lv_room (Nat.le_of_ble_eq_true rfl)) dX8_reading_34 ⟨le_R hRc (Nat.le_refl 0), le_R hRs (Nat.le_refl 0)⟩) hS hP (fun r H locs hr1 hP hS => ?_)
      subst hr1
      have hp := True.intro
      refine k_read_i (w := wC cy ad) (va_runV (As := [.int b12, .int (fn_X8_isOneOf season_ 40)]) (rest := []) ⟨hx, hb, hml, hown, hts⟩ (h_X8_refusal D cy ad A b12 (fn_X8_isOneOf season_ 40) σ0 hp) (cwV 2 hts gX8_reading_X8_refusal rfl rfl rfl (by decide +kernel) ⟨le_R hRf (Nat.le_of_ble_eq_true rfl), le_R hRl (Nat.le_of_ble_eq_true rfl)⟩) ⟨(fun a U g mk q => ⟨q.1, q.2.blind⟩), va_recv hK hP (ci := 8) (q0 := 0) rfl (wC_0 cy ad σ0), (fun U hU hW => ⟨rfl, WdC.pre hP hK hD hN hU hW⟩)⟩ rfl rfl hl.1 rfl (lv_room (Nat.le_of_ble_eq_true rfl)) dX8_reading_37 ⟨le_R hRc (Nat.le_refl 0), le_R hRs (Nat.le_refl 0)⟩) hS (fun r H locs hr1 hP hS => ?_)
      subst hr1
      refine lv_istore (lv' := [(5, .int (fn_X8_refusal b12 (fn_X8_isOneOf season_ 40) σ0)), (0, .ref (ad 0)), (1, .int p_), (2, .int t_), (3, .int season_), (4, .int did_)]) hx hb dX8_reading_40 hl (by decide) rfl (fun ls hl => ?_)
      refine lv_iload hx hb dX8_reading_42 (lv_at hl 0 rfl) ?_
      refine lv_if_eq (tgt := 50) hx hb dX8_reading_44 (by decide) (fun c20 => ?_) (fun c20 => ?_)
      · have hv := hv.1 c20
        refine lv_aload_n hx hb dX8_reading_50 rfl (lv_at hl 1 rfl) ?_
        refine va_get (ci := 8) (v := .ref (ad 11)) (C := RX8) (T := TX8) (N := 5) hx hb hts hinX8 hown hK hP 0 (wC_0 cy ad σ0) rfl 2 (by decide) (hts (.fieldLink RX8 27 "TaleBans" "land" "LTaleBans$Steppe;") (List.mem_of_getElem? (i := 1) rfl)) (fun x h => h) rfl dX8_reading_51 ?_
        refine va_getN (ci := 6) (v := .ref (ad (19))) (C := RX6) (T := TX6) (N := 8) hx hb hts hinX6 hown hK hP 11 (wC_11 cy ad σ0) rfl 4 (by decide) (nw_9 hN) (fun x h => h) rfl dX8_reading_54 ?_
        refine lv_iload_n hx hb dX8_reading_57 rfl (lv_at hl 2 rfl) ?_
        refine lv_iload_n hx hb dX8_reading_58 rfl (lv_at hl 4 rfl) ?_
        refine lv_iload_n hx hb dX8_reading_59 rfl (lv_at hl 3 rfl) ?_
        refine lv_iload hx hb dX8_reading_60 (lv_at hl 5 rfl) ?_
        obtain ⟨P14, hv, hvr⟩ := hv
        have jn15 : ∀ (b16 : Int32) (H : Heap) (locs : List Loc) (ls : Array Slot), P14 b16 → va_P D vwCl (wC cy ad σ0) H → va_S A s.heap H locs → lv_has ls 6 [(5, .int (fn_X8_refusal b12 (fn_X8_isOneOf season_ 40) σ0)), (0, .ref (ad 0)), (1, .int p_), (2, .int t_), (3, .int season_), (4, .int did_)] → W p l e R s m ([.ref (ad 0), .int p_, .int t_, .int season_, .int did_] : List Value).toArray below meth c H locs 0 0 Z (F0 m 70 ls [.int b16, .int t_, .int season_, .int p_, .ref (ad (19))]) := by
          intro b16 H locs ls hv hP hS hl
          have hv := hvr b16 hv
          obtain ⟨hp, hv⟩ := hv
          refine k_rel_i (w := wC cy ad) (va_runVN (As := [.int p_, .int season_, .int t_, .int b16]) (rest := []) ⟨hx, hb, hml, hown, hts⟩ (h_X3_add D cy ad A 3 p_ season_ t_ b16 σ0 (show 3 < 4 by decide) hp) ⟨va_cnB 4 hts gX8_reading_X3_add_n105 rfl rfl rfl (nwm_38 hN) (hts (.initialized RX3) (List.mem_of_getElem? (i := 12) rfl)) (by decide +kernel) ⟨le_R hRf (Nat.le_of_ble_eq_true rfl), le_R hRl (Nat.le_of_ble_eq_true rfl)⟩, (hts (.instanceMethod yX3_add) (List.mem_of_getElem? (i := 24) rfl)), (hts (.selects RX3 yX3_add yX3_add) (List.mem_of_getElem? (i := 25) rfl))⟩ ⟨(fun a U g mk q => ⟨q.1, q.2.blind⟩), va_recv hK hP (ci := 3) (q0 := 19) rfl (wC_19 cy ad σ0), (fun U hU hW => ⟨rfl, WdC.pre hP hK hD hN hU hW⟩)⟩ rfl rfl hl.1 rfl (lv_room (Nat.le_of_ble_eq_true rfl)) dX8_reading_70 ⟨le_R hRc (Nat.le_refl 0), le_R hRs (Nat.le_refl 0)⟩) hS (fun r19 σ18 H locs hr1 hP hD hS => ?_)
          have hv := hv r19 σ18 hr1
          rw [hZ]; rw [hQ] at hv
          exact W.iret (v := r19) hx hb hr (fun t ht hW => ⟨⟨r19, σ18, rfl, hv, ⟨P_of ht hP, hD⟩⟩, hS.F ht⟩) hS.2.2 dX8_reading_73
        refine lv_if_eq (tgt := 69) hx hb dX8_reading_62 (by decide) (fun c17 => ?_) (fun c17 => ?_)
        · have hv := hv.1 c17
          refine lv_iconst (v := 0) hx hb dX8_reading_69 (by decide) ?_
          exact jn15 0 _ _ _ hv hP hS hl
        · have hv := hv.2 c17
          refine lv_iconst (v := 1) hx hb dX8_reading_65 (by decide) ?_
          refine lv_goto (tgt := 70) hx hb dX8_reading_66 (by decide) ?_
          exact jn15 1 _ _ _ hv hP hS hl
      · have hv := hv.2 c20
        refine lv_iload hx hb dX8_reading_47 (lv_at hl 0 rfl) ?_
        rw [hZ]; rw [hQ] at hv
        exact W.iret (v := (fn_X8_refusal b12 (fn_X8_isOneOf season_ 40) σ0)) hx hb hr (fun t ht hW => ⟨⟨(fn_X8_refusal b12 (fn_X8_isOneOf season_ 40) σ0), σ0, rfl, hv, ⟨P_of ht hP, hD⟩⟩, hS.F ht⟩) hS.2.2 dX8_reading_49
    refine lv_if_eq (tgt := 30) hx hb dX8_reading_23 (by decide) (fun c13 => ?_) (fun c13 => ?_)
    · have hv := hv.1 c13
      refine lv_iconst (v := 0) hx hb dX8_reading_30 (by decide) ?_
      exact jn11 0 _ _ _ hv hP hS hl
    · have hv := hv.2 c13
      refine lv_iconst (v := 1) hx hb dX8_reading_26 (by decide) ?_
      refine lv_goto (tgt := 31) hx hb dX8_reading_27 (by decide) ?_
      exact jn11 1 _ _ _ hv hP hS hl
set_option maxHeartbeats 4000000 in
set_option maxRecDepth 100000 in
theorem wk_X8_back (l : Launch) (h_X3_takeBack : Ct_X3_takeBack l) (sp : Sp_X8_back) : Ct_X8_back l := by
  intro D cy ad A k_ ag σ0  hpre
  refine Met.ofW (cc := cX8_back) (maxL := 2) (ret := (some .int)) (by decide) rfl ?_
  intro p e s m args below meth c s₁ B hml hv0
  obtain ⟨rfl, hP, hK, hD, hN⟩ := hv0
  have hx := B.exec
  have hb := B.bytes
  have hr := B.returns
  have hts := atoms_spec (ws := wsX8_back) B.pre
  have hown : s.vm.findClass RX8 = some m.cls := findClass_of_methodNamed B.named
  have hlocks := B.notSynchronized
  have hv := sp k_ ag σ0 hpre
  have hl := lv_entry ([.ref (ad 0), .int k_]) (n := 2) (Nat.le_of_ble_eq_true rfl)
  rw [lg_entry_eq]
  generalize (lg_sl ([.ref (ad 0), .int k_]) ++ List.replicate (2 - (lg_sl ([.ref (ad 0), .int k_])).length) Slot.unset).toArray = ls at hl ⊢
  have hl : lv_has ls 2 [(0, .ref (ad 0)), (1, .int k_)] := hl
  refine W_gen (fun R Z H locs hR hZ hH hlo => ?_)
  have hRf : R.frames = 1 := by rw [hR]; rfl
  have hRl : R.locals = 21 := by rw [hR]; rfl
  have hRc : R.cells = 0 := by rw [hR]; rfl
  have hRs : R.slots = 0 := by rw [hR]; rfl
  have hS : va_S A s.heap H locs := by rw [hH, hlo]; exact va_S.rf
  rw [← hH] at hP
  obtain ⟨Q, hQ⟩ : ∃ q : Int32 → S_ → Prop, q = (post_X8_back k_ ag σ0) := ⟨_, rfl⟩
  rw [← hQ] at hv
  have hinX6 : ∀ w ∈ wsX60, w ∈ wsX8_back := by decide +kernel
  have hinX8 : ∀ w ∈ wsX80, w ∈ wsX8_back := by decide +kernel
  refine lv_aload_n hx hb dX8_back_0 rfl (lv_at hl 0 rfl) ?_
  refine va_get (ci := 8) (v := .ref (ad 11)) (C := RX8) (T := TX8) (N := 5) hx hb hts hinX8 hown hK hP 0 (wC_0 cy ad σ0) rfl 2 (by decide) (hts (.fieldLink RX8 27 "TaleBans" "land" "LTaleBans$Steppe;") (List.mem_of_getElem? (i := 1) rfl)) (fun x h => h) rfl dX8_back_1 ?_
  refine va_getN (ci := 6) (v := .ref (ad (19))) (C := RX6) (T := TX6) (N := 8) hx hb hts hinX6 hown hK hP 11 (wC_11 cy ad σ0) rfl 4 (by decide) (nw_9 hN) (fun x h => h) rfl dX8_back_4 ?_
  refine lv_iload_n hx hb dX8_back_7 rfl (lv_at hl 1 rfl) ?_
  have hp := True.intro
  refine k_rel_i (w := wC cy ad) (va_runVN (As := [.int k_]) (rest := []) ⟨hx, hb, hml, hown, hts⟩ (h_X3_takeBack D cy ad A 3 k_ σ0 (show 3 < 4 by decide) hp) ⟨va_cnB 1 hts gX8_back_X3_takeBack_n111 rfl rfl rfl (nwm_40 hN) (hts (.initialized RX3) (List.mem_of_getElem? (i := 3) rfl)) (by decide +kernel) ⟨le_R hRf (Nat.le_of_ble_eq_true rfl), le_R hRl (Nat.le_of_ble_eq_true rfl)⟩, (hts (.instanceMethod yX3_takeBack) (List.mem_of_getElem? (i := 2) rfl)), (hts (.selects RX3 yX3_takeBack yX3_takeBack) (List.mem_of_getElem? (i := 4) rfl))⟩ ⟨(fun a U g mk q => ⟨q.1, q.2.blind⟩), va_recv hK hP (ci := 3) (q0 := 19) rfl (wC_19 cy ad σ0), (fun U hU hW => ⟨rfl, WdC.pre hP hK hD hN hU hW⟩)⟩ rfl rfl hl.1 rfl (lv_room (Nat.le_of_ble_eq_true rfl)) dX8_back_8 ⟨le_R hRc (Nat.le_refl 0), le_R hRs (Nat.le_refl 0)⟩) hS (fun r2 σ1 H locs hr1 hP hD hS => ?_)
  have hv := hv r2 σ1 hr1
  rw [hZ]; rw [hQ] at hv
  exact W.iret (v := r2) hx hb hr (fun t ht hW => ⟨⟨r2, σ1, rfl, hv, ⟨P_of ht hP, hD⟩⟩, hS.F ht⟩) hS.2.2 dX8_back_11
set_option maxHeartbeats 4000000 in
set_option maxRecDepth 100000 in
theorem wk_X8_comes (l : Launch) (h_X3_at : Ct_X3_at l) (h_X3_has : Ct_X3_has l) (h_X3_set : Ct_X3_set l) (h_X8_areReadingsSo : Ct_X8_areReadingsSo l) (sp : Sp_X8_comes) : Ct_X8_comes l := by
  intro D cy ad A t_ ag σ0  hpre
  refine Met.ofW (cc := cX8_comes) (maxL := 5) (ret := (some .int)) (by decide) rfl ?_
  intro p e s m args below meth c s₁ B hml hv0
  obtain ⟨rfl, hP, hK, hD, hN⟩ := hv0
  have hx := B.exec
  have hb := B.bytes
  have hr := B.returns
  have hts := atoms_spec (ws := wsX8_comes) B.pre
  have hown : s.vm.findClass RX8 = some m.cls := findClass_of_methodNamed B.named
  have hlocks := B.notSynchronized
  have hv := sp t_ ag σ0 hpre
  have hl := lv_entry ([.ref (ad 0), .int t_]) (n := 5) (Nat.le_of_ble_eq_true rfl)
  rw [lg_entry_eq]
  generalize (lg_sl ([.ref (ad 0), .int t_]) ++ List.replicate (5 - (lg_sl ([.ref (ad 0), .int t_])).length) Slot.unset).toArray = ls at hl ⊢
  have hl : lv_has ls 5 [(0, .ref (ad 0)), (1, .int t_)] := hl
  refine W_gen (fun R Z H locs hR hZ hH hlo => ?_)
  have hRf : R.frames = 5 := by rw [hR]; rfl
  have hRl : R.locals = 114 := by rw [hR]; rfl
  have hRc : R.cells = 0 := by rw [hR]; rfl
  have hRs : R.slots = 0 := by rw [hR]; rfl
  have hS : va_S A s.heap H locs := by rw [hH, hlo]; exact va_S.rf
  rw [← hH] at hP
  obtain ⟨Q, hQ⟩ : ∃ q : Int32 → S_ → Prop, q = (post_X8_comes t_ ag σ0) := ⟨_, rfl⟩
  rw [← hQ] at hv
  have hinX6 : ∀ w ∈ wsX60, w ∈ wsX8_comes := by decide +kernel
  have hinX8 : ∀ w ∈ wsX80, w ∈ wsX8_comes := by decide +kernel
  refine lv_aload_n hx hb dX8_comes_0 rfl (lv_at hl 0 rfl) ?_
  refine va_get (ci := 8) (v := .ref (ad 11)) (C := RX8) (T := TX8) (N := 5) hx hb hts hinX8 hown hK hP 0 (wC_0 cy ad σ0) rfl 2 (by decide) (hts (.fieldLink RX8 27 "TaleBans" "land" "LTaleBans$Steppe;") (List.mem_of_getElem? (i := 1) rfl)) (fun x h => h) rfl dX8_comes_1 ?_
  refine va_getN (ci := 6) (v := .ref (ad (13))) (C := RX6) (T := TX6) (N := 8) hx hb hts hinX6 hown hK hP 11 (wC_11 cy ad σ0) rfl 1 (by decide) (nw_5 hN) (fun x h => h) rfl dX8_comes_4 ?_
  refine lv_iload_n hx hb dX8_comes_7 rfl (lv_at hl 1 rfl) ?_
  have hp := True.intro
  refine k_read_i (w := wC cy ad) (va_runVN (As := [.int t_]) (rest := []) ⟨hx, hb, hml, hown, hts⟩ (h_X3_has D cy ad A 0 t_ σ0 (show 0 < 4 by decide) hp) ⟨va_cnB 1 hts gX8_comes_X3_has_n131 rfl rfl rfl (nwm_42 hN) (hts (.initialized RX3) (List.mem_of_getElem? (i := 3) rfl)) (by decide +kernel) ⟨le_R hRf (Nat.le_of_ble_eq_true rfl), le_R hRl (Nat.le_of_ble_eq_true rfl)⟩, (hts (.instanceMethod yX3_has) (List.mem_of_getElem? (i := 2) rfl)), (hts (.selects RX3 yX3_has yX3_has) (List.mem_of_getElem? (i := 4) rfl))⟩ ⟨(fun a U g mk q => ⟨q.1, q.2.blind⟩), va_recv hK hP (ci := 3) (q0 := 13) rfl (wC_13 cy ad σ0), (fun U hU hW => ⟨rfl, WdC.pre hP hK hD hN hU hW⟩)⟩ rfl rfl hl.1 rfl (lv_room (Nat.le_of_ble_eq_true rfl)) dX8_comes_8 ⟨le_R hRc (Nat.le_refl 0), le_R hRs (Nat.le_refl 0)⟩) hS (fun r H locs hr1 hP hS => ?_)
  subst hr1
  refine lv_if_ne (tgt := 16) hx hb dX8_comes_11 (by decide) (fun c11 => ?_) (fun c11 => ?_)
  · have hv := hv.1 c11
    refine lv_aload_n hx hb dX8_comes_16 rfl (lv_at hl 0 rfl) ?_
    refine va_get (ci := 8) (v := .ref (ad 11)) (C := RX8) (T := TX8) (N := 5) hx hb hts hinX8 hown hK hP 0 (wC_0 cy ad σ0) rfl 2 (by decide) (hts (.fieldLink RX8 27 "TaleBans" "land" "LTaleBans$Steppe;") (List.mem_of_getElem? (i := 1) rfl)) (fun x h => h) rfl dX8_comes_17 ?_
    refine va_getN (ci := 6) (v := .ref (ad (13))) (C := RX6) (T := TX6) (N := 8) hx hb hts hinX6 hown hK hP 11 (wC_11 cy ad σ0) rfl 1 (by decide) (nw_5 hN) (fun x h => h) rfl dX8_comes_20 ?_
    refine lv_iload_n hx hb dX8_comes_23 rfl (lv_at hl 1 rfl) ?_
    refine lv_iconst (v := 0) hx hb dX8_comes_24 (by decide) ?_
    obtain ⟨hp, hv⟩ := hv
    refine k_read_i (w := wC cy ad) (va_runVN (As := [.int t_, .int 0]) (rest := []) ⟨hx, hb, hml, hown, hts⟩ (h_X3_at D cy ad A 0 t_ 0 σ0 (show 0 < 4 by decide) hp) ⟨va_cnB 2 hts gX8_comes_X3_at_n135 rfl rfl rfl (nwm_43 hN) (hts (.initialized RX3) (List.mem_of_getElem? (i := 3) rfl)) (by decide +kernel) ⟨le_R hRf (Nat.le_of_ble_eq_true rfl), le_R hRl (Nat.le_of_ble_eq_true rfl)⟩, (hts (.instanceMethod yX3_at) (List.mem_of_getElem? (i := 7) rfl)), (hts (.selects RX3 yX3_at yX3_at) (List.mem_of_getElem? (i := 8) rfl))⟩ ⟨(fun a U g mk q => ⟨q.1, q.2.blind⟩), va_recv hK hP (ci := 3) (q0 := 13) rfl (wC_13 cy ad σ0), (fun U hU hW => ⟨rfl, WdC.pre hP hK hD hN hU hW⟩)⟩ rfl rfl hl.1 rfl (lv_room (Nat.le_of_ble_eq_true rfl)) dX8_comes_25 ⟨le_R hRc (Nat.le_refl 0), le_R hRs (Nat.le_refl 0)⟩) hS (fun r H locs hr1 hP hS => ?_)
    subst hr1
    refine lv_istore_n (lv' := [(2, .int (fn_X3_at 0 t_ 0 σ0)), (0, .ref (ad 0)), (1, .int t_)]) hx hb dX8_comes_28 rfl hl (by decide) rfl (fun ls hl => ?_)
    refine lv_iconst (v := 0) hx hb dX8_comes_29 (by decide) ?_
    refine lv_istore_n (lv' := [(3, .int 0), (2, .int (fn_X3_at 0 t_ 0 σ0)), (0, .ref (ad 0)), (1, .int t_)]) hx hb dX8_comes_30 rfl hl (by decide) rfl (fun ls hl => ?_)
    refine lv_iconst (v := 0) hx hb dX8_comes_31 (by decide) ?_
    refine lv_istore (lv' := [(4, .int 0), (3, .int 0), (2, .int (fn_X3_at 0 t_ 0 σ0)), (0, .ref (ad 0)), (1, .int t_)]) hx hb dX8_comes_32 hl (by decide) rfl (fun ls hl => ?_)
    obtain ⟨n34, hv⟩ := hv
    have lp34 : ∀ (nn34 : Nat) (x1 : Int32) (x2 : Int32) (σ3 : S_) (H : Heap) (locs : List Loc) (ls : Array Slot), vl_X8_comes_34 t_ σ0 Q nn34 x1 x2 σ3 → va_P D vwCl (wC cy ad σ3) H → va_D A (wC cy ad σ3) → va_S A s.heap H locs → lv_has ls 5 [(0, .ref (ad 0)), (1, .int t_), (2, .int (fn_X3_at 0 t_ 0 σ0)), (3, .int x1), (4, .int x2)] → W p l e R s m ([.ref (ad 0), .int t_] : List Value).toArray  below meth c H locs 0 0 Z (F0 m 34 ls []) := by
      intro nn34
      induction nn34 with
      | zero => intro x1 x2 σ3 H locs ls hv; exact absurd hv id
      | succ mm34 ih34 =>
        intro x1 x2 σ3 H locs ls hv hP hD hS hl
        refine lv_iload hx hb dX8_comes_34 (lv_at hl 4 rfl) ?_
        refine lv_aload_n hx hb dX8_comes_36 rfl (lv_at hl 0 rfl) ?_
        refine va_get (ci := 8) (v := .ref (ad 11)) (C := RX8) (T := TX8) (N := 5) hx hb hts hinX8 hown hK hP 0 (wC_0 cy ad σ3) rfl 2 (by decide) (hts (.fieldLink RX8 27 "TaleBans" "land" "LTaleBans$Steppe;") (List.mem_of_getElem? (i := 1) rfl)) (fun x h => h) rfl dX8_comes_37 ?_
        refine va_getN (ci := 6) (v := .int (rdI σ3 2)) (C := RX6) (T := TX6) (N := 8) hx hb hts hinX6 hown hK hP 11 (wC_11 cy ad σ3) rfl 5 (by decide) (nw_11 hN) (fun x h => h) rfl dX8_comes_40 ?_
        refine lv_icmp_ge (tgt := 94) hx hb dX8_comes_43 (by decide) (fun c10 => ?_) (fun c10 => ?_)
        · have hv := hv.1 c10
          refine lv_aload_n hx hb dX8_comes_94 rfl (lv_at hl 0 rfl) ?_
          refine va_get (ci := 8) (v := .ref (ad 11)) (C := RX8) (T := TX8) (N := 5) hx hb hts hinX8 hown hK hP 0 (wC_0 cy ad σ3) rfl 2 (by decide) (hts (.fieldLink RX8 27 "TaleBans" "land" "LTaleBans$Steppe;") (List.mem_of_getElem? (i := 1) rfl)) (fun x h => h) rfl dX8_comes_95 ?_
          refine va_getN (ci := 6) (v := .ref (ad (13))) (C := RX6) (T := TX6) (N := 8) hx hb hts hinX6 hown hK hP 11 (wC_11 cy ad σ3) rfl 1 (by decide) (nw_5 hN) (fun x h => h) rfl dX8_comes_98 ?_
          refine lv_iload_n hx hb dX8_comes_101 rfl (lv_at hl 1 rfl) ?_
          refine lv_iconst (v := 0) hx hb dX8_comes_102 (by decide) ?_
          refine lv_iload_n hx hb dX8_comes_103 rfl (lv_at hl 2 rfl) ?_
          obtain ⟨hp, hv⟩ := hv
          refine k_rel_v (w := wC cy ad) (va_runVN (As := [.int t_, .int 0, .int (fn_X3_at 0 t_ 0 σ0)]) (rest := []) ⟨hx, hb, hml, hown, hts⟩ (h_X3_set D cy ad A 0 t_ 0 (fn_X3_at 0 t_ 0 σ0) σ3 (show 0 < 4 by decide) hp) ⟨va_cnB 3 hts gX8_comes_X3_set_n139 rfl rfl rfl (nwm_44 hN) (hts (.initialized RX3) (List.mem_of_getElem? (i := 3) rfl)) (by decide +kernel) ⟨le_R hRf (Nat.le_of_ble_eq_true rfl), le_R hRl (Nat.le_of_ble_eq_true rfl)⟩, (hts (.instanceMethod yX3_set) (List.mem_of_getElem? (i := 15) rfl)), (hts (.selects RX3 yX3_set yX3_set) (List.mem_of_getElem? (i := 16) rfl))⟩ ⟨(fun a U g mk q => ⟨q.1, q.2.blind⟩), va_recv hK hP (ci := 3) (q0 := 13) rfl (wC_13 cy ad σ3), (fun U hU hW => ⟨rfl, WdC.pre hP hK hD hN hU hW⟩)⟩ rfl rfl hl.1 rfl (lv_room (Nat.le_of_ble_eq_true rfl)) dX8_comes_104 ⟨le_R hRc (Nat.le_refl 0), le_R hRs (Nat.le_refl 0)⟩) hS (fun σ4 H locs hr1 hP hD hS => ?_)
          have hv := hv σ4 hr1
          refine lv_iload_n hx hb dX8_comes_107 rfl (lv_at hl 3 rfl) ?_
          rw [hZ]; rw [hQ] at hv
          exact W.iret (v := x1) hx hb hr (fun t ht hW => ⟨⟨x1, σ4, rfl, hv, ⟨P_of ht hP, hD⟩⟩, hS.F ht⟩) hS.2.2 dX8_comes_108
        · have hv := hv.2 c10
          refine lv_aload_n hx hb dX8_comes_46 rfl (lv_at hl 0 rfl) ?_
          refine va_get (ci := 8) (v := .ref (ad 11)) (C := RX8) (T := TX8) (N := 5) hx hb hts hinX8 hown hK hP 0 (wC_0 cy ad σ3) rfl 2 (by decide) (hts (.fieldLink RX8 27 "TaleBans" "land" "LTaleBans$Steppe;") (List.mem_of_getElem? (i := 1) rfl)) (fun x h => h) rfl dX8_comes_47 ?_
          refine va_getN (ci := 6) (v := .ref (ad (13))) (C := RX6) (T := TX6) (N := 8) hx hb hts hinX6 hown hK hP 11 (wC_11 cy ad σ3) rfl 1 (by decide) (nw_5 hN) (fun x h => h) rfl dX8_comes_50 ?_
          refine lv_iload_n hx hb dX8_comes_53 rfl (lv_at hl 1 rfl) ?_
          refine lv_iconst (v := 0) hx hb dX8_comes_54 (by decide) ?_
          refine lv_iload hx hb dX8_comes_55 (lv_at hl 4 rfl) ?_
          obtain ⟨hp, hv⟩ := hv
          refine k_rel_v (w := wC cy ad) (va_runVN (As := [.int t_, .int 0, .int x2]) (rest := []) ⟨hx, hb, hml, hown, hts⟩ (h_X3_set D cy ad A 0 t_ 0 x2 σ3 (show 0 < 4 by decide) hp) ⟨va_cnB 3 hts gX8_comes_X3_set_n139 rfl rfl rfl (nwm_44 hN) (hts (.initialized RX3) (List.mem_of_getElem? (i := 3) rfl)) (by decide +kernel) ⟨le_R hRf (Nat.le_of_ble_eq_true rfl), le_R hRl (Nat.le_of_ble_eq_true rfl)⟩, (hts (.instanceMethod yX3_set) (List.mem_of_getElem? (i := 15) rfl)), (hts (.selects RX3 yX3_set yX3_set) (List.mem_of_getElem? (i := 16) rfl))⟩ ⟨(fun a U g mk q => ⟨q.1, q.2.blind⟩), va_recv hK hP (ci := 3) (q0 := 13) rfl (wC_13 cy ad σ3), (fun U hU hW => ⟨rfl, WdC.pre hP hK hD hN hU hW⟩)⟩ rfl rfl hl.1 rfl (lv_room (Nat.le_of_ble_eq_true rfl)) dX8_comes_57 ⟨le_R hRc (Nat.le_refl 0), le_R hRs (Nat.le_refl 0)⟩) hS (fun σ5 H locs hr1 hP hD hS => ?_)
          have hv := hv σ5 hr1
          refine lv_aload_n hx hb dX8_comes_60 rfl (lv_at hl 0 rfl) ?_
          refine lv_aload_n hx hb dX8_comes_61 rfl (lv_at hl 0 rfl) ?_
          refine va_get (ci := 8) (v := .ref (ad 11)) (C := RX8) (T := TX8) (N := 5) hx hb hts hinX8 hown hK hP 0 (wC_0 cy ad σ5) rfl 2 (by decide) (hts (.fieldLink RX8 27 "TaleBans" "land" "LTaleBans$Steppe;") (List.mem_of_getElem? (i := 1) rfl)) (fun x h => h) rfl dX8_comes_62 ?_
          refine va_getN (ci := 6) (v := .int (rdI σ5 3)) (C := RX6) (T := TX6) (N := 8) hx hb hts hinX6 hown hK hP 11 (wC_11 cy ad σ5) rfl 6 (by decide) (nw_12 hN) (fun x h => h) rfl dX8_comes_65 ?_
          refine lv_aload_n hx hb dX8_comes_68 rfl (lv_at hl 0 rfl) ?_
          refine va_get (ci := 8) (v := .ref (ad 11)) (C := RX8) (T := TX8) (N := 5) hx hb hts hinX8 hown hK hP 0 (wC_0 cy ad σ5) rfl 2 (by decide) (hts (.fieldLink RX8 27 "TaleBans" "land" "LTaleBans$Steppe;") (List.mem_of_getElem? (i := 1) rfl)) (fun x h => h) rfl dX8_comes_69 ?_
          refine va_getN (ci := 6) (v := .int (rdI σ5 4)) (C := RX6) (T := TX6) (N := 8) hx hb hts hinX6 hown hK hP 11 (wC_11 cy ad σ5) rfl 7 (by decide) (nw_13 hN) (fun x h => h) rfl dX8_comes_72 ?_
          obtain ⟨g6, hv⟩ := hv
          obtain ⟨hp, hv⟩ := hv
          refine k_rel_i (w := wC cy ad) (va_runV (As := [.int (rdI σ5 3), .int (rdI σ5 4)]) (rest := []) ⟨hx, hb, hml, hown, hts⟩ (h_X8_areReadingsSo D cy ad A (rdI σ5 3) (rdI σ5 4) g6 σ5 hp) (cwV 2 hts gX8_comes_X8_areReadingsSo rfl rfl rfl (by decide +kernel) ⟨le_R hRf (Nat.le_of_ble_eq_true rfl), le_R hRl (Nat.le_of_ble_eq_true rfl)⟩) ⟨(fun a U g mk q => ⟨q.1, q.2.blind⟩), va_recv hK hP (ci := 8) (q0 := 0) rfl (wC_0 cy ad σ5), (fun U hU hW => ⟨rfl, WdC.pre hP hK hD hN hU hW⟩)⟩ rfl rfl hl.1 rfl (lv_room (Nat.le_of_ble_eq_true rfl)) dX8_comes_75 ⟨le_R hRc (Nat.le_refl 0), le_R hRs (Nat.le_refl 0)⟩) hS (fun r8 σ7 H locs hr1 hP hD hS => ?_)
          have hv := hv r8 σ7 hr1
          refine lv_if_eq (tgt := 88) hx hb dX8_comes_78 (by decide) (fun c9 => ?_) (fun c9 => ?_)
          · have hv := hv.1 c9
            refine lv_iinc (v := (x2 + 1)) (lv' := [(4, .int (x2 + 1)), (0, .ref (ad 0)), (1, .int t_), (2, .int (fn_X3_at 0 t_ 0 σ0)), (3, .int x1)]) hx hb dX8_comes_88 hl (k := 4) rfl rfl (by decide) rfl (fun ls hl => ?_)
            refine lv_goto (tgt := 34) hx hb dX8_comes_91 (by decide) ?_
            exact ih34 x1 (x2 + 1) σ7 _ _ _ hv hP hD hS (lv_sub hl [1, 2, 3, 4, 0] rfl)
          · have hv := hv.2 c9
            refine lv_iload_n hx hb dX8_comes_81 rfl (lv_at hl 3 rfl) ?_
            refine lv_iconst (v := 1) hx hb dX8_comes_82 (by decide) ?_
            refine lv_iload hx hb dX8_comes_83 (lv_at hl 4 rfl) ?_
            refine lv_ishl hx hb dX8_comes_85 ?_
            refine lv_ior hx hb dX8_comes_86 ?_
            refine lv_istore_n (lv' := [(3, .int (x1 ||| (1 <<< (x2 &&& 31)))), (0, .ref (ad 0)), (1, .int t_), (2, .int (fn_X3_at 0 t_ 0 σ0)), (4, .int x2)]) hx hb dX8_comes_87 rfl hl (by decide) rfl (fun ls hl => ?_)
            refine lv_iinc (v := (x2 + 1)) (lv' := [(4, .int (x2 + 1)), (3, .int (x1 ||| (1 <<< (x2 &&& 31)))), (0, .ref (ad 0)), (1, .int t_), (2, .int (fn_X3_at 0 t_ 0 σ0))]) hx hb dX8_comes_88 hl (k := 4) rfl rfl (by decide) rfl (fun ls hl => ?_)
            refine lv_goto (tgt := 34) hx hb dX8_comes_91 (by decide) ?_
            exact ih34 (x1 ||| (1 <<< (x2 &&& 31))) (x2 + 1) σ7 _ _ _ hv hP hD hS (lv_sub hl [2, 3, 4, 1, 0] rfl)
    exact lp34 n34 0 0 σ0 _ _ _ hv hP hD hS (lv_sub hl [3, 4, 2, 1, 0] rfl)
  · have hv := hv.2 c11
    refine lv_iconst (v := (-1)) hx hb dX8_comes_14 (by decide) ?_
    rw [hZ]; rw [hQ] at hv
    exact W.iret (v := (-1)) hx hb hr (fun t ht hW => ⟨⟨(-1), σ0, rfl, hv, ⟨P_of ht hP, hD⟩⟩, hS.F ht⟩) hS.2.2 dX8_comes_15
set_option maxHeartbeats 4000000 in
set_option maxRecDepth 100000 in
theorem wk_X8_paid (l : Launch) (h_X6_isEmpty : Ct_X6_isEmpty l) (h_X8_areReadingsSo : Ct_X8_areReadingsSo l) (sp : Sp_X8_paid) : Ct_X8_paid l := by
  intro D cy ad A  ag σ0  hpre
  refine Met.ofW (cc := cX8_paid) (maxL := 3) (ret := (some .int)) (by decide) rfl ?_
  intro p e s m args below meth c s₁ B hml hv0
  obtain ⟨rfl, hP, hK, hD, hN⟩ := hv0
  have hx := B.exec
  have hb := B.bytes
  have hr := B.returns
  have hts := atoms_spec (ws := wsX8_paid) B.pre
  have hown : s.vm.findClass RX8 = some m.cls := findClass_of_methodNamed B.named
  have hlocks := B.notSynchronized
  have hv := sp  ag σ0 hpre
  have hl := lv_entry ([.ref (ad 0)]) (n := 3) (Nat.le_of_ble_eq_true rfl)
  rw [lg_entry_eq]
  generalize (lg_sl ([.ref (ad 0)]) ++ List.replicate (3 - (lg_sl ([.ref (ad 0)])).length) Slot.unset).toArray = ls at hl ⊢
  have hl : lv_has ls 3 [(0, .ref (ad 0))] := hl
  refine W_gen (fun R Z H locs hR hZ hH hlo => ?_)
  have hRf : R.frames = 5 := by rw [hR]; rfl
  have hRl : R.locals = 114 := by rw [hR]; rfl
  have hRc : R.cells = 0 := by rw [hR]; rfl
  have hRs : R.slots = 0 := by rw [hR]; rfl
  have hS : va_S A s.heap H locs := by rw [hH, hlo]; exact va_S.rf
  rw [← hH] at hP
  obtain ⟨Q, hQ⟩ : ∃ q : Int32 → S_ → Prop, q = (post_X8_paid  ag σ0) := ⟨_, rfl⟩
  rw [← hQ] at hv
  have hinX6 : ∀ w ∈ wsX60, w ∈ wsX8_paid := by decide +kernel
  have hinX8 : ∀ w ∈ wsX80, w ∈ wsX8_paid := by decide +kernel
  refine lv_aload_n hx hb dX8_paid_0 rfl (lv_at hl 0 rfl) ?_
  refine va_get (ci := 8) (v := .ref (ad 11)) (C := RX8) (T := TX8) (N := 5) hx hb hts hinX8 hown hK hP 0 (wC_0 cy ad σ0) rfl 2 (by decide) (hts (.fieldLink RX8 27 "TaleBans" "land" "LTaleBans$Steppe;") (List.mem_of_getElem? (i := 1) rfl)) (fun x h => h) rfl dX8_paid_1 ?_
  have hp := True.intro
  refine k_read_i (w := wC cy ad) (va_runVN (As := []) (rest := []) ⟨hx, hb, hml, hown, hts⟩ (h_X6_isEmpty D cy ad A σ0 hp) ⟨va_cnB 0 hts gX8_paid_X6_isEmpty_n124 rfl rfl rfl (nwm_37 hN) (hts (.initialized RX6) (List.mem_of_getElem? (i := 3) rfl)) (by decide +kernel) ⟨le_R hRf (Nat.le_of_ble_eq_true rfl), le_R hRl (Nat.le_of_ble_eq_true rfl)⟩, (hts (.instanceMethod yX6_isEmpty) (List.mem_of_getElem? (i := 2) rfl)), (hts (.selects RX6 yX6_isEmpty yX6_isEmpty) (List.mem_of_getElem? (i := 4) rfl))⟩ ⟨(fun a U g mk q => ⟨q.1, q.2.blind⟩), va_recv hK hP (ci := 6) (q0 := 11) rfl (wC_11 cy ad σ0), (fun U hU hW => ⟨rfl, WdC.pre hP hK hD hN hU hW⟩)⟩ rfl rfl hl.1 rfl (lv_room (Nat.le_of_ble_eq_true rfl)) dX8_paid_4 ⟨le_R hRc (Nat.le_refl 0), le_R hRs (Nat.le_refl 0)⟩) hS (fun r H locs hr1 hP hS => ?_)
  subst hr1
  refine lv_if_eq (tgt := 13) hx hb dX8_paid_7 (by decide) (fun c9 => ?_) (fun c9 => ?_)
  · have hv := hv.1 c9
    refine lv_iconst (v := 0) hx hb dX8_paid_13 (by decide) ?_
    refine lv_istore_n (lv' := [(1, .int 0), (0, .ref (ad 0))]) hx hb dX8_paid_14 rfl hl (by decide) rfl (fun ls hl => ?_)
    refine lv_iconst (v := 0) hx hb dX8_paid_15 (by decide) ?_
    refine lv_istore_n (lv' := [(2, .int 0), (1, .int 0), (0, .ref (ad 0))]) hx hb dX8_paid_16 rfl hl (by decide) rfl (fun ls hl => ?_)
    obtain ⟨n17, hv⟩ := hv
    have lp17 : ∀ (nn17 : Nat) (x1 : Int32) (x2 : Int32) (σ3 : S_) (H : Heap) (locs : List Loc) (ls : Array Slot), vl_X8_paid_17 Q nn17 x1 x2 σ3 → va_P D vwCl (wC cy ad σ3) H → va_D A (wC cy ad σ3) → va_S A s.heap H locs → lv_has ls 3 [(0, .ref (ad 0)), (1, .int x1), (2, .int x2)] → W p l e R s m ([.ref (ad 0)] : List Value).toArray  below meth c H locs 0 0 Z (F0 m 17 ls []) := by
      intro nn17
      induction nn17 with
      | zero => intro x1 x2 σ3 H locs ls hv; exact absurd hv id
      | succ mm17 ih17 =>
        intro x1 x2 σ3 H locs ls hv hP hD hS hl
        refine lv_iload_n hx hb dX8_paid_17 rfl (lv_at hl 2 rfl) ?_
        refine lv_aload_n hx hb dX8_paid_18 rfl (lv_at hl 0 rfl) ?_
        refine va_get (ci := 8) (v := .ref (ad 11)) (C := RX8) (T := TX8) (N := 5) hx hb hts hinX8 hown hK hP 0 (wC_0 cy ad σ3) rfl 2 (by decide) (hts (.fieldLink RX8 27 "TaleBans" "land" "LTaleBans$Steppe;") (List.mem_of_getElem? (i := 1) rfl)) (fun x h => h) rfl dX8_paid_19 ?_
        refine va_getN (ci := 6) (v := .int (rdI σ3 2)) (C := RX6) (T := TX6) (N := 8) hx hb hts hinX6 hown hK hP 11 (wC_11 cy ad σ3) rfl 5 (by decide) (nw_11 hN) (fun x h => h) rfl dX8_paid_22 ?_
        refine lv_icmp_ge (tgt := 65) hx hb dX8_paid_25 (by decide) (fun c8 => ?_) (fun c8 => ?_)
        · have hv := hv.1 c8
          refine lv_iload_n hx hb dX8_paid_65 rfl (lv_at hl 1 rfl) ?_
          rw [hZ]; rw [hQ] at hv
          exact W.iret (v := x1) hx hb hr (fun t ht hW => ⟨⟨x1, σ3, rfl, hv, ⟨P_of ht hP, hD⟩⟩, hS.F ht⟩) hS.2.2 dX8_paid_66
        · have hv := hv.2 c8
          refine lv_aload_n hx hb dX8_paid_28 rfl (lv_at hl 0 rfl) ?_
          refine lv_aload_n hx hb dX8_paid_29 rfl (lv_at hl 0 rfl) ?_
          refine va_get (ci := 8) (v := .ref (ad 11)) (C := RX8) (T := TX8) (N := 5) hx hb hts hinX8 hown hK hP 0 (wC_0 cy ad σ3) rfl 2 (by decide) (hts (.fieldLink RX8 27 "TaleBans" "land" "LTaleBans$Steppe;") (List.mem_of_getElem? (i := 1) rfl)) (fun x h => h) rfl dX8_paid_30 ?_
          refine va_getN (ci := 6) (v := .int (rdI σ3 3)) (C := RX6) (T := TX6) (N := 8) hx hb hts hinX6 hown hK hP 11 (wC_11 cy ad σ3) rfl 6 (by decide) (nw_12 hN) (fun x h => h) rfl dX8_paid_33 ?_
          refine lv_iconst (v := 1) hx hb dX8_paid_36 (by decide) ?_
          refine lv_iload_n hx hb dX8_paid_37 rfl (lv_at hl 2 rfl) ?_
          refine lv_ishl hx hb dX8_paid_38 ?_
          refine lv_ior hx hb dX8_paid_39 ?_
          refine lv_aload_n hx hb dX8_paid_40 rfl (lv_at hl 0 rfl) ?_
          refine va_get (ci := 8) (v := .ref (ad 11)) (C := RX8) (T := TX8) (N := 5) hx hb hts hinX8 hown hK hP 0 (wC_0 cy ad σ3) rfl 2 (by decide) (hts (.fieldLink RX8 27 "TaleBans" "land" "LTaleBans$Steppe;") (List.mem_of_getElem? (i := 1) rfl)) (fun x h => h) rfl dX8_paid_41 ?_
          refine va_getN (ci := 6) (v := .int (rdI σ3 4)) (C := RX6) (T := TX6) (N := 8) hx hb hts hinX6 hown hK hP 11 (wC_11 cy ad σ3) rfl 7 (by decide) (nw_13 hN) (fun x h => h) rfl dX8_paid_44 ?_
          obtain ⟨g4, hv⟩ := hv
          obtain ⟨hp, hv⟩ := hv
          refine k_rel_i (w := wC cy ad) (va_runV (As := [.int ((rdI σ3 3) ||| (1 <<< (x2 &&& 31))), .int (rdI σ3 4)]) (rest := []) ⟨hx, hb, hml, hown, hts⟩ (h_X8_areReadingsSo D cy ad A ((rdI σ3 3) ||| (1 <<< (x2 &&& 31))) (rdI σ3 4) g4 σ3 hp) (cwV 2 hts gX8_paid_X8_areReadingsSo rfl rfl rfl (by decide +kernel) ⟨le_R hRf (Nat.le_of_ble_eq_true rfl), le_R hRl (Nat.le_of_ble_eq_true rfl)⟩) ⟨(fun a U g mk q => ⟨q.1, q.2.blind⟩), va_recv hK hP (ci := 8) (q0 := 0) rfl (wC_0 cy ad σ3), (fun U hU hW => ⟨rfl, WdC.pre hP hK hD hN hU hW⟩)⟩ rfl rfl hl.1 rfl (lv_room (Nat.le_of_ble_eq_true rfl)) dX8_paid_47 ⟨le_R hRc (Nat.le_refl 0), le_R hRs (Nat.le_refl 0)⟩) hS (fun r6 σ5 H locs hr1 hP hD hS => ?_)
          have hv := hv r6 σ5 hr1
          refine lv_if_eq (tgt := 59) hx hb dX8_paid_50 (by decide) (fun c7 => ?_) (fun c7 => ?_)
          · have hv := hv.1 c7
            refine lv_iinc (v := (x2 + 1)) (lv' := [(2, .int (x2 + 1)), (0, .ref (ad 0)), (1, .int x1)]) hx hb dX8_paid_59 hl (k := 2) rfl rfl (by decide) rfl (fun ls hl => ?_)
            refine lv_goto (tgt := 17) hx hb dX8_paid_62 (by decide) ?_
            exact ih17 x1 (x2 + 1) σ5 _ _ _ hv hP hD hS (lv_sub hl [1, 2, 0] rfl)
          · have hv := hv.2 c7
            refine lv_iload_n hx hb dX8_paid_53 rfl (lv_at hl 1 rfl) ?_
            refine lv_iconst (v := 1) hx hb dX8_paid_54 (by decide) ?_
            refine lv_iload_n hx hb dX8_paid_55 rfl (lv_at hl 2 rfl) ?_
            refine lv_ishl hx hb dX8_paid_56 ?_
            refine lv_ior hx hb dX8_paid_57 ?_
            refine lv_istore_n (lv' := [(1, .int (x1 ||| (1 <<< (x2 &&& 31)))), (0, .ref (ad 0)), (2, .int x2)]) hx hb dX8_paid_58 rfl hl (by decide) rfl (fun ls hl => ?_)
            refine lv_iinc (v := (x2 + 1)) (lv' := [(2, .int (x2 + 1)), (1, .int (x1 ||| (1 <<< (x2 &&& 31)))), (0, .ref (ad 0))]) hx hb dX8_paid_59 hl (k := 2) rfl rfl (by decide) rfl (fun ls hl => ?_)
            refine lv_goto (tgt := 17) hx hb dX8_paid_62 (by decide) ?_
            exact ih17 (x1 ||| (1 <<< (x2 &&& 31))) (x2 + 1) σ5 _ _ _ hv hP hD hS (lv_sub hl [2, 1, 0] rfl)
    exact lp17 n17 0 0 σ0 _ _ _ hv hP hD hS (lv_sub hl [2, 1, 0] rfl)
  · have hv := hv.2 c9
    refine lv_bipush (v := (-3)) hx hb dX8_paid_10 (by decide) ?_
    rw [hZ]; rw [hQ] at hv
    exact W.iret (v := (-3)) hx hb hr (fun t ht hW => ⟨⟨(-3), σ0, rfl, hv, ⟨P_of ht hP, hD⟩⟩, hS.F ht⟩) hS.2.2 dX8_paid_12
set_option maxHeartbeats 4000000 in
set_option maxRecDepth 100000 in
theorem wk_X8_laws (l : Launch) (h_X6_isEmpty : Ct_X6_isEmpty l) (h_X8_areReadingsSo : Ct_X8_areReadingsSo l) (sp : Sp_X8_laws) : Ct_X8_laws l := by
  intro D cy ad A  ag σ0  hpre
  refine Met.ofW (cc := cX8_laws) (maxL := 3) (ret := (some .int)) (by decide) rfl ?_
  intro p e s m args below meth c s₁ B hml hv0
  obtain ⟨rfl, hP, hK, hD, hN⟩ := hv0
  have hx := B.exec
  have hb := B.bytes
  have hr := B.returns
  have hts := atoms_spec (ws := wsX8_laws) B.pre
  have hown : s.vm.findClass RX8 = some m.cls := findClass_of_methodNamed B.named
  have hlocks := B.notSynchronized
  have hv := sp  ag σ0 hpre
  have hl := lv_entry ([.ref (ad 0)]) (n := 3) (Nat.le_of_ble_eq_true rfl)
  rw [lg_entry_eq]
  generalize (lg_sl ([.ref (ad 0)]) ++ List.replicate (3 - (lg_sl ([.ref (ad 0)])).length) Slot.unset).toArray = ls at hl ⊢
  have hl : lv_has ls 3 [(0, .ref (ad 0))] := hl
  refine W_gen (fun R Z H locs hR hZ hH hlo => ?_)
  have hRf : R.frames = 5 := by rw [hR]; rfl
  have hRl : R.locals = 114 := by rw [hR]; rfl
  have hRc : R.cells = 0 := by rw [hR]; rfl
  have hRs : R.slots = 0 := by rw [hR]; rfl
  have hS : va_S A s.heap H locs := by rw [hH, hlo]; exact va_S.rf
  rw [← hH] at hP
  obtain ⟨Q, hQ⟩ : ∃ q : Int32 → S_ → Prop, q = (post_X8_laws  ag σ0) := ⟨_, rfl⟩
  rw [← hQ] at hv
  have hinX6 : ∀ w ∈ wsX60, w ∈ wsX8_laws := by decide +kernel
  have hinX8 : ∀ w ∈ wsX80, w ∈ wsX8_laws := by decide +kernel
  refine lv_aload_n hx hb dX8_laws_0 rfl (lv_at hl 0 rfl) ?_
  refine va_get (ci := 8) (v := .ref (ad 11)) (C := RX8) (T := TX8) (N := 5) hx hb hts hinX8 hown hK hP 0 (wC_0 cy ad σ0) rfl 2 (by decide) (hts (.fieldLink RX8 27 "TaleBans" "land" "LTaleBans$Steppe;") (List.mem_of_getElem? (i := 1) rfl)) (fun x h => h) rfl dX8_laws_1 ?_
  have hp := True.intro
  refine k_read_i (w := wC cy ad) (va_runVN (As := []) (rest := []) ⟨hx, hb, hml, hown, hts⟩ (h_X6_isEmpty D cy ad A σ0 hp) ⟨va_cnB 0 hts gX8_laws_X6_isEmpty_n124 rfl rfl rfl (nwm_37 hN) (hts (.initialized RX6) (List.mem_of_getElem? (i := 3) rfl)) (by decide +kernel) ⟨le_R hRf (Nat.le_of_ble_eq_true rfl), le_R hRl (Nat.le_of_ble_eq_true rfl)⟩, (hts (.instanceMethod yX6_isEmpty) (List.mem_of_getElem? (i := 2) rfl)), (hts (.selects RX6 yX6_isEmpty yX6_isEmpty) (List.mem_of_getElem? (i := 4) rfl))⟩ ⟨(fun a U g mk q => ⟨q.1, q.2.blind⟩), va_recv hK hP (ci := 6) (q0 := 11) rfl (wC_11 cy ad σ0), (fun U hU hW => ⟨rfl, WdC.pre hP hK hD hN hU hW⟩)⟩ rfl rfl hl.1 rfl (lv_room (Nat.le_of_ble_eq_true rfl)) dX8_laws_4 ⟨le_R hRc (Nat.le_refl 0), le_R hRs (Nat.le_refl 0)⟩) hS (fun r H locs hr1 hP hS => ?_)
  subst hr1
  refine lv_if_eq (tgt := 13) hx hb dX8_laws_7 (by decide) (fun c9 => ?_) (fun c9 => ?_)
  · have hv := hv.1 c9
    refine lv_iconst (v := 0) hx hb dX8_laws_13 (by decide) ?_
    refine lv_istore_n (lv' := [(1, .int 0), (0, .ref (ad 0))]) hx hb dX8_laws_14 rfl hl (by decide) rfl (fun ls hl => ?_)
    refine lv_iconst (v := 0) hx hb dX8_laws_15 (by decide) ?_
    refine lv_istore_n (lv' := [(2, .int 0), (1, .int 0), (0, .ref (ad 0))]) hx hb dX8_laws_16 rfl hl (by decide) rfl (fun ls hl => ?_)
    obtain ⟨n17, hv⟩ := hv
    have lp17 : ∀ (nn17 : Nat) (x1 : Int32) (x2 : Int32) (σ3 : S_) (H : Heap) (locs : List Loc) (ls : Array Slot), vl_X8_laws_17 Q nn17 x1 x2 σ3 → va_P D vwCl (wC cy ad σ3) H → va_D A (wC cy ad σ3) → va_S A s.heap H locs → lv_has ls 3 [(0, .ref (ad 0)), (1, .int x1), (2, .int x2)] → W p l e R s m ([.ref (ad 0)] : List Value).toArray  below meth c H locs 0 0 Z (F0 m 17 ls []) := by
      intro nn17
      induction nn17 with
      | zero => intro x1 x2 σ3 H locs ls hv; exact absurd hv id
      | succ mm17 ih17 =>
        intro x1 x2 σ3 H locs ls hv hP hD hS hl
        refine lv_iload_n hx hb dX8_laws_17 rfl (lv_at hl 2 rfl) ?_
        refine lv_iconst (v := 3) hx hb dX8_laws_18 (by decide) ?_
        refine lv_icmp_ge (tgt := 49) hx hb dX8_laws_19 (by decide) (fun c8 => ?_) (fun c8 => ?_)
        · have hv := hv.1 c8
          refine lv_iload_n hx hb dX8_laws_49 rfl (lv_at hl 1 rfl) ?_
          rw [hZ]; rw [hQ] at hv
          exact W.iret (v := x1) hx hb hr (fun t ht hW => ⟨⟨x1, σ3, rfl, hv, ⟨P_of ht hP, hD⟩⟩, hS.F ht⟩) hS.2.2 dX8_laws_50
        · have hv := hv.2 c8
          refine lv_aload_n hx hb dX8_laws_22 rfl (lv_at hl 0 rfl) ?_
          refine lv_aload_n hx hb dX8_laws_23 rfl (lv_at hl 0 rfl) ?_
          refine va_get (ci := 8) (v := .ref (ad 11)) (C := RX8) (T := TX8) (N := 5) hx hb hts hinX8 hown hK hP 0 (wC_0 cy ad σ3) rfl 2 (by decide) (hts (.fieldLink RX8 27 "TaleBans" "land" "LTaleBans$Steppe;") (List.mem_of_getElem? (i := 1) rfl)) (fun x h => h) rfl dX8_laws_24 ?_
          refine va_getN (ci := 6) (v := .int (rdI σ3 3)) (C := RX6) (T := TX6) (N := 8) hx hb hts hinX6 hown hK hP 11 (wC_11 cy ad σ3) rfl 6 (by decide) (nw_12 hN) (fun x h => h) rfl dX8_laws_27 ?_
          refine lv_iload_n hx hb dX8_laws_30 rfl (lv_at hl 2 rfl) ?_
          obtain ⟨g4, hv⟩ := hv
          obtain ⟨hp, hv⟩ := hv
          refine k_rel_i (w := wC cy ad) (va_runV (As := [.int (rdI σ3 3), .int x2]) (rest := []) ⟨hx, hb, hml, hown, hts⟩ (h_X8_areReadingsSo D cy ad A (rdI σ3 3) x2 g4 σ3 hp) (cwV 2 hts gX8_laws_X8_areReadingsSo rfl rfl rfl (by decide +kernel) ⟨le_R hRf (Nat.le_of_ble_eq_true rfl), le_R hRl (Nat.le_of_ble_eq_true rfl)⟩) ⟨(fun a U g mk q => ⟨q.1, q.2.blind⟩), va_recv hK hP (ci := 8) (q0 := 0) rfl (wC_0 cy ad σ3), (fun U hU hW => ⟨rfl, WdC.pre hP hK hD hN hU hW⟩)⟩ rfl rfl hl.1 rfl (lv_room (Nat.le_of_ble_eq_true rfl)) dX8_laws_31 ⟨le_R hRc (Nat.le_refl 0), le_R hRs (Nat.le_refl 0)⟩) hS (fun r6 σ5 H locs hr1 hP hD hS => ?_)
          have hv := hv r6 σ5 hr1
          refine lv_if_eq (tgt := 43) hx hb dX8_laws_34 (by decide) (fun c7 => ?_) (fun c7 => ?_)
          · have hv := hv.1 c7
            refine lv_iinc (v := (x2 + 1)) (lv' := [(2, .int (x2 + 1)), (0, .ref (ad 0)), (1, .int x1)]) hx hb dX8_laws_43 hl (k := 2) rfl rfl (by decide) rfl (fun ls hl => ?_)
            refine lv_goto (tgt := 17) hx hb dX8_laws_46 (by decide) ?_
            exact ih17 x1 (x2 + 1) σ5 _ _ _ hv hP hD hS (lv_sub hl [1, 2, 0] rfl)
          · have hv := hv.2 c7
            refine lv_iload_n hx hb dX8_laws_37 rfl (lv_at hl 1 rfl) ?_
            refine lv_iconst (v := 1) hx hb dX8_laws_38 (by decide) ?_
            refine lv_iload_n hx hb dX8_laws_39 rfl (lv_at hl 2 rfl) ?_
            refine lv_ishl hx hb dX8_laws_40 ?_
            refine lv_ior hx hb dX8_laws_41 ?_
            refine lv_istore_n (lv' := [(1, .int (x1 ||| (1 <<< (x2 &&& 31)))), (0, .ref (ad 0)), (2, .int x2)]) hx hb dX8_laws_42 rfl hl (by decide) rfl (fun ls hl => ?_)
            refine lv_iinc (v := (x2 + 1)) (lv' := [(2, .int (x2 + 1)), (1, .int (x1 ||| (1 <<< (x2 &&& 31)))), (0, .ref (ad 0))]) hx hb dX8_laws_43 hl (k := 2) rfl rfl (by decide) rfl (fun ls hl => ?_)
            refine lv_goto (tgt := 17) hx hb dX8_laws_46 (by decide) ?_
            exact ih17 (x1 ||| (1 <<< (x2 &&& 31))) (x2 + 1) σ5 _ _ _ hv hP hD hS (lv_sub hl [2, 1, 0] rfl)
    exact lp17 n17 0 0 σ0 _ _ _ hv hP hD hS (lv_sub hl [2, 1, 0] rfl)
  · have hv := hv.2 c9
    refine lv_bipush (v := (-3)) hx hb dX8_laws_10 (by decide) ?_
    rw [hZ]; rw [hQ] at hv
    exact W.iret (v := (-3)) hx hb hr (fun t ht hW => ⟨⟨(-3), σ0, rfl, hv, ⟨P_of ht hP, hD⟩⟩, hS.F ht⟩) hS.2.2 dX8_laws_12
