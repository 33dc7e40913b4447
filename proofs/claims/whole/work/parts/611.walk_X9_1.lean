set_option maxHeartbeats 4000000 in
set_option maxRecDepth 100000 in
theorem wk_X9_need (l : Launch) (h_X9_noDeed : Ct_X9_noDeed l) (sp : Sp_X9_need) : Ct_X9_need l := by
  intro D cy ad A deed_ other_ ag σ0  hpre
  refine Met.ofW (cc := cX9_need) (maxL := 3) (ret := (some .int)) (by decide) rfl ?_
  intro p e s m args below meth c s₁ B hml hv0
  obtain ⟨rfl, hP, hK, hD, hN⟩ := hv0
  have hx := B.exec
  have hb := B.bytes
  have hr := B.returns
  have hts := atoms_spec (ws := wsX9_need) B.pre
  have hown : s.vm.findClass RX9 = some m.cls := findClass_of_methodNamed B.named
  have hlocks := B.notSynchronized
  have hv := sp deed_ other_ ag σ0 hpre
  have hl := lv_entry ([.ref (ad 0), .int deed_, .int other_]) (n := 3) (Nat.le_of_ble_eq_true rfl)
  rw [lg_entry_eq]
  generalize (lg_sl ([.ref (ad 0), .int deed_, .int other_]) ++ List.replicate (3 - (lg_sl ([.ref (ad 0), .int deed_, .int other_])).length) Slot.unset).toArray = ls at hl ⊢
  have hl : lv_has ls 3 [(0, .ref (ad 0)), (1, .int deed_), (2, .int other_)] := hl
  refine W_gen (fun R Z H locs hR hZ hH hlo => ?_)
  have hRf : R.frames = 2 := by rw [hR]; rfl
  have hRl : R.locals = 45 := by rw [hR]; rfl
  have hRc : R.cells = 0 := by rw [hR]; rfl
  have hRs : R.slots = 0 := by rw [hR]; rfl
  have hS : va_S A s.heap H locs := by rw [hH, hlo]; exact va_S.rf
  rw [← hH] at hP
  obtain ⟨Q, hQ⟩ : ∃ q : Int32 → S_ → Prop, q = (post_X9_need deed_ other_ ag σ0) := ⟨_, rfl⟩
  rw [← hQ] at hv
  have hinX9 : ∀ w ∈ wsX90, w ∈ wsX9_need := by decide +kernel
  refine lv_iload_n hx hb dX9_need_0 rfl (lv_at hl 1 rfl) ?_
  refine k_pure_i (va_runS (As := [.int deed_]) (rest := []) ⟨hx, hb, hml, hown, hts⟩ (h_X9_noDeed deed_) (va_cwS 1 hts gX9_need_X9_noDeed rfl rfl rfl (by decide +kernel) ⟨le_R hRf (Nat.le_of_ble_eq_true rfl), le_R hRl (Nat.le_of_ble_eq_true rfl)⟩) ⟨(fun a U g mk q => ⟨q.1, trivial⟩), (fun U hU hW => ⟨rfl, trivial⟩)⟩ rfl rfl hl.1 rfl (lv_room (Nat.le_of_ble_eq_true rfl)) dX9_need_1 ⟨le_R hRc (Nat.le_refl 0), le_R hRs (Nat.le_refl 0)⟩) hS hP (fun r H locs hr1 hP hS => ?_)
  subst hr1
  refine lv_if_ne (tgt := 14) hx hb dX9_need_4 (by decide) (fun c10 => ?_) (fun c10 => ?_)
  · have hv := hv.1 c10
    refine lv_iconst (v := (-1)) hx hb dX9_need_14 (by decide) ?_
    rw [hZ]; rw [hQ] at hv
    exact W.iret (v := (-1)) hx hb hr (fun t ht hW => ⟨⟨(-1), σ0, rfl, hv, ⟨P_of ht hP, hD⟩⟩, hS.F ht⟩) hS.2.2 dX9_need_15
  · have hv := hv.2 c10
    refine lv_iload_n hx hb dX9_need_7 rfl (lv_at hl 2 rfl) ?_
    refine k_pure_i (va_runS (As := [.int other_]) (rest := []) ⟨hx, hb, hml, hown, hts⟩ (h_X9_noDeed other_) (va_cwS 1 hts gX9_need_X9_noDeed rfl rfl rfl (by decide +kernel) ⟨le_R hRf (Nat.le_of_ble_eq_true rfl), le_R hRl (Nat.le_of_ble_eq_true rfl)⟩) ⟨(fun a U g mk q => ⟨q.1, trivial⟩), (fun U hU hW => ⟨rfl, trivial⟩)⟩ rfl rfl hl.1 rfl (lv_room (Nat.le_of_ble_eq_true rfl)) dX9_need_8 ⟨le_R hRc (Nat.le_refl 0), le_R hRs (Nat.le_refl 0)⟩) hS hP (fun r H locs hr1 hP hS => ?_)
    subst hr1
    refine lv_if_eq (tgt := 16) hx hb dX9_need_11 (by decide) (fun c9 => ?_) (fun c9 => ?_)
    · have hv := hv.1 c9
      refine lv_aload_n hx hb dX9_need_16 rfl (lv_at hl 0 rfl) ?_
      refine va_get (ci := 9) (v := .int (rdI σ0 1)) (C := RX9) (T := TX9) (N := 38) hx hb hts hinX9 hown hK hP 0 (wR_0 cy ad σ0) rfl 1 (by decide) (hts (.fieldLink RX9 102 "TaleBansModel" "persons" "I") (List.mem_of_getElem? (i := 1) rfl)) (fun x h => h) rfl dX9_need_17 ?_
      refine lv_if_ne (tgt := 26) hx hb dX9_need_20 (by decide) (fun c8 => ?_) (fun c8 => ?_)
      · have hv := hv.1 c8
        refine lv_aload_n hx hb dX9_need_26 rfl (lv_at hl 0 rfl) ?_
        refine va_get (ci := 9) (v := .int (rdI σ0 8)) (C := RX9) (T := TX9) (N := 38) hx hb hts hinX9 hown hK hP 0 (wR_0 cy ad σ0) rfl 25 (by decide) (hts (.fieldLink RX9 167 "TaleBansModel" "needs" "I") (List.mem_of_getElem? (i := 2) rfl)) (fun x h => h) rfl dX9_need_27 ?_
        refine lv_bipush (v := 6) hx hb dX9_need_30 (by decide) ?_
        refine lv_icmp_ne (tgt := 38) hx hb dX9_need_32 (by decide) (fun c7 => ?_) (fun c7 => ?_)
        · have hv := hv.1 c7
          refine lv_aload_n hx hb dX9_need_38 rfl (lv_at hl 0 rfl) ?_
          refine va_get (ci := 9) (v := .ref (ad (18))) (C := RX9) (T := TX9) (N := 38) hx hb hts hinX9 hown hK hP 0 (wR_0 cy ad σ0) rfl 26 (by decide) (hts (.fieldLink RX9 62 "TaleBansModel" "needOne" "[I") (List.mem_of_getElem? (i := 3) rfl)) (fun x h => h) rfl dX9_need_39 ?_
          refine lv_aload_n hx hb dX9_need_42 rfl (lv_at hl 0 rfl) ?_
          refine va_get (ci := 9) (v := .int (rdI σ0 8)) (C := RX9) (T := TX9) (N := 38) hx hb hts hinX9 hown hK hP 0 (wR_0 cy ad σ0) rfl 25 (by decide) (hts (.fieldLink RX9 167 "TaleBansModel" "needs" "I") (List.mem_of_getElem? (i := 2) rfl)) (fun x h => h) rfl dX9_need_43 ?_
          refine lv_iload_n hx hb dX9_need_46 rfl (lv_at hl 1 rfl) ?_
          obtain ⟨hi, hv⟩ := hv
          refine va_iast hx hb hK hP hD hS 18 0 (wR_18 cy ad σ0) rfl hi dX9_need_47 (fun H locs hP hD hS => ?_)
          obtain ⟨σ1, e2⟩ : ∃ y : S_, y = wr2 σ0 18 (Int32.toNatClampNeg (rdI σ0 8)) deed_ := ⟨_, rfl⟩
          have hP : va_P D vwCl (wR cy ad σ1) H := by rw [e2]; exact hP
          have hD : va_D A (wR cy ad σ1) := by rw [e2]; exact hD
          have hv := hv σ1 e2
          refine lv_aload_n hx hb dX9_need_48 rfl (lv_at hl 0 rfl) ?_
          refine va_get (ci := 9) (v := .ref (ad (19))) (C := RX9) (T := TX9) (N := 38) hx hb hts hinX9 hown hK hP 0 (wR_0 cy ad σ1) rfl 27 (by decide) (hts (.fieldLink RX9 65 "TaleBansModel" "needOther" "[I") (List.mem_of_getElem? (i := 4) rfl)) (fun x h => h) rfl dX9_need_49 ?_
          refine lv_aload_n hx hb dX9_need_52 rfl (lv_at hl 0 rfl) ?_
          refine va_get (ci := 9) (v := .int (rdI σ1 8)) (C := RX9) (T := TX9) (N := 38) hx hb hts hinX9 hown hK hP 0 (wR_0 cy ad σ1) rfl 25 (by decide) (hts (.fieldLink RX9 167 "TaleBansModel" "needs" "I") (List.mem_of_getElem? (i := 2) rfl)) (fun x h => h) rfl dX9_need_53 ?_
          refine lv_iload_n hx hb dX9_need_56 rfl (lv_at hl 2 rfl) ?_
          obtain ⟨hi, hv⟩ := hv
          refine va_iast hx hb hK hP hD hS 19 0 (wR_19 cy ad σ1) rfl hi dX9_need_57 (fun H locs hP hD hS => ?_)
          obtain ⟨σ3, e4⟩ : ∃ y : S_, y = wr2 σ1 19 (Int32.toNatClampNeg (rdI σ1 8)) other_ := ⟨_, rfl⟩
          have hP : va_P D vwCl (wR cy ad σ3) H := by rw [e4]; exact hP
          have hD : va_D A (wR cy ad σ3) := by rw [e4]; exact hD
          have hv := hv σ3 e4
          refine lv_aload_n hx hb dX9_need_58 rfl (lv_at hl 0 rfl) ?_
          refine lv_dup hx hb dX9_need_59 rfl ?_
          refine va_get (ci := 9) (v := .int (rdI σ3 8)) (C := RX9) (T := TX9) (N := 38) hx hb hts hinX9 hown hK hP 0 (wR_0 cy ad σ3) rfl 25 (by decide) (hts (.fieldLink RX9 167 "TaleBansModel" "needs" "I") (List.mem_of_getElem? (i := 2) rfl)) (fun x h => h) rfl dX9_need_60 ?_
          refine lv_iconst (v := 1) hx hb dX9_need_63 (by decide) ?_
          refine lv_iadd hx hb dX9_need_64 ?_
          refine va_put (ci := 9) (v := .int ((rdI σ3 8) + 1)) (ty := .int) (C := RX9) (T := TX9) (N := 38) hx hb hts hinX9 tyX9 tyX9_ok nmX9 hown hK hP hD hS 0 (wR_0 cy ad σ3) rfl 25 (by decide) (hts (.fieldLink RX9 167 "TaleBansModel" "needs" "I") (List.mem_of_getElem? (i := 2) rfl)) (fun x h => h) rfl (by decide +kernel) rfl rfl (Nat.le_of_ble_eq_true rfl) dX9_need_65 (fun H locs hP hD hS => ?_)
          obtain ⟨σ5, e6⟩ : ∃ y : S_, y = wrI σ3 8 ((rdI σ3 8) + 1) := ⟨_, rfl⟩
          have hP : va_P D vwCl (wR cy ad σ5) H := by rw [e6]; exact hP
          have hD : va_D A (wR cy ad σ5) := by rw [e6]; exact hD
          have hv := hv σ5 e6
          refine lv_aload_n hx hb dX9_need_68 rfl (lv_at hl 0 rfl) ?_
          refine va_get (ci := 9) (v := .int (rdI σ5 8)) (C := RX9) (T := TX9) (N := 38) hx hb hts hinX9 hown hK hP 0 (wR_0 cy ad σ5) rfl 25 (by decide) (hts (.fieldLink RX9 167 "TaleBansModel" "needs" "I") (List.mem_of_getElem? (i := 2) rfl)) (fun x h => h) rfl dX9_need_69 ?_
          refine lv_iconst (v := 1) hx hb dX9_need_72 (by decide) ?_
          refine lv_isub hx hb dX9_need_73 ?_
          rw [hZ]; rw [hQ] at hv
          exact W.iret (v := ((rdI σ5 8) - 1)) hx hb hr (fun t ht hW => ⟨⟨((rdI σ5 8) - 1), σ5, rfl, hv, ⟨P_of ht hP, hD⟩⟩, hS.F ht⟩) hS.2.2 dX9_need_74
        · have hv := hv.2 c7
          refine lv_bipush (v := (-4)) hx hb dX9_need_35 (by decide) ?_
          rw [hZ]; rw [hQ] at hv
          exact W.iret (v := (-4)) hx hb hr (fun t ht hW => ⟨⟨(-4), σ0, rfl, hv, ⟨P_of ht hP, hD⟩⟩, hS.F ht⟩) hS.2.2 dX9_need_37
      · have hv := hv.2 c8
        refine lv_bipush (v := (-3)) hx hb dX9_need_23 (by decide) ?_
        rw [hZ]; rw [hQ] at hv
        exact W.iret (v := (-3)) hx hb hr (fun t ht hW => ⟨⟨(-3), σ0, rfl, hv, ⟨P_of ht hP, hD⟩⟩, hS.F ht⟩) hS.2.2 dX9_need_25
    · have hv := hv.2 c9
      refine lv_iconst (v := (-1)) hx hb dX9_need_14 (by decide) ?_
      rw [hZ]; rw [hQ] at hv
      exact W.iret (v := (-1)) hx hb hr (fun t ht hW => ⟨⟨(-1), σ0, rfl, hv, ⟨P_of ht hP, hD⟩⟩, hS.F ht⟩) hS.2.2 dX9_need_15
set_option maxHeartbeats 4000000 in
set_option maxRecDepth 100000 in
theorem wk_X9_clash (l : Launch) (h_X9_begin : Ct_X9_begin l) (h_X9_forbiddenIn : Ct_X9_forbiddenIn l) (h_X9_goSeason : Ct_X9_goSeason l) (h_X9_in : Ct_X9_in l) (h_X9_isIn : Ct_X9_isIn l) (sp : Sp_X9_clash) : Ct_X9_clash l := by
  intro D cy ad A what_ ag σ0  hpre
  refine Met.ofW (cc := cX9_clash) (maxL := 5) (ret := (some .int)) (by decide) rfl ?_
  intro p e s m args below meth c s₁ B hml hv0
  obtain ⟨rfl, hP, hK, hD, hN⟩ := hv0
  have hx := B.exec
  have hb := B.bytes
  have hr := B.returns
  have hts := atoms_spec (ws := wsX9_clash) B.pre
  have hown : s.vm.findClass RX9 = some m.cls := findClass_of_methodNamed B.named
  have hlocks := B.notSynchronized
  have hv := sp what_ ag σ0 hpre
  have hl := lv_entry ([.ref (ad 0), .int what_]) (n := 5) (Nat.le_of_ble_eq_true rfl)
  rw [lg_entry_eq]
  generalize (lg_sl ([.ref (ad 0), .int what_]) ++ List.replicate (5 - (lg_sl ([.ref (ad 0), .int what_])).length) Slot.unset).toArray = ls at hl ⊢
  have hl : lv_has ls 5 [(0, .ref (ad 0)), (1, .int what_)] := hl
  refine W_gen (fun R Z H locs hR hZ hH hlo => ?_)
  have hRf : R.frames = 5 := by rw [hR]; rfl
  have hRl : R.locals = 117 := by rw [hR]; rfl
  have hRc : R.cells = 0 := by rw [hR]; rfl
  have hRs : R.slots = 0 := by rw [hR]; rfl
  have hS : va_S A s.heap H locs := by rw [hH, hlo]; exact va_S.rf
  rw [← hH] at hP
  obtain ⟨Q, hQ⟩ : ∃ q : Int32 → S_ → Prop, q = (post_X9_clash what_ ag σ0) := ⟨_, rfl⟩
  rw [← hQ] at hv
  have hinX9 : ∀ w ∈ wsX90, w ∈ wsX9_clash := by decide +kernel
  refine lv_iload_n hx hb dX9_clash_0 rfl (lv_at hl 1 rfl) ?_
  refine lv_i2l hx hb dX9_clash_1 rfl ?_
  refine lv_lconst (v := 0) hx hb dX9_clash_2 rfl ?_
  refine lv_lconst (v := 1) hx hb dX9_clash_3 rfl ?_
  refine k_pure_i (va_runS (As := [.long (Int32.toInt64 what_), .long 0, .long 1]) (rest := []) ⟨hx, hb, hml, hown, hts⟩ (h_X9_in (Int32.toInt64 what_) 0 1) (va_cwS 3 hts gX9_clash_X9_in rfl rfl rfl (by decide +kernel) ⟨le_R hRf (Nat.le_of_ble_eq_true rfl), le_R hRl (Nat.le_of_ble_eq_true rfl)⟩) ⟨(fun a U g mk q => ⟨q.1, trivial⟩), (fun U hU hW => ⟨rfl, trivial⟩)⟩ rfl rfl hl.1 rfl (lv_room (Nat.le_of_ble_eq_true rfl)) dX9_clash_4 ⟨le_R hRc (Nat.le_refl 0), le_R hRs (Nat.le_refl 0)⟩) hS hP (fun r H locs hr1 hP hS => ?_)
  subst hr1
  refine lv_if_ne (tgt := 13) hx hb dX9_clash_7 (by decide) (fun c20 => ?_) (fun c20 => ?_)
  · have hv := hv.1 c20
    refine lv_aload_n hx hb dX9_clash_13 rfl (lv_at hl 0 rfl) ?_
    refine va_get (ci := 9) (v := .int (rdI σ0 1)) (C := RX9) (T := TX9) (N := 38) hx hb hts hinX9 hown hK hP 0 (wR_0 cy ad σ0) rfl 1 (by decide) (hts (.fieldLink RX9 102 "TaleBansModel" "persons" "I") (List.mem_of_getElem? (i := 1) rfl)) (fun x h => h) rfl dX9_clash_14 ?_
    refine lv_if_ne (tgt := 23) hx hb dX9_clash_17 (by decide) (fun c19 => ?_) (fun c19 => ?_)
    · have hv := hv.1 c19
      refine lv_aload_n hx hb dX9_clash_23 rfl (lv_at hl 0 rfl) ?_
      obtain ⟨g1, hv⟩ := hv
      obtain ⟨hp, hv⟩ := hv
      refine k_rel_v (w := wR cy ad) (va_runV (As := []) (rest := []) ⟨hx, hb, hml, hown, hts⟩ (h_X9_begin D cy ad A g1 σ0 hp) (cwV 0 hts gX9_clash_X9_begin rfl rfl rfl (by decide +kernel) ⟨le_R hRf (Nat.le_of_ble_eq_true rfl), le_R hRl (Nat.le_of_ble_eq_true rfl)⟩) ⟨(fun a U g mk q => ⟨q.1, q.2.blind⟩), va_recv hK hP (ci := 9) (q0 := 0) rfl (wR_0 cy ad σ0), (fun U hU hW => ⟨rfl, WdR.pre hP hK hD hN hU hW⟩)⟩ rfl rfl hl.1 rfl (lv_room (Nat.le_of_ble_eq_true rfl)) dX9_clash_24 ⟨le_R hRc (Nat.le_refl 0), le_R hRs (Nat.le_refl 0)⟩) hS (fun σ2 H locs hr1 hP hD hS => ?_)
      have hv := hv σ2 hr1
      refine lv_iconst (v := 0) hx hb dX9_clash_27 (by decide) ?_
      refine lv_istore_n (lv' := [(2, .int 0), (0, .ref (ad 0)), (1, .int what_)]) hx hb dX9_clash_28 rfl hl (by decide) rfl (fun ls hl => ?_)
      obtain ⟨n29, hv⟩ := hv
      have lp29 : ∀ (nn29 : Nat) (x3 : Int32) (σ4 : S_) (H : Heap) (locs : List Loc) (ls : Array Slot), vl_X9_clash_29 what_ Q nn29 x3 σ4 → va_P D vwCl (wR cy ad σ4) H → va_D A (wR cy ad σ4) → va_S A s.heap H locs → lv_has ls 5 [(0, .ref (ad 0)), (1, .int what_), (2, .int x3)] → W p l e R s m ([.ref (ad 0), .int what_] : List Value).toArray  below meth c H locs 0 0 Z (F0 m 29 ls []) := by
        intro nn29
        induction nn29 with
        | zero => intro x3 σ4 H locs ls hv; exact absurd hv id
        | succ mm29 ih29 =>
          intro x3 σ4 H locs ls hv hP hD hS hl
          refine lv_iload_n hx hb dX9_clash_29 rfl (lv_at hl 2 rfl) ?_
          refine lv_bipush (v := 40) hx hb dX9_clash_30 (by decide) ?_
          refine lv_icmp_ge (tgt := 109) hx hb dX9_clash_32 (by decide) (fun c18 => ?_) (fun c18 => ?_)
          · have hv := hv.1 c18
            refine lv_bipush (v := (-9)) hx hb dX9_clash_109 (by decide) ?_
            rw [hZ]; rw [hQ] at hv
            exact W.iret (v := (-9)) hx hb hr (fun t ht hW => ⟨⟨(-9), σ4, rfl, hv, ⟨P_of ht hP, hD⟩⟩, hS.F ht⟩) hS.2.2 dX9_clash_111
          · have hv := hv.2 c18
            refine lv_aload_n hx hb dX9_clash_35 rfl (lv_at hl 0 rfl) ?_
            refine lv_iload_n hx hb dX9_clash_36 rfl (lv_at hl 2 rfl) ?_
            obtain ⟨g5, g6, g7, hv⟩ := hv
            obtain ⟨hp, hv⟩ := hv
            refine k_rel_v (w := wR cy ad) (va_runV (As := [.int x3]) (rest := []) ⟨hx, hb, hml, hown, hts⟩ (h_X9_goSeason D cy ad A x3 g5 g6 g7 σ4 hp) (cwV 1 hts gX9_clash_X9_goSeason rfl rfl rfl (by decide +kernel) ⟨le_R hRf (Nat.le_of_ble_eq_true rfl), le_R hRl (Nat.le_of_ble_eq_true rfl)⟩) ⟨(fun a U g mk q => ⟨q.1, q.2.blind⟩), va_recv hK hP (ci := 9) (q0 := 0) rfl (wR_0 cy ad σ4), (fun U hU hW => ⟨rfl, WdR.pre hP hK hD hN hU hW⟩)⟩ rfl rfl hl.1 rfl (lv_room (Nat.le_of_ble_eq_true rfl)) dX9_clash_37 ⟨le_R hRc (Nat.le_refl 0), le_R hRs (Nat.le_refl 0)⟩) hS (fun σ8 H locs hr1 hP hD hS => ?_)
            have hv := hv σ8 hr1
            refine lv_aload_n hx hb dX9_clash_40 rfl (lv_at hl 0 rfl) ?_
            refine lv_iload_n hx hb dX9_clash_41 rfl (lv_at hl 2 rfl) ?_
            obtain ⟨g9, g10, g11, hv⟩ := hv
            obtain ⟨hp, hv⟩ := hv
            refine k_read_i (w := wR cy ad) (va_runV (As := [.int x3]) (rest := []) ⟨hx, hb, hml, hown, hts⟩ (h_X9_forbiddenIn D cy ad A x3 g9 g10 g11 σ8 hp) (cwV 1 hts gX9_clash_X9_forbiddenIn rfl rfl rfl (by decide +kernel) ⟨le_R hRf (Nat.le_of_ble_eq_true rfl), le_R hRl (Nat.le_of_ble_eq_true rfl)⟩) ⟨(fun a U g mk q => ⟨q.1, q.2.blind⟩), va_recv hK hP (ci := 9) (q0 := 0) rfl (wR_0 cy ad σ8), (fun U hU hW => ⟨rfl, WdR.pre hP hK hD hN hU hW⟩)⟩ rfl rfl hl.1 rfl (lv_room (Nat.le_of_ble_eq_true rfl)) dX9_clash_42 ⟨le_R hRc (Nat.le_refl 0), le_R hRs (Nat.le_refl 0)⟩) hS (fun r12 H locs hr1 hP hS => ?_)
            have hv := hv r12 hr1
            refine lv_istore_n (lv' := [(3, .int r12), (0, .ref (ad 0)), (1, .int what_), (2, .int x3)]) hx hb dX9_clash_45 rfl hl (by decide) rfl (fun ls hl => ?_)
            refine lv_iconst (v := 0) hx hb dX9_clash_46 (by decide) ?_
            refine lv_istore (lv' := [(4, .int 0), (3, .int r12), (0, .ref (ad 0)), (1, .int what_), (2, .int x3)]) hx hb dX9_clash_47 hl (by decide) rfl (fun ls hl => ?_)
            obtain ⟨n49, hv⟩ := hv
            have lp49 : ∀ (nn49 : Nat) (x13 : Int32) (H : Heap) (locs : List Loc) (ls : Array Slot), vl_X9_clash_49 what_ x3 σ8 r12 (vl_X9_clash_29 what_ Q mm29) Q nn49 x13 → va_P D vwCl (wR cy ad σ8) H → va_D A (wR cy ad σ8) → va_S A s.heap H locs → lv_has ls 5 [(0, .ref (ad 0)), (1, .int what_), (2, .int x3), (3, .int r12), (4, .int x13)] → W p l e R s m ([.ref (ad 0), .int what_] : List Value).toArray  below meth c H locs 0 0 Z (F0 m 49 ls []) := by
              intro nn49
              induction nn49 with
              | zero => intro x13 H locs ls hv; exact absurd hv id
              | succ mm49 ih49 =>
                intro x13 H locs ls hv hP hD hS hl
                refine lv_iload hx hb dX9_clash_49 (lv_at hl 4 rfl) ?_
                refine lv_aload_n hx hb dX9_clash_51 rfl (lv_at hl 0 rfl) ?_
                refine va_get (ci := 9) (v := .int (rdI σ8 8)) (C := RX9) (T := TX9) (N := 38) hx hb hts hinX9 hown hK hP 0 (wR_0 cy ad σ8) rfl 25 (by decide) (hts (.fieldLink RX9 167 "TaleBansModel" "needs" "I") (List.mem_of_getElem? (i := 2) rfl)) (fun x h => h) rfl dX9_clash_52 ?_
                refine lv_icmp_ge (tgt := 103) hx hb dX9_clash_55 (by decide) (fun c17 => ?_) (fun c17 => ?_)
                · have hv := hv.1 c17
                  refine lv_iinc (v := (x3 + 1)) (lv' := [(2, .int (x3 + 1)), (0, .ref (ad 0)), (1, .int what_), (3, .int r12), (4, .int x13)]) hx hb dX9_clash_103 hl (k := 2) rfl rfl (by decide) rfl (fun ls hl => ?_)
                  refine lv_goto (tgt := 29) hx hb dX9_clash_106 (by decide) ?_
                  exact ih29 (x3 + 1) σ8 _ _ _ hv hP hD hS (lv_sub hl [1, 2, 0] rfl)
                · have hv := hv.2 c17
                  refine lv_iload_n hx hb dX9_clash_58 rfl (lv_at hl 3 rfl) ?_
                  refine lv_aload_n hx hb dX9_clash_59 rfl (lv_at hl 0 rfl) ?_
                  refine va_get (ci := 9) (v := .ref (ad (18))) (C := RX9) (T := TX9) (N := 38) hx hb hts hinX9 hown hK hP 0 (wR_0 cy ad σ8) rfl 26 (by decide) (hts (.fieldLink RX9 62 "TaleBansModel" "needOne" "[I") (List.mem_of_getElem? (i := 3) rfl)) (fun x h => h) rfl dX9_clash_60 ?_
                  refine lv_iload hx hb dX9_clash_63 (lv_at hl 4 rfl) ?_
                  obtain ⟨hi, hv⟩ := hv
                  refine va_iald hx hb hK hP 18 0 (wR_18 cy ad σ8) rfl hi dX9_clash_65 ?_
                  refine k_pure_i (va_runS (As := [.int r12, .int (rdA σ8 18 (Int32.toNatClampNeg x13))]) (rest := []) ⟨hx, hb, hml, hown, hts⟩ (h_X9_isIn r12 (rdA σ8 18 (Int32.toNatClampNeg x13))) (va_cwS 2 hts gX9_clash_X9_isIn rfl rfl rfl (by decide +kernel) ⟨le_R hRf (Nat.le_of_ble_eq_true rfl), le_R hRl (Nat.le_of_ble_eq_true rfl)⟩) ⟨(fun a U g mk q => ⟨q.1, trivial⟩), (fun U hU hW => ⟨rfl, trivial⟩)⟩ rfl rfl hl.1 rfl (lv_room (Nat.le_of_ble_eq_true rfl)) dX9_clash_66 ⟨le_R hRc (Nat.le_refl 0), le_R hRs (Nat.le_refl 0)⟩) hS hP (fun r H locs hr1 hP hS => ?_)
                  subst hr1
                  refine lv_if_eq (tgt := 97) hx hb dX9_clash_69 (by decide) (fun c16 => ?_) (fun c16 => ?_)
                  · have hv := hv.1 c16
                    refine lv_iinc (v := (x13 + 1)) (lv' := [(4, .int (x13 + 1)), (0, .ref (ad 0)), (1, .int what_), (2, .int x3), (3, .int r12)]) hx hb dX9_clash_97 hl (k := 4) rfl rfl (by decide) rfl (fun ls hl => ?_)
                    refine lv_goto (tgt := 49) hx hb dX9_clash_100 (by decide) ?_
                    exact ih49 (x13 + 1) _ _ _ hv hP hD hS (lv_sub hl [1, 2, 3, 4, 0] rfl)
                  · have hv := hv.2 c16
                    refine lv_iload_n hx hb dX9_clash_72 rfl (lv_at hl 3 rfl) ?_
                    refine lv_aload_n hx hb dX9_clash_73 rfl (lv_at hl 0 rfl) ?_
                    refine va_get (ci := 9) (v := .ref (ad (19))) (C := RX9) (T := TX9) (N := 38) hx hb hts hinX9 hown hK hP 0 (wR_0 cy ad σ8) rfl 27 (by decide) (hts (.fieldLink RX9 65 "TaleBansModel" "needOther" "[I") (List.mem_of_getElem? (i := 4) rfl)) (fun x h => h) rfl dX9_clash_74 ?_
                    refine lv_iload hx hb dX9_clash_77 (lv_at hl 4 rfl) ?_
                    obtain ⟨hi, hv⟩ := hv
                    refine va_iald hx hb hK hP 19 0 (wR_19 cy ad σ8) rfl hi dX9_clash_79 ?_
                    refine k_pure_i (va_runS (As := [.int r12, .int (rdA σ8 19 (Int32.toNatClampNeg x13))]) (rest := []) ⟨hx, hb, hml, hown, hts⟩ (h_X9_isIn r12 (rdA σ8 19 (Int32.toNatClampNeg x13))) (va_cwS 2 hts gX9_clash_X9_isIn rfl rfl rfl (by decide +kernel) ⟨le_R hRf (Nat.le_of_ble_eq_true rfl), le_R hRl (Nat.le_of_ble_eq_true rfl)⟩) ⟨(fun a U g mk q => ⟨q.1, trivial⟩), (fun U hU hW => ⟨rfl, trivial⟩)⟩ rfl rfl hl.1 rfl (lv_room (Nat.le_of_ble_eq_true rfl)) dX9_clash_80 ⟨le_R hRc (Nat.le_refl 0), le_R hRs (Nat.le_refl 0)⟩) hS hP (fun r H locs hr1 hP hS => ?_)
                    subst hr1
                    refine lv_if_eq (tgt := 97) hx hb dX9_clash_83 (by decide) (fun c15 => ?_) (fun c15 => ?_)
                    · have hv := hv.1 c15
                      refine lv_iinc (v := (x13 + 1)) (lv' := [(4, .int (x13 + 1)), (0, .ref (ad 0)), (1, .int what_), (2, .int x3), (3, .int r12)]) hx hb dX9_clash_97 hl (k := 4) rfl rfl (by decide) rfl (fun ls hl => ?_)
                      refine lv_goto (tgt := 49) hx hb dX9_clash_100 (by decide) ?_
                      exact ih49 (x13 + 1) _ _ _ hv hP hD hS (lv_sub hl [1, 2, 3, 4, 0] rfl)
                    · have hv := hv.2 c15
                      refine lv_iload_n hx hb dX9_clash_86 rfl (lv_at hl 1 rfl) ?_
                      refine lv_if_ne (tgt := 94) hx hb dX9_clash_87 (by decide) (fun c14 => ?_) (fun c14 => ?_)
                      · have hv := hv.1 c14
                        refine lv_iload hx hb dX9_clash_94 (lv_at hl 4 rfl) ?_
                        rw [hZ]; rw [hQ] at hv
                        exact W.iret (v := x13) hx hb hr (fun t ht hW => ⟨⟨x13, σ8, rfl, hv, ⟨P_of ht hP, hD⟩⟩, hS.F ht⟩) hS.2.2 dX9_clash_96
                      · have hv := hv.2 c14
                        refine lv_iload_n hx hb dX9_clash_90 rfl (lv_at hl 2 rfl) ?_
                        refine lv_goto (tgt := 96) hx hb dX9_clash_91 (by decide) ?_
                        rw [hZ]; rw [hQ] at hv
                        exact W.iret (v := x3) hx hb hr (fun t ht hW => ⟨⟨x3, σ8, rfl, hv, ⟨P_of ht hP, hD⟩⟩, hS.F ht⟩) hS.2.2 dX9_clash_96
            exact lp49 n49 0 _ _ _ hv hP hD hS (lv_sub hl [2, 3, 4, 1, 0] rfl)
      exact lp29 n29 0 σ2 _ _ _ hv hP hD hS (lv_sub hl [1, 2, 0] rfl)
    · have hv := hv.2 c19
      refine lv_bipush (v := (-3)) hx hb dX9_clash_20 (by decide) ?_
      rw [hZ]; rw [hQ] at hv
      exact W.iret (v := (-3)) hx hb hr (fun t ht hW => ⟨⟨(-3), σ0, rfl, hv, ⟨P_of ht hP, hD⟩⟩, hS.F ht⟩) hS.2.2 dX9_clash_22
  · have hv := hv.2 c20
    refine lv_bipush (v := (-2)) hx hb dX9_clash_10 (by decide) ?_
    rw [hZ]; rw [hQ] at hv
    exact W.iret (v := (-2)) hx hb hr (fun t ht hW => ⟨⟨(-2), σ0, rfl, hv, ⟨P_of ht hP, hD⟩⟩, hS.F ht⟩) hS.2.2 dX9_clash_12
set_option maxHeartbeats 4000000 in
set_option maxRecDepth 100000 in
theorem wk_X9_plan (l : Launch) (h_X9_cellsBarred : Ct_X9_cellsBarred l) (h_X9_in : Ct_X9_in l) (h_X9_isForbidden : Ct_X9_isForbidden l) (h_X9_isSeason : Ct_X9_isSeason l) (h_X9_noDeed : Ct_X9_noDeed l) (h_X9_noSheet : Ct_X9_noSheet l) (h_X9_refused : Ct_X9_refused l) (sp : Sp_X9_plan) : Ct_X9_plan l := by
  intro D cy ad A season_ sh_ lane_ i_ n_ ag σ0  hpre
  refine Met.ofW (cc := cX9_plan) (maxL := 8) (ret := (some .int)) (by decide) rfl ?_
  intro p e s m args below meth c s₁ B hml hv0
  obtain ⟨rfl, hP, hK, hD, hN⟩ := hv0
  have hx := B.exec
  have hb := B.bytes
  have hr := B.returns
  have hts := atoms_spec (ws := wsX9_plan) B.pre
  have hown : s.vm.findClass RX9 = some m.cls := findClass_of_methodNamed B.named
  have hlocks := B.notSynchronized
  have hv := sp season_ sh_ lane_ i_ n_ ag σ0 hpre
  have hl := lv_entry ([.ref (ad 0), .int season_, .int sh_, .int lane_, .int i_, .int n_]) (n := 8) (Nat.le_of_ble_eq_true rfl)
  rw [lg_entry_eq]
  generalize (lg_sl ([.ref (ad 0), .int season_, .int sh_, .int lane_, .int i_, .int n_]) ++ List.replicate (8 - (lg_sl ([.ref (ad 0), .int season_, .int sh_, .int lane_, .int i_, .int n_])).length) Slot.unset).toArray = ls at hl ⊢
  have hl : lv_has ls 8 [(0, .ref (ad 0)), (1, .int season_), (2, .int sh_), (3, .int lane_), (4, .int i_), (5, .int n_)] := hl
  refine W_gen (fun R Z H locs hR hZ hH hlo => ?_)
  have hRf : R.frames = 7 := by rw [hR]; rfl
  have hRl : R.locals = 161 := by rw [hR]; rfl
  have hRc : R.cells = 0 := by rw [hR]; rfl
  have hRs : R.slots = 0 := by rw [hR]; rfl
  have hS : va_S A s.heap H locs := by rw [hH, hlo]; exact va_S.rf
  rw [← hH] at hP
  obtain ⟨Q, hQ⟩ : ∃ q : Int32 → S_ → Prop, q = (post_X9_plan season_ sh_ lane_ i_ n_ ag σ0) := ⟨_, rfl⟩
  rw [← hQ] at hv
  have hinX9 : ∀ w ∈ wsX90, w ∈ wsX9_plan := by decide +kernel
  refine lv_iload_n hx hb dX9_plan_0 rfl (lv_at hl 2 rfl) ?_
  refine k_pure_i (va_runS (As := [.int sh_]) (rest := []) ⟨hx, hb, hml, hown, hts⟩ (h_X9_noSheet sh_) (va_cwS 1 hts gX9_plan_X9_noSheet rfl rfl rfl (by decide +kernel) ⟨le_R hRf (Nat.le_of_ble_eq_true rfl), le_R hRl (Nat.le_of_ble_eq_true rfl)⟩) ⟨(fun a U g mk q => ⟨q.1, trivial⟩), (fun U hU hW => ⟨rfl, trivial⟩)⟩ rfl rfl hl.1 rfl (lv_room (Nat.le_of_ble_eq_true rfl)) dX9_plan_1 ⟨le_R hRc (Nat.le_refl 0), le_R hRs (Nat.le_refl 0)⟩) hS hP (fun r H locs hr1 hP hS => ?_)
  subst hr1
  refine lv_if_eq (tgt := 13) hx hb dX9_plan_4 (by decide) (fun c39 => ?_) (fun c39 => ?_)
  · have hv := hv.1 c39
    refine lv_iload_n hx hb dX9_plan_13 rfl (lv_at hl 3 rfl) ?_
    refine lv_i2l hx hb dX9_plan_14 rfl ?_
    refine lv_lconst (v := 0) hx hb dX9_plan_15 rfl ?_
    refine lv_ldc2 (v := (2)) hx hb hown (hts (.constantLong RX9 114 (2)) (List.mem_of_getElem? (i := 1) rfl)) dX9_plan_16 ?_
    refine k_pure_i (va_runS (As := [.long (Int32.toInt64 lane_), .long 0, .long (2)]) (rest := []) ⟨hx, hb, hml, hown, hts⟩ (h_X9_in (Int32.toInt64 lane_) 0 (2)) (va_cwS 3 hts gX9_plan_X9_in rfl rfl rfl (by decide +kernel) ⟨le_R hRf (Nat.le_of_ble_eq_true rfl), le_R hRl (Nat.le_of_ble_eq_true rfl)⟩) ⟨(fun a U g mk q => ⟨q.1, trivial⟩), (fun U hU hW => ⟨rfl, trivial⟩)⟩ rfl rfl hl.1 rfl (lv_room (Nat.le_of_ble_eq_true rfl)) dX9_plan_19 ⟨le_R hRc (Nat.le_refl 0), le_R hRs (Nat.le_refl 0)⟩) hS hP (fun r H locs hr1 hP hS => ?_)
    subst hr1
    refine lv_if_eq (tgt := 32) hx hb dX9_plan_22 (by decide) (fun c36 => ?_) (fun c36 => ?_)
    · have hv := hv.1 c36
      refine lv_aload_n hx hb dX9_plan_32 rfl (lv_at hl 0 rfl) ?_
      refine lv_bipush (v := (-2)) hx hb dX9_plan_33 (by decide) ?_
      have hp := True.intro
      refine k_rel_i (w := wR cy ad) (va_runV (As := [.int (-2)]) (rest := []) ⟨hx, hb, hml, hown, hts⟩ (h_X9_refused D cy ad A (-2) σ0 hp) (cwV 1 hts gX9_plan_X9_refused rfl rfl rfl (by decide +kernel) ⟨le_R hRf (Nat.le_of_ble_eq_true rfl), le_R hRl (Nat.le_of_ble_eq_true rfl)⟩) ⟨(fun a U g mk q => ⟨q.1, q.2.blind⟩), va_recv hK hP (ci := 9) (q0 := 0) rfl (wR_0 cy ad σ0), (fun U hU hW => ⟨rfl, WdR.pre hP hK hD hN hU hW⟩)⟩ rfl rfl hl.1 rfl (lv_room (Nat.le_of_ble_eq_true rfl)) dX9_plan_35 ⟨le_R hRc (Nat.le_refl 0), le_R hRs (Nat.le_refl 0)⟩) hS (fun r2 σ1 H locs hr1 hP hD hS => ?_)
      have hv := hv r2 σ1 hr1
      rw [hZ]; rw [hQ] at hv
      exact W.iret (v := r2) hx hb hr (fun t ht hW => ⟨⟨r2, σ1, rfl, hv, ⟨P_of ht hP, hD⟩⟩, hS.F ht⟩) hS.2.2 dX9_plan_38
    · have hv := hv.2 c36
      refine lv_iload_n hx hb dX9_plan_25 rfl (lv_at hl 1 rfl) ?_
      refine k_pure_i (va_runS (As := [.int season_]) (rest := []) ⟨hx, hb, hml, hown, hts⟩ (h_X9_isSeason season_) (va_cwS 1 hts gX9_plan_X9_isSeason rfl rfl rfl (by decide +kernel) ⟨le_R hRf (Nat.le_of_ble_eq_true rfl), le_R hRl (Nat.le_of_ble_eq_true rfl)⟩) ⟨(fun a U g mk q => ⟨q.1, trivial⟩), (fun U hU hW => ⟨rfl, trivial⟩)⟩ rfl rfl hl.1 rfl (lv_room (Nat.le_of_ble_eq_true rfl)) dX9_plan_26 ⟨le_R hRc (Nat.le_refl 0), le_R hRs (Nat.le_refl 0)⟩) hS hP (fun r H locs hr1 hP hS => ?_)
      subst hr1
      refine lv_if_ne (tgt := 39) hx hb dX9_plan_29 (by decide) (fun c35 => ?_) (fun c35 => ?_)
      · have hv := hv.1 c35
        refine lv_aload_n hx hb dX9_plan_39 rfl (lv_at hl 0 rfl) ?_
        refine va_get (ci := 9) (v := .int (rdI σ0 1)) (C := RX9) (T := TX9) (N := 38) hx hb hts hinX9 hown hK hP 0 (wR_0 cy ad σ0) rfl 1 (by decide) (hts (.fieldLink RX9 102 "TaleBansModel" "persons" "I") (List.mem_of_getElem? (i := 2) rfl)) (fun x h => h) rfl dX9_plan_40 ?_
        refine lv_if_ne (tgt := 53) hx hb dX9_plan_43 (by decide) (fun c32 => ?_) (fun c32 => ?_)
        · have hv := hv.1 c32
          refine lv_aload_n hx hb dX9_plan_53 rfl (lv_at hl 0 rfl) ?_
          refine lv_iload_n hx hb dX9_plan_54 rfl (lv_at hl 2 rfl) ?_
          refine lv_iload_n hx hb dX9_plan_55 rfl (lv_at hl 3 rfl) ?_
          refine lv_iload hx hb dX9_plan_56 (lv_at hl 4 rfl) ?_
          refine lv_iload hx hb dX9_plan_58 (lv_at hl 5 rfl) ?_
          refine lv_i2l hx hb dX9_plan_60 rfl ?_
          obtain ⟨g3, g4, g5, hv⟩ := hv
          obtain ⟨hp, hv⟩ := hv
          refine k_rel_i (w := wR cy ad) (va_runV (As := [.int sh_, .int lane_, .int i_, .long (Int32.toInt64 n_)]) (rest := []) ⟨hx, hb, hml, hown, hts⟩ (h_X9_cellsBarred D cy ad A sh_ lane_ i_ (Int32.toInt64 n_) g3 g4 g5 σ0 hp) (cwV 4 hts gX9_plan_X9_cellsBarred rfl rfl rfl (by decide +kernel) ⟨le_R hRf (Nat.le_of_ble_eq_true rfl), le_R hRl (Nat.le_of_ble_eq_true rfl)⟩) ⟨(fun a U g mk q => ⟨q.1, q.2.blind⟩), va_recv hK hP (ci := 9) (q0 := 0) rfl (wR_0 cy ad σ0), (fun U hU hW => ⟨rfl, WdR.pre hP hK hD hN hU hW⟩)⟩ rfl rfl hl.1 rfl (lv_room (Nat.le_of_ble_eq_true rfl)) dX9_plan_61 ⟨le_R hRc (Nat.le_refl 0), le_R hRs (Nat.le_refl 0)⟩) hS (fun r7 σ6 H locs hr1 hP hD hS => ?_)
          have hv := hv r7 σ6 hr1
          refine lv_istore (lv' := [(6, .int r7), (0, .ref (ad 0)), (1, .int season_), (2, .int sh_), (3, .int lane_), (4, .int i_), (5, .int n_)]) hx hb dX9_plan_64 hl (by decide) rfl (fun ls hl => ?_)
          refine lv_iload hx hb dX9_plan_66 (lv_at hl 0 rfl) ?_
          refine lv_if_ge (tgt := 74) hx hb dX9_plan_68 (by decide) (fun c29 => ?_) (fun c29 => ?_)
          · have hv := hv.1 c29
            refine lv_iload_n hx hb dX9_plan_74 rfl (lv_at hl 2 rfl) ?_
            refine lv_iload hx hb dX9_plan_75 (lv_at hl 6 rfl) ?_
            refine lv_iadd hx hb dX9_plan_77 ?_
            refine lv_bipush (v := 40) hx hb dX9_plan_78 (by decide) ?_
            refine lv_icmp_le (tgt := 90) hx hb dX9_plan_80 (by decide) (fun c28 => ?_) (fun c28 => ?_)
            · have hv := hv.1 c28
              refine lv_iconst (v := 0) hx hb dX9_plan_90 (by decide) ?_
              refine lv_istore (lv' := [(7, .int 0), (6, .int r7), (0, .ref (ad 0)), (1, .int season_), (2, .int sh_), (3, .int lane_), (4, .int i_), (5, .int n_)]) hx hb dX9_plan_91 hl (by decide) rfl (fun ls hl => ?_)
              obtain ⟨n93, hv⟩ := hv
              have lp93 : ∀ (nn93 : Nat) (x8 : Int32) (H : Heap) (locs : List Loc) (ls : Array Slot), vl_X9_plan_93 season_ sh_ i_ n_ σ6 Q nn93 x8 → va_P D vwCl (wR cy ad σ6) H → va_D A (wR cy ad σ6) → va_S A s.heap H locs → lv_has ls 8 [(0, .ref (ad 0)), (1, .int season_), (2, .int sh_), (4, .int i_), (5, .int n_), (7, .int x8)] → W p l e R s m ([.ref (ad 0), .int season_, .int sh_, .int lane_, .int i_, .int n_] : List Value).toArray  below meth c H locs 0 0 Z (F0 m 93 ls []) := by
                intro nn93
                induction nn93 with
                | zero => intro x8 H locs ls hv; exact absurd hv id
                | succ mm93 ih93 =>
                  intro x8 H locs ls hv hP hD hS hl
                  refine lv_iload hx hb dX9_plan_93 (lv_at hl 5 rfl) ?_
                  refine lv_iload hx hb dX9_plan_95 (lv_at hl 4 rfl) ?_
                  refine lv_icmp_ge (tgt := 133) hx hb dX9_plan_97 (by decide) (fun c25 => ?_) (fun c25 => ?_)
                  · have hv := hv.1 c25
                    refine lv_iconst (v := 0) hx hb dX9_plan_133 (by decide) ?_
                    refine lv_istore (lv' := [(7, .int 0), (0, .ref (ad 0)), (1, .int season_), (2, .int sh_), (4, .int i_), (5, .int n_)]) hx hb dX9_plan_134 hl (by decide) rfl (fun ls hl => ?_)
                    obtain ⟨n136, hv⟩ := hv
                    have lp136 : ∀ (nn136 : Nat) (x9 : Int32) (σ10 : S_) (H : Heap) (locs : List Loc) (ls : Array Slot), vl_X9_plan_136 season_ sh_ i_ n_ Q nn136 x9 σ10 → va_P D vwCl (wR cy ad σ10) H → va_D A (wR cy ad σ10) → va_S A s.heap H locs → lv_has ls 8 [(0, .ref (ad 0)), (1, .int season_), (2, .int sh_), (4, .int i_), (5, .int n_), (7, .int x9)] → W p l e R s m ([.ref (ad 0), .int season_, .int sh_, .int lane_, .int i_, .int n_] : List Value).toArray  below meth c H locs 0 0 Z (F0 m 136 ls []) := by
                      intro nn136
                      induction nn136 with
                      | zero => intro x9 σ10 H locs ls hv; exact absurd hv id
                      | succ mm136 ih136 =>
                        intro x9 σ10 H locs ls hv hP hD hS hl
                        refine lv_iload hx hb dX9_plan_136 (lv_at hl 5 rfl) ?_
                        refine lv_iload hx hb dX9_plan_138 (lv_at hl 4 rfl) ?_
                        refine lv_icmp_ge (tgt := 182) hx hb dX9_plan_140 (by decide) (fun c21 => ?_) (fun c21 => ?_)
                        · have hv := hv.1 c21
                          refine lv_aload_n hx hb dX9_plan_182 rfl (lv_at hl 0 rfl) ?_
                          refine lv_bipush (v := (-9)) hx hb dX9_plan_183 (by decide) ?_
                          have hp := True.intro
                          refine k_rel_i (w := wR cy ad) (va_runV (As := [.int (-9)]) (rest := []) ⟨hx, hb, hml, hown, hts⟩ (h_X9_refused D cy ad A (-9) σ10 hp) (cwV 1 hts gX9_plan_X9_refused rfl rfl rfl (by decide +kernel) ⟨le_R hRf (Nat.le_of_ble_eq_true rfl), le_R hRl (Nat.le_of_ble_eq_true rfl)⟩) ⟨(fun a U g mk q => ⟨q.1, q.2.blind⟩), va_recv hK hP (ci := 9) (q0 := 0) rfl (wR_0 cy ad σ10), (fun U hU hW => ⟨rfl, WdR.pre hP hK hD hN hU hW⟩)⟩ rfl rfl hl.1 rfl (lv_room (Nat.le_of_ble_eq_true rfl)) dX9_plan_185 ⟨le_R hRc (Nat.le_refl 0), le_R hRs (Nat.le_refl 0)⟩) hS (fun r12 σ11 H locs hr1 hP hD hS => ?_)
                          have hv := hv r12 σ11 hr1
                          rw [hZ]; rw [hQ] at hv
                          exact W.iret (v := r12) hx hb hr (fun t ht hW => ⟨⟨r12, σ11, rfl, hv, ⟨P_of ht hP, hD⟩⟩, hS.F ht⟩) hS.2.2 dX9_plan_188
                        · have hv := hv.2 c21
                          refine lv_aload_n hx hb dX9_plan_143 rfl (lv_at hl 0 rfl) ?_
                          refine lv_aload_n hx hb dX9_plan_144 rfl (lv_at hl 0 rfl) ?_
                          refine va_get (ci := 9) (v := .ref (ad (26))) (C := RX9) (T := TX9) (N := 38) hx hb hts hinX9 hown hK hP 0 (wR_0 cy ad σ10) rfl 35 (by decide) (hts (.fieldLink RX9 86 "TaleBansModel" "sheet" "[I") (List.mem_of_getElem? (i := 3) rfl)) (fun x h => h) rfl dX9_plan_145 ?_
                          refine lv_bipush (v := 60) hx hb dX9_plan_148 (by decide) ?_
                          refine lv_iload_n hx hb dX9_plan_150 rfl (lv_at hl 2 rfl) ?_
                          refine lv_imul hx hb dX9_plan_151 ?_
                          refine lv_iload hx hb dX9_plan_152 (lv_at hl 3 rfl) ?_
                          refine lv_iadd hx hb dX9_plan_154 ?_
                          refine lv_iload hx hb dX9_plan_155 (lv_at hl 5 rfl) ?_
                          refine lv_iadd hx hb dX9_plan_157 ?_
                          obtain ⟨hi, hv⟩ := hv
                          refine va_iald hx hb hK hP 26 0 (wR_26 cy ad σ10) rfl hi dX9_plan_158 ?_
                          refine lv_iload_n hx hb dX9_plan_159 rfl (lv_at hl 1 rfl) ?_
                          refine lv_iload hx hb dX9_plan_160 (lv_at hl 5 rfl) ?_
                          refine lv_iadd hx hb dX9_plan_162 ?_
                          obtain ⟨g13, g14, g15, hv⟩ := hv
                          obtain ⟨hp, hv⟩ := hv
                          refine k_rel_i (w := wR cy ad) (va_runV (As := [.int (rdA σ10 26 (Int32.toNatClampNeg (((60 * sh_) + i_) + x9))), .int (season_ + x9)]) (rest := []) ⟨hx, hb, hml, hown, hts⟩ (h_X9_isForbidden D cy ad A (rdA σ10 26 (Int32.toNatClampNeg (((60 * sh_) + i_) + x9))) (season_ + x9) g13 g14 g15 σ10 hp) (cwV 2 hts gX9_plan_X9_isForbidden rfl rfl rfl (by decide +kernel) ⟨le_R hRf (Nat.le_of_ble_eq_true rfl), le_R hRl (Nat.le_of_ble_eq_true rfl)⟩) ⟨(fun a U g mk q => ⟨q.1, q.2.blind⟩), va_recv hK hP (ci := 9) (q0 := 0) rfl (wR_0 cy ad σ10), (fun U hU hW => ⟨rfl, WdR.pre hP hK hD hN hU hW⟩)⟩ rfl rfl hl.1 rfl (lv_room (Nat.le_of_ble_eq_true rfl)) dX9_plan_163 ⟨le_R hRc (Nat.le_refl 0), le_R hRs (Nat.le_refl 0)⟩) hS (fun r17 σ16 H locs hr1 hP hD hS => ?_)
                          have hv := hv r17 σ16 hr1
                          refine lv_if_eq (tgt := 176) hx hb dX9_plan_166 (by decide) (fun c20 => ?_) (fun c20 => ?_)
                          · have hv := hv.1 c20
                            refine lv_iinc (v := (x9 + 1)) (lv' := [(7, .int (x9 + 1)), (0, .ref (ad 0)), (1, .int season_), (2, .int sh_), (4, .int i_), (5, .int n_)]) hx hb dX9_plan_176 hl (k := 5) rfl rfl (by decide) rfl (fun ls hl => ?_)
                            refine lv_goto (tgt := 136) hx hb dX9_plan_179 (by decide) ?_
                            exact ih136 (x9 + 1) σ16 _ _ _ hv hP hD hS (lv_sub hl [1, 2, 3, 4, 5, 0] rfl)
                          · have hv := hv.2 c20
                            refine lv_aload_n hx hb dX9_plan_169 rfl (lv_at hl 0 rfl) ?_
                            refine lv_iload hx hb dX9_plan_170 (lv_at hl 5 rfl) ?_
                            have hp := True.intro
                            refine k_rel_i (w := wR cy ad) (va_runV (As := [.int x9]) (rest := []) ⟨hx, hb, hml, hown, hts⟩ (h_X9_refused D cy ad A x9 σ16 hp) (cwV 1 hts gX9_plan_X9_refused rfl rfl rfl (by decide +kernel) ⟨le_R hRf (Nat.le_of_ble_eq_true rfl), le_R hRl (Nat.le_of_ble_eq_true rfl)⟩) ⟨(fun a U g mk q => ⟨q.1, q.2.blind⟩), va_recv hK hP (ci := 9) (q0 := 0) rfl (wR_0 cy ad σ16), (fun U hU hW => ⟨rfl, WdR.pre hP hK hD hN hU hW⟩)⟩ rfl rfl hl.1 rfl (lv_room (Nat.le_of_ble_eq_true rfl)) dX9_plan_172 ⟨le_R hRc (Nat.le_refl 0), le_R hRs (Nat.le_refl 0)⟩) hS (fun r19 σ18 H locs hr1 hP hD hS => ?_)
                            have hv := hv r19 σ18 hr1
                            rw [hZ]; rw [hQ] at hv
                            exact W.iret (v := r19) hx hb hr (fun t ht hW => ⟨⟨r19, σ18, rfl, hv, ⟨P_of ht hP, hD⟩⟩, hS.F ht⟩) hS.2.2 dX9_plan_175
                    exact lp136 n136 0 σ6 _ _ _ hv hP hD hS (lv_sub hl [1, 2, 3, 4, 5, 0] rfl)
                  · have hv := hv.2 c25
                    refine lv_aload_n hx hb dX9_plan_100 rfl (lv_at hl 0 rfl) ?_
                    refine va_get (ci := 9) (v := .ref (ad (26))) (C := RX9) (T := TX9) (N := 38) hx hb hts hinX9 hown hK hP 0 (wR_0 cy ad σ6) rfl 35 (by decide) (hts (.fieldLink RX9 86 "TaleBansModel" "sheet" "[I") (List.mem_of_getElem? (i := 3) rfl)) (fun x h => h) rfl dX9_plan_101 ?_
                    refine lv_bipush (v := 60) hx hb dX9_plan_104 (by decide) ?_
                    refine lv_iload_n hx hb dX9_plan_106 rfl (lv_at hl 2 rfl) ?_
                    refine lv_imul hx hb dX9_plan_107 ?_
                    refine lv_iload hx hb dX9_plan_108 (lv_at hl 3 rfl) ?_
                    refine lv_iadd hx hb dX9_plan_110 ?_
                    refine lv_iload hx hb dX9_plan_111 (lv_at hl 5 rfl) ?_
                    refine lv_iadd hx hb dX9_plan_113 ?_
                    obtain ⟨hi, hv⟩ := hv
                    refine va_iald hx hb hK hP 26 0 (wR_26 cy ad σ6) rfl hi dX9_plan_114 ?_
                    refine k_pure_i (va_runS (As := [.int (rdA σ6 26 (Int32.toNatClampNeg (((60 * sh_) + i_) + x8)))]) (rest := []) ⟨hx, hb, hml, hown, hts⟩ (h_X9_noDeed (rdA σ6 26 (Int32.toNatClampNeg (((60 * sh_) + i_) + x8)))) (va_cwS 1 hts gX9_plan_X9_noDeed rfl rfl rfl (by decide +kernel) ⟨le_R hRf (Nat.le_of_ble_eq_true rfl), le_R hRl (Nat.le_of_ble_eq_true rfl)⟩) ⟨(fun a U g mk q => ⟨q.1, trivial⟩), (fun U hU hW => ⟨rfl, trivial⟩)⟩ rfl rfl hl.1 rfl (lv_room (Nat.le_of_ble_eq_true rfl)) dX9_plan_115 ⟨le_R hRc (Nat.le_refl 0), le_R hRs (Nat.le_refl 0)⟩) hS hP (fun r H locs hr1 hP hS => ?_)
                    subst hr1
                    refine lv_if_eq (tgt := 127) hx hb dX9_plan_118 (by decide) (fun c24 => ?_) (fun c24 => ?_)
                    · have hv := hv.1 c24
                      refine lv_iinc (v := (x8 + 1)) (lv' := [(7, .int (x8 + 1)), (0, .ref (ad 0)), (1, .int season_), (2, .int sh_), (4, .int i_), (5, .int n_)]) hx hb dX9_plan_127 hl (k := 5) rfl rfl (by decide) rfl (fun ls hl => ?_)
                      refine lv_goto (tgt := 93) hx hb dX9_plan_130 (by decide) ?_
                      exact ih93 (x8 + 1) _ _ _ hv hP hD hS (lv_sub hl [1, 2, 3, 4, 5, 0] rfl)
                    · have hv := hv.2 c24
                      refine lv_aload_n hx hb dX9_plan_121 rfl (lv_at hl 0 rfl) ?_
                      refine lv_iconst (v := (-1)) hx hb dX9_plan_122 (by decide) ?_
                      have hp := True.intro
                      refine k_rel_i (w := wR cy ad) (va_runV (As := [.int (-1)]) (rest := []) ⟨hx, hb, hml, hown, hts⟩ (h_X9_refused D cy ad A (-1) σ6 hp) (cwV 1 hts gX9_plan_X9_refused rfl rfl rfl (by decide +kernel) ⟨le_R hRf (Nat.le_of_ble_eq_true rfl), le_R hRl (Nat.le_of_ble_eq_true rfl)⟩) ⟨(fun a U g mk q => ⟨q.1, q.2.blind⟩), va_recv hK hP (ci := 9) (q0 := 0) rfl (wR_0 cy ad σ6), (fun U hU hW => ⟨rfl, WdR.pre hP hK hD hN hU hW⟩)⟩ rfl rfl hl.1 rfl (lv_room (Nat.le_of_ble_eq_true rfl)) dX9_plan_123 ⟨le_R hRc (Nat.le_refl 0), le_R hRs (Nat.le_refl 0)⟩) hS (fun r23 σ22 H locs hr1 hP hD hS => ?_)
                      have hv := hv r23 σ22 hr1
                      rw [hZ]; rw [hQ] at hv
                      exact W.iret (v := r23) hx hb hr (fun t ht hW => ⟨⟨r23, σ22, rfl, hv, ⟨P_of ht hP, hD⟩⟩, hS.F ht⟩) hS.2.2 dX9_plan_126
              exact lp93 n93 0 _ _ _ hv hP hD hS (lv_sub hl [2, 3, 4, 6, 7, 0] rfl)
            · have hv := hv.2 c28
              refine lv_aload_n hx hb dX9_plan_83 rfl (lv_at hl 1 rfl) ?_
              refine lv_bipush (v := (-2)) hx hb dX9_plan_84 (by decide) ?_
              have hp := True.intro
              refine k_rel_i (w := wR cy ad) (va_runV (As := [.int (-2)]) (rest := []) ⟨hx, hb, hml, hown, hts⟩ (h_X9_refused D cy ad A (-2) σ6 hp) (cwV 1 hts gX9_plan_X9_refused rfl rfl rfl (by decide +kernel) ⟨le_R hRf (Nat.le_of_ble_eq_true rfl), le_R hRl (Nat.le_of_ble_eq_true rfl)⟩) ⟨(fun a U g mk q => ⟨q.1, q.2.blind⟩), va_recv hK hP (ci := 9) (q0 := 0) rfl (wR_0 cy ad σ6), (fun U hU hW => ⟨rfl, WdR.pre hP hK hD hN hU hW⟩)⟩ rfl rfl hl.1 rfl (lv_room (Nat.le_of_ble_eq_true rfl)) dX9_plan_86 ⟨le_R hRc (Nat.le_refl 0), le_R hRs (Nat.le_refl 0)⟩) hS (fun r27 σ26 H locs hr1 hP hD hS => ?_)
              have hv := hv r27 σ26 hr1
              rw [hZ]; rw [hQ] at hv
              exact W.iret (v := r27) hx hb hr (fun t ht hW => ⟨⟨r27, σ26, rfl, hv, ⟨P_of ht hP, hD⟩⟩, hS.F ht⟩) hS.2.2 dX9_plan_89
          · have hv := hv.2 c29
            refine lv_iload hx hb dX9_plan_71 (lv_at hl 0 rfl) ?_
            rw [hZ]; rw [hQ] at hv
            exact W.iret (v := r7) hx hb hr (fun t ht hW => ⟨⟨r7, σ6, rfl, hv, ⟨P_of ht hP, hD⟩⟩, hS.F ht⟩) hS.2.2 dX9_plan_73
        · have hv := hv.2 c32
          refine lv_aload_n hx hb dX9_plan_46 rfl (lv_at hl 0 rfl) ?_
          refine lv_bipush (v := (-3)) hx hb dX9_plan_47 (by decide) ?_
          have hp := True.intro
          refine k_rel_i (w := wR cy ad) (va_runV (As := [.int (-3)]) (rest := []) ⟨hx, hb, hml, hown, hts⟩ (h_X9_refused D cy ad A (-3) σ0 hp) (cwV 1 hts gX9_plan_X9_refused rfl rfl rfl (by decide +kernel) ⟨le_R hRf (Nat.le_of_ble_eq_true rfl), le_R hRl (Nat.le_of_ble_eq_true rfl)⟩) ⟨(fun a U g mk q => ⟨q.1, q.2.blind⟩), va_recv hK hP (ci := 9) (q0 := 0) rfl (wR_0 cy ad σ0), (fun U hU hW => ⟨rfl, WdR.pre hP hK hD hN hU hW⟩)⟩ rfl rfl hl.1 rfl (lv_room (Nat.le_of_ble_eq_true rfl)) dX9_plan_49 ⟨le_R hRc (Nat.le_refl 0), le_R hRs (Nat.le_refl 0)⟩) hS (fun r31 σ30 H locs hr1 hP hD hS => ?_)
          have hv := hv r31 σ30 hr1
          rw [hZ]; rw [hQ] at hv
          exact W.iret (v := r31) hx hb hr (fun t ht hW => ⟨⟨r31, σ30, rfl, hv, ⟨P_of ht hP, hD⟩⟩, hS.F ht⟩) hS.2.2 dX9_plan_52
      · have hv := hv.2 c35
        refine lv_aload_n hx hb dX9_plan_32 rfl (lv_at hl 0 rfl) ?_
        refine lv_bipush (v := (-2)) hx hb dX9_plan_33 (by decide) ?_
        have hp := True.intro
        refine k_rel_i (w := wR cy ad) (va_runV (As := [.int (-2)]) (rest := []) ⟨hx, hb, hml, hown, hts⟩ (h_X9_refused D cy ad A (-2) σ0 hp) (cwV 1 hts gX9_plan_X9_refused rfl rfl rfl (by decide +kernel) ⟨le_R hRf (Nat.le_of_ble_eq_true rfl), le_R hRl (Nat.le_of_ble_eq_true rfl)⟩) ⟨(fun a U g mk q => ⟨q.1, q.2.blind⟩), va_recv hK hP (ci := 9) (q0 := 0) rfl (wR_0 cy ad σ0), (fun U hU hW => ⟨rfl, WdR.pre hP hK hD hN hU hW⟩)⟩ rfl rfl hl.1 rfl (lv_room (Nat.le_of_ble_eq_true rfl)) dX9_plan_35 ⟨le_R hRc (Nat.le_refl 0), le_R hRs (Nat.le_refl 0)⟩) hS (fun r34 σ33 H locs hr1 hP hD hS => ?_)
        have hv := hv r34 σ33 hr1
        rw [hZ]; rw [hQ] at hv
        exact W.iret (v := r34) hx hb hr (fun t ht hW => ⟨⟨r34, σ33, rfl, hv, ⟨P_of ht hP, hD⟩⟩, hS.F ht⟩) hS.2.2 dX9_plan_38
  · have hv := hv.2 c39
    refine lv_aload_n hx hb dX9_plan_7 rfl (lv_at hl 0 rfl) ?_
    refine lv_iconst (v := (-1)) hx hb dX9_plan_8 (by decide) ?_
    have hp := True.intro
    refine k_rel_i (w := wR cy ad) (va_runV (As := [.int (-1)]) (rest := []) ⟨hx, hb, hml, hown, hts⟩ (h_X9_refused D cy ad A (-1) σ0 hp) (cwV 1 hts gX9_plan_X9_refused rfl rfl rfl (by decide +kernel) ⟨le_R hRf (Nat.le_of_ble_eq_true rfl), le_R hRl (Nat.le_of_ble_eq_true rfl)⟩) ⟨(fun a U g mk q => ⟨q.1, q.2.blind⟩), va_recv hK hP (ci := 9) (q0 := 0) rfl (wR_0 cy ad σ0), (fun U hU hW => ⟨rfl, WdR.pre hP hK hD hN hU hW⟩)⟩ rfl rfl hl.1 rfl (lv_room (Nat.le_of_ble_eq_true rfl)) dX9_plan_9 ⟨le_R hRc (Nat.le_refl 0), le_R hRs (Nat.le_refl 0)⟩) hS (fun r38 σ37 H locs hr1 hP hD hS => ?_)
    have hv := hv r38 σ37 hr1
    rw [hZ]; rw [hQ] at hv
    exact W.iret (v := r38) hx hb hr (fun t ht hW => ⟨⟨r38, σ37, rfl, hv, ⟨P_of ht hP, hD⟩⟩, hS.F ht⟩) hS.2.2 dX9_plan_12
set_option maxHeartbeats 4000000 in
set_option maxRecDepth 100000 in
theorem wk_X9_reading (l : Launch) (h_X9_isSeason : Ct_X9_isSeason l) (h_X9_noPerson : Ct_X9_noPerson l) (h_X9_noTale : Ct_X9_noTale l) (sp : Sp_X9_reading) : Ct_X9_reading l := by
  intro D cy ad A p_ t_ season_ did_ ag σ0  hpre
  refine Met.ofW (cc := cX9_reading) (maxL := 5) (ret := (some .int)) (by decide) rfl ?_
  intro p e s m args below meth c s₁ B hml hv0
  obtain ⟨rfl, hP, hK, hD, hN⟩ := hv0
  have hx := B.exec
  have hb := B.bytes
  have hr := B.returns
  have hts := atoms_spec (ws := wsX9_reading) B.pre
  have hown : s.vm.findClass RX9 = some m.cls := findClass_of_methodNamed B.named
  have hlocks := B.notSynchronized
  have hv := sp p_ t_ season_ did_ ag σ0 hpre
  have hl := lv_entry ([.ref (ad 0), .int p_, .int t_, .int season_, .int did_]) (n := 5) (Nat.le_of_ble_eq_true rfl)
  rw [lg_entry_eq]
  generalize (lg_sl ([.ref (ad 0), .int p_, .int t_, .int season_, .int did_]) ++ List.replicate (5 - (lg_sl ([.ref (ad 0), .int p_, .int t_, .int season_, .int did_])).length) Slot.unset).toArray = ls at hl ⊢
  have hl : lv_has ls 5 [(0, .ref (ad 0)), (1, .int p_), (2, .int t_), (3, .int season_), (4, .int did_)] := hl
  refine W_gen (fun R Z H locs hR hZ hH hlo => ?_)
  have hRf : R.frames = 2 := by rw [hR]; rfl
  have hRl : R.locals = 46 := by rw [hR]; rfl
  have hRc : R.cells = 0 := by rw [hR]; rfl
  have hRs : R.slots = 0 := by rw [hR]; rfl
  have hS : va_S A s.heap H locs := by rw [hH, hlo]; exact va_S.rf
  rw [← hH] at hP
  obtain ⟨Q, hQ⟩ : ∃ q : Int32 → S_ → Prop, q = (post_X9_reading p_ t_ season_ did_ ag σ0) := ⟨_, rfl⟩
  rw [← hQ] at hv
  have hinX9 : ∀ w ∈ wsX90, w ∈ wsX9_reading := by decide +kernel
  refine lv_aload_n hx hb dX9_reading_0 rfl (lv_at hl 0 rfl) ?_
  refine lv_iload_n hx hb dX9_reading_1 rfl (lv_at hl 1 rfl) ?_
  have hp := True.intro
  refine k_read_i (w := wR cy ad) (va_runV (As := [.int p_]) (rest := []) ⟨hx, hb, hml, hown, hts⟩ (h_X9_noPerson D cy ad A p_ σ0 hp) (cwV 1 hts gX9_reading_X9_noPerson rfl rfl rfl (by decide +kernel) ⟨le_R hRf (Nat.le_of_ble_eq_true rfl), le_R hRl (Nat.le_of_ble_eq_true rfl)⟩) ⟨(fun a U g mk q => ⟨q.1, q.2.blind⟩), va_recv hK hP (ci := 9) (q0 := 0) rfl (wR_0 cy ad σ0), (fun U hU hW => ⟨rfl, WdR.pre hP hK hD hN hU hW⟩)⟩ rfl rfl hl.1 rfl (lv_room (Nat.le_of_ble_eq_true rfl)) dX9_reading_2 ⟨le_R hRc (Nat.le_refl 0), le_R hRs (Nat.le_refl 0)⟩) hS (fun r H locs hr1 hP hS => ?_)
  subst hr1
  refine lv_if_ne (tgt := 16) hx hb dX9_reading_5 (by decide) (fun c14 => ?_) (fun c14 => ?_)
  · have hv := hv.1 c14
    refine lv_iconst (v := (-1)) hx hb dX9_reading_16 (by decide) ?_
    rw [hZ]; rw [hQ] at hv
    exact W.iret (v := (-1)) hx hb hr (fun t ht hW => ⟨⟨(-1), σ0, rfl, hv, ⟨P_of ht hP, hD⟩⟩, hS.F ht⟩) hS.2.2 dX9_reading_17
  · have hv := hv.2 c14
    refine lv_aload_n hx hb dX9_reading_8 rfl (lv_at hl 0 rfl) ?_
    refine lv_iload_n hx hb dX9_reading_9 rfl (lv_at hl 2 rfl) ?_
    have hp := True.intro
    refine k_read_i (w := wR cy ad) (va_runV (As := [.int t_]) (rest := []) ⟨hx, hb, hml, hown, hts⟩ (h_X9_noTale D cy ad A t_ σ0 hp) (cwV 1 hts gX9_reading_X9_noTale rfl rfl rfl (by decide +kernel) ⟨le_R hRf (Nat.le_of_ble_eq_true rfl), le_R hRl (Nat.le_of_ble_eq_true rfl)⟩) ⟨(fun a U g mk q => ⟨q.1, q.2.blind⟩), va_recv hK hP (ci := 9) (q0 := 0) rfl (wR_0 cy ad σ0), (fun U hU hW => ⟨rfl, WdR.pre hP hK hD hN hU hW⟩)⟩ rfl rfl hl.1 rfl (lv_room (Nat.le_of_ble_eq_true rfl)) dX9_reading_10 ⟨le_R hRc (Nat.le_refl 0), le_R hRs (Nat.le_refl 0)⟩) hS (fun r H locs hr1 hP hS => ?_)
    subst hr1
    refine lv_if_eq (tgt := 18) hx hb dX9_reading_13 (by decide) (fun c13 => ?_) (fun c13 => ?_)
    · have hv := hv.1 c13
      refine lv_iload_n hx hb dX9_reading_18 rfl (lv_at hl 3 rfl) ?_
      refine k_pure_i (va_runS (As := [.int season_]) (rest := []) ⟨hx, hb, hml, hown, hts⟩ (h_X9_isSeason season_) (va_cwS 1 hts gX9_reading_X9_isSeason rfl rfl rfl (by decide +kernel) ⟨le_R hRf (Nat.le_of_ble_eq_true rfl), le_R hRl (Nat.le_of_ble_eq_true rfl)⟩) ⟨(fun a U g mk q => ⟨q.1, trivial⟩), (fun U hU hW => ⟨rfl, trivial⟩)⟩ rfl rfl hl.1 rfl (lv_room (Nat.le_of_ble_eq_true rfl)) dX9_reading_19 ⟨le_R hRc (Nat.le_refl 0), le_R hRs (Nat.le_refl 0)⟩) hS hP (fun r H locs hr1 hP hS => ?_)
      subst hr1
      refine lv_if_ne (tgt := 28) hx hb dX9_reading_22 (by decide) (fun c12 => ?_) (fun c12 => ?_)
      · have hv := hv.1 c12
        refine lv_aload_n hx hb dX9_reading_28 rfl (lv_at hl 0 rfl) ?_
        refine va_get (ci := 9) (v := .int (rdI σ0 9)) (C := RX9) (T := TX9) (N := 38) hx hb hts hinX9 hown hK hP 0 (wR_0 cy ad σ0) rfl 28 (by decide) (hts (.fieldLink RX9 170 "TaleBansModel" "readings" "I") (List.mem_of_getElem? (i := 1) rfl)) (fun x h => h) rfl dX9_reading_29 ?_
        refine lv_bipush (v := 8) hx hb dX9_reading_32 (by decide) ?_
        refine lv_icmp_ne (tgt := 40) hx hb dX9_reading_34 (by decide) (fun c11 => ?_) (fun c11 => ?_)
        · have hv := hv.1 c11
          refine lv_aload_n hx hb dX9_reading_40 rfl (lv_at hl 0 rfl) ?_
          refine va_get (ci := 9) (v := .ref (ad (20))) (C := RX9) (T := TX9) (N := 38) hx hb hts hinX9 hown hK hP 0 (wR_0 cy ad σ0) rfl 29 (by decide) (hts (.fieldLink RX9 68 "TaleBansModel" "readingOf" "[I") (List.mem_of_getElem? (i := 2) rfl)) (fun x h => h) rfl dX9_reading_41 ?_
          refine lv_aload_n hx hb dX9_reading_44 rfl (lv_at hl 0 rfl) ?_
          refine va_get (ci := 9) (v := .int (rdI σ0 9)) (C := RX9) (T := TX9) (N := 38) hx hb hts hinX9 hown hK hP 0 (wR_0 cy ad σ0) rfl 28 (by decide) (hts (.fieldLink RX9 170 "TaleBansModel" "readings" "I") (List.mem_of_getElem? (i := 1) rfl)) (fun x h => h) rfl dX9_reading_45 ?_
          refine lv_iload_n hx hb dX9_reading_48 rfl (lv_at hl 1 rfl) ?_
          obtain ⟨hi, hv⟩ := hv
          refine va_iast hx hb hK hP hD hS 20 0 (wR_20 cy ad σ0) rfl hi dX9_reading_49 (fun H locs hP hD hS => ?_)
          obtain ⟨σ1, e2⟩ : ∃ y : S_, y = wr2 σ0 20 (Int32.toNatClampNeg (rdI σ0 9)) p_ := ⟨_, rfl⟩
          have hP : va_P D vwCl (wR cy ad σ1) H := by rw [e2]; exact hP
          have hD : va_D A (wR cy ad σ1) := by rw [e2]; exact hD
          have hv := hv σ1 e2
          refine lv_aload_n hx hb dX9_reading_50 rfl (lv_at hl 0 rfl) ?_
          refine va_get (ci := 9) (v := .ref (ad (21))) (C := RX9) (T := TX9) (N := 38) hx hb hts hinX9 hown hK hP 0 (wR_0 cy ad σ1) rfl 30 (by decide) (hts (.fieldLink RX9 71 "TaleBansModel" "readingTale" "[I") (List.mem_of_getElem? (i := 3) rfl)) (fun x h => h) rfl dX9_reading_51 ?_
          refine lv_aload_n hx hb dX9_reading_54 rfl (lv_at hl 0 rfl) ?_
          refine va_get (ci := 9) (v := .int (rdI σ1 9)) (C := RX9) (T := TX9) (N := 38) hx hb hts hinX9 hown hK hP 0 (wR_0 cy ad σ1) rfl 28 (by decide) (hts (.fieldLink RX9 170 "TaleBansModel" "readings" "I") (List.mem_of_getElem? (i := 1) rfl)) (fun x h => h) rfl dX9_reading_55 ?_
          refine lv_iload_n hx hb dX9_reading_58 rfl (lv_at hl 2 rfl) ?_
          obtain ⟨hi, hv⟩ := hv
          refine va_iast hx hb hK hP hD hS 21 0 (wR_21 cy ad σ1) rfl hi dX9_reading_59 (fun H locs hP hD hS => ?_)
          obtain ⟨σ3, e4⟩ : ∃ y : S_, y = wr2 σ1 21 (Int32.toNatClampNeg (rdI σ1 9)) t_ := ⟨_, rfl⟩
          have hP : va_P D vwCl (wR cy ad σ3) H := by rw [e4]; exact hP
          have hD : va_D A (wR cy ad σ3) := by rw [e4]; exact hD
          have hv := hv σ3 e4
          refine lv_aload_n hx hb dX9_reading_60 rfl (lv_at hl 0 rfl) ?_
          refine va_get (ci := 9) (v := .ref (ad (22))) (C := RX9) (T := TX9) (N := 38) hx hb hts hinX9 hown hK hP 0 (wR_0 cy ad σ3) rfl 31 (by decide) (hts (.fieldLink RX9 74 "TaleBansModel" "readingIn" "[I") (List.mem_of_getElem? (i := 4) rfl)) (fun x h => h) rfl dX9_reading_61 ?_
          refine lv_aload_n hx hb dX9_reading_64 rfl (lv_at hl 0 rfl) ?_
          refine va_get (ci := 9) (v := .int (rdI σ3 9)) (C := RX9) (T := TX9) (N := 38) hx hb hts hinX9 hown hK hP 0 (wR_0 cy ad σ3) rfl 28 (by decide) (hts (.fieldLink RX9 170 "TaleBansModel" "readings" "I") (List.mem_of_getElem? (i := 1) rfl)) (fun x h => h) rfl dX9_reading_65 ?_
          refine lv_iload_n hx hb dX9_reading_68 rfl (lv_at hl 3 rfl) ?_
          obtain ⟨hi, hv⟩ := hv
          refine va_iast hx hb hK hP hD hS 22 0 (wR_22 cy ad σ3) rfl hi dX9_reading_69 (fun H locs hP hD hS => ?_)
          obtain ⟨σ5, e6⟩ : ∃ y : S_, y = wr2 σ3 22 (Int32.toNatClampNeg (rdI σ3 9)) season_ := ⟨_, rfl⟩
          have hP : va_P D vwCl (wR cy ad σ5) H := by rw [e6]; exact hP
          have hD : va_D A (wR cy ad σ5) := by rw [e6]; exact hD
          have hv := hv σ5 e6
          refine lv_aload_n hx hb dX9_reading_70 rfl (lv_at hl 0 rfl) ?_
          refine va_get (ci := 9) (v := .ref (ad (23))) (C := RX9) (T := TX9) (N := 38) hx hb hts hinX9 hown hK hP 0 (wR_0 cy ad σ5) rfl 32 (by decide) (hts (.fieldLink RX9 77 "TaleBansModel" "readingDid" "[Z") (List.mem_of_getElem? (i := 5) rfl)) (fun x h => h) rfl dX9_reading_71 ?_
          refine lv_aload_n hx hb dX9_reading_74 rfl (lv_at hl 0 rfl) ?_
          refine va_get (ci := 9) (v := .int (rdI σ5 9)) (C := RX9) (T := TX9) (N := 38) hx hb hts hinX9 hown hK hP 0 (wR_0 cy ad σ5) rfl 28 (by decide) (hts (.fieldLink RX9 170 "TaleBansModel" "readings" "I") (List.mem_of_getElem? (i := 1) rfl)) (fun x h => h) rfl dX9_reading_75 ?_
          refine lv_iload hx hb dX9_reading_78 (lv_at hl 4 rfl) ?_
          obtain ⟨hi, hv⟩ := hv
          refine va_zast hx hb hK hP hD hS 23 1 (wR_23 cy ad σ5) rfl hi dX9_reading_80 (fun H locs hP hD hS => ?_)
          obtain ⟨σ7, e8⟩ : ∃ y : S_, y = wr2 σ5 23 (Int32.toNatClampNeg (rdI σ5 9)) (vp_nar .boolean did_) := ⟨_, rfl⟩
          have hP : va_P D vwCl (wR cy ad σ7) H := by rw [e8]; exact hP
          have hD : va_D A (wR cy ad σ7) := by rw [e8]; exact hD
          have hv := hv σ7 e8
          refine lv_aload_n hx hb dX9_reading_81 rfl (lv_at hl 0 rfl) ?_
          refine lv_dup hx hb dX9_reading_82 rfl ?_
          refine va_get (ci := 9) (v := .int (rdI σ7 9)) (C := RX9) (T := TX9) (N := 38) hx hb hts hinX9 hown hK hP 0 (wR_0 cy ad σ7) rfl 28 (by decide) (hts (.fieldLink RX9 170 "TaleBansModel" "readings" "I") (List.mem_of_getElem? (i := 1) rfl)) (fun x h => h) rfl dX9_reading_83 ?_
          refine lv_iconst (v := 1) hx hb dX9_reading_86 (by decide) ?_
          refine lv_iadd hx hb dX9_reading_87 ?_
          refine va_put (ci := 9) (v := .int ((rdI σ7 9) + 1)) (ty := .int) (C := RX9) (T := TX9) (N := 38) hx hb hts hinX9 tyX9 tyX9_ok nmX9 hown hK hP hD hS 0 (wR_0 cy ad σ7) rfl 28 (by decide) (hts (.fieldLink RX9 170 "TaleBansModel" "readings" "I") (List.mem_of_getElem? (i := 1) rfl)) (fun x h => h) rfl (by decide +kernel) rfl rfl (Nat.le_of_ble_eq_true rfl) dX9_reading_88 (fun H locs hP hD hS => ?_)
          obtain ⟨σ9, e10⟩ : ∃ y : S_, y = wrI σ7 9 ((rdI σ7 9) + 1) := ⟨_, rfl⟩
          have hP : va_P D vwCl (wR cy ad σ9) H := by rw [e10]; exact hP
          have hD : va_D A (wR cy ad σ9) := by rw [e10]; exact hD
          have hv := hv σ9 e10
          refine lv_aload_n hx hb dX9_reading_91 rfl (lv_at hl 0 rfl) ?_
          refine va_get (ci := 9) (v := .int (rdI σ9 9)) (C := RX9) (T := TX9) (N := 38) hx hb hts hinX9 hown hK hP 0 (wR_0 cy ad σ9) rfl 28 (by decide) (hts (.fieldLink RX9 170 "TaleBansModel" "readings" "I") (List.mem_of_getElem? (i := 1) rfl)) (fun x h => h) rfl dX9_reading_92 ?_
          refine lv_iconst (v := 1) hx hb dX9_reading_95 (by decide) ?_
          refine lv_isub hx hb dX9_reading_96 ?_
          rw [hZ]; rw [hQ] at hv
          exact W.iret (v := ((rdI σ9 9) - 1)) hx hb hr (fun t ht hW => ⟨⟨((rdI σ9 9) - 1), σ9, rfl, hv, ⟨P_of ht hP, hD⟩⟩, hS.F ht⟩) hS.2.2 dX9_reading_97
        · have hv := hv.2 c11
          refine lv_bipush (v := (-4)) hx hb dX9_reading_37 (by decide) ?_
          rw [hZ]; rw [hQ] at hv
          exact W.iret (v := (-4)) hx hb hr (fun t ht hW => ⟨⟨(-4), σ0, rfl, hv, ⟨P_of ht hP, hD⟩⟩, hS.F ht⟩) hS.2.2 dX9_reading_39
      · have hv := hv.2 c12
        refine lv_bipush (v := (-2)) hx hb dX9_reading_25 (by decide) ?_
        rw [hZ]; rw [hQ] at hv
        exact W.iret (v := (-2)) hx hb hr (fun t ht hW => ⟨⟨(-2), σ0, rfl, hv, ⟨P_of ht hP, hD⟩⟩, hS.F ht⟩) hS.2.2 dX9_reading_27
    · have hv := hv.2 c13
      refine lv_iconst (v := (-1)) hx hb dX9_reading_16 (by decide) ?_
      rw [hZ]; rw [hQ] at hv
      exact W.iret (v := (-1)) hx hb hr (fun t ht hW => ⟨⟨(-1), σ0, rfl, hv, ⟨P_of ht hP, hD⟩⟩, hS.F ht⟩) hS.2.2 dX9_reading_17
set_option maxHeartbeats 4000000 in
set_option maxRecDepth 100000 in
theorem wk_X9_back (l : Launch) (h_X9_in : Ct_X9_in l) (sp : Sp_X9_back) : Ct_X9_back l := by
  intro D cy ad A k_ ag σ0  hpre
  refine Met.ofW (cc := cX9_back) (maxL := 2) (ret := (some .int)) (by decide) rfl ?_
  intro p e s m args below meth c s₁ B hml hv0
  obtain ⟨rfl, hP, hK, hD, hN⟩ := hv0
  have hx := B.exec
  have hb := B.bytes
  have hr := B.returns
  have hts := atoms_spec (ws := wsX9_back) B.pre
  have hown : s.vm.findClass RX9 = some m.cls := findClass_of_methodNamed B.named
  have hlocks := B.notSynchronized
  have hv := sp k_ ag σ0 hpre
  have hl := lv_entry ([.ref (ad 0), .int k_]) (n := 2) (Nat.le_of_ble_eq_true rfl)
  rw [lg_entry_eq]
  generalize (lg_sl ([.ref (ad 0), .int k_]) ++ List.replicate (2 - (lg_sl ([.ref (ad 0), .int k_])).length) Slot.unset).toArray = ls at hl ⊢
  have hl : lv_has ls 2 [(0, .ref (ad 0)), (1, .int k_)] := hl
  refine W_gen (fun R Z H locs hR hZ hH hlo => ?_)
  have hRf : R.frames = 1 := by rw [hR]; rfl
  have hRl : R.locals = 25 := by rw [hR]; rfl
  have hRc : R.cells = 0 := by rw [hR]; rfl
  have hRs : R.slots = 0 := by rw [hR]; rfl
  have hS : va_S A s.heap H locs := by rw [hH, hlo]; exact va_S.rf
  rw [← hH] at hP
  obtain ⟨Q, hQ⟩ : ∃ q : Int32 → S_ → Prop, q = (post_X9_back k_ ag σ0) := ⟨_, rfl⟩
  rw [← hQ] at hv
  have hinX9 : ∀ w ∈ wsX90, w ∈ wsX9_back := by decide +kernel
  refine lv_iload_n hx hb dX9_back_0 rfl (lv_at hl 1 rfl) ?_
  refine lv_i2l hx hb dX9_back_1 rfl ?_
  refine lv_lconst (v := 0) hx hb dX9_back_2 rfl ?_
  refine lv_aload_n hx hb dX9_back_3 rfl (lv_at hl 0 rfl) ?_
  refine va_get (ci := 9) (v := .int (rdI σ0 9)) (C := RX9) (T := TX9) (N := 38) hx hb hts hinX9 hown hK hP 0 (wR_0 cy ad σ0) rfl 28 (by decide) (hts (.fieldLink RX9 170 "TaleBansModel" "readings" "I") (List.mem_of_getElem? (i := 1) rfl)) (fun x h => h) rfl dX9_back_4 ?_
  refine lv_i2l hx hb dX9_back_7 rfl ?_
  refine k_pure_i (va_runS (As := [.long (Int32.toInt64 k_), .long 0, .long (Int32.toInt64 (rdI σ0 9))]) (rest := []) ⟨hx, hb, hml, hown, hts⟩ (h_X9_in (Int32.toInt64 k_) 0 (Int32.toInt64 (rdI σ0 9))) (va_cwS 3 hts gX9_back_X9_in rfl rfl rfl (by decide +kernel) ⟨le_R hRf (Nat.le_of_ble_eq_true rfl), le_R hRl (Nat.le_of_ble_eq_true rfl)⟩) ⟨(fun a U g mk q => ⟨q.1, trivial⟩), (fun U hU hW => ⟨rfl, trivial⟩)⟩ rfl rfl hl.1 rfl (lv_room (Nat.le_of_ble_eq_true rfl)) dX9_back_8 ⟨le_R hRc (Nat.le_refl 0), le_R hRs (Nat.le_refl 0)⟩) hS hP (fun r H locs hr1 hP hS => ?_)
  subst hr1
  refine lv_if_ne (tgt := 17) hx hb dX9_back_11 (by decide) (fun c3 => ?_) (fun c3 => ?_)
  · have hv := hv.1 c3
    refine lv_aload_n hx hb dX9_back_17 rfl (lv_at hl 0 rfl) ?_
    refine lv_dup hx hb dX9_back_18 rfl ?_
    refine va_get (ci := 9) (v := .int (rdI σ0 9)) (C := RX9) (T := TX9) (N := 38) hx hb hts hinX9 hown hK hP 0 (wR_0 cy ad σ0) rfl 28 (by decide) (hts (.fieldLink RX9 170 "TaleBansModel" "readings" "I") (List.mem_of_getElem? (i := 1) rfl)) (fun x h => h) rfl dX9_back_19 ?_
    refine lv_iload_n hx hb dX9_back_22 rfl (lv_at hl 1 rfl) ?_
    refine lv_isub hx hb dX9_back_23 ?_
    refine va_put (ci := 9) (v := .int ((rdI σ0 9) - k_)) (ty := .int) (C := RX9) (T := TX9) (N := 38) hx hb hts hinX9 tyX9 tyX9_ok nmX9 hown hK hP hD hS 0 (wR_0 cy ad σ0) rfl 28 (by decide) (hts (.fieldLink RX9 170 "TaleBansModel" "readings" "I") (List.mem_of_getElem? (i := 1) rfl)) (fun x h => h) rfl (by decide +kernel) rfl rfl (Nat.le_of_ble_eq_true rfl) dX9_back_24 (fun H locs hP hD hS => ?_)
    obtain ⟨σ1, e2⟩ : ∃ y : S_, y = wrI σ0 9 ((rdI σ0 9) - k_) := ⟨_, rfl⟩
    have hP : va_P D vwCl (wR cy ad σ1) H := by rw [e2]; exact hP
    have hD : va_D A (wR cy ad σ1) := by rw [e2]; exact hD
    have hv := hv σ1 e2
    refine lv_aload_n hx hb dX9_back_27 rfl (lv_at hl 0 rfl) ?_
    refine va_get (ci := 9) (v := .int (rdI σ1 9)) (C := RX9) (T := TX9) (N := 38) hx hb hts hinX9 hown hK hP 0 (wR_0 cy ad σ1) rfl 28 (by decide) (hts (.fieldLink RX9 170 "TaleBansModel" "readings" "I") (List.mem_of_getElem? (i := 1) rfl)) (fun x h => h) rfl dX9_back_28 ?_
    rw [hZ]; rw [hQ] at hv
    exact W.iret (v := (rdI σ1 9)) hx hb hr (fun t ht hW => ⟨⟨(rdI σ1 9), σ1, rfl, hv, ⟨P_of ht hP, hD⟩⟩, hS.F ht⟩) hS.2.2 dX9_back_31
  · have hv := hv.2 c3
    refine lv_bipush (v := (-2)) hx hb dX9_back_14 (by decide) ?_
    rw [hZ]; rw [hQ] at hv
    exact W.iret (v := (-2)) hx hb hr (fun t ht hW => ⟨⟨(-2), σ0, rfl, hv, ⟨P_of ht hP, hD⟩⟩, hS.F ht⟩) hS.2.2 dX9_back_16
set_option maxHeartbeats 4000000 in
set_option maxRecDepth 100000 in
theorem wk_X9_comes (l : Launch) (h_X9_areSo : Ct_X9_areSo l) (h_X9_noTale : Ct_X9_noTale l) (sp : Sp_X9_comes) : Ct_X9_comes l := by
  intro D cy ad A t_ ag σ0  hpre
  refine Met.ofW (cc := cX9_comes) (maxL := 5) (ret := (some .int)) (by decide) rfl ?_
  intro p e s m args below meth c s₁ B hml hv0
  obtain ⟨rfl, hP, hK, hD, hN⟩ := hv0
  have hx := B.exec
  have hb := B.bytes
  have hr := B.returns
  have hts := atoms_spec (ws := wsX9_comes) B.pre
  have hown : s.vm.findClass RX9 = some m.cls := findClass_of_methodNamed B.named
  have hlocks := B.notSynchronized
  have hv := sp t_ ag σ0 hpre
  have hl := lv_entry ([.ref (ad 0), .int t_]) (n := 5) (Nat.le_of_ble_eq_true rfl)
  rw [lg_entry_eq]
  generalize (lg_sl ([.ref (ad 0), .int t_]) ++ List.replicate (5 - (lg_sl ([.ref (ad 0), .int t_])).length) Slot.unset).toArray = ls at hl ⊢
  have hl : lv_has ls 5 [(0, .ref (ad 0)), (1, .int t_)] := hl
  refine W_gen (fun R Z H locs hR hZ hH hlo => ?_)
  have hRf : R.frames = 6 := by rw [hR]; rfl
  have hRl : R.locals = 140 := by rw [hR]; rfl
  have hRc : R.cells = 0 := by rw [hR]; rfl
  have hRs : R.slots = 0 := by rw [hR]; rfl
  have hS : va_S A s.heap H locs := by rw [hH, hlo]; exact va_S.rf
  rw [← hH] at hP
  obtain ⟨Q, hQ⟩ : ∃ q : Int32 → S_ → Prop, q = (post_X9_comes t_ ag σ0) := ⟨_, rfl⟩
  rw [← hQ] at hv
  have hinX9 : ∀ w ∈ wsX90, w ∈ wsX9_comes := by decide +kernel
  refine lv_aload_n hx hb dX9_comes_0 rfl (lv_at hl 0 rfl) ?_
  refine lv_iload_n hx hb dX9_comes_1 rfl (lv_at hl 1 rfl) ?_
  have hp := True.intro
  refine k_read_i (w := wR cy ad) (va_runV (As := [.int t_]) (rest := []) ⟨hx, hb, hml, hown, hts⟩ (h_X9_noTale D cy ad A t_ σ0 hp) (cwV 1 hts gX9_comes_X9_noTale rfl rfl rfl (by decide +kernel) ⟨le_R hRf (Nat.le_of_ble_eq_true rfl), le_R hRl (Nat.le_of_ble_eq_true rfl)⟩) ⟨(fun a U g mk q => ⟨q.1, q.2.blind⟩), va_recv hK hP (ci := 9) (q0 := 0) rfl (wR_0 cy ad σ0), (fun U hU hW => ⟨rfl, WdR.pre hP hK hD hN hU hW⟩)⟩ rfl rfl hl.1 rfl (lv_room (Nat.le_of_ble_eq_true rfl)) dX9_comes_2 ⟨le_R hRc (Nat.le_refl 0), le_R hRs (Nat.le_refl 0)⟩) hS (fun r H locs hr1 hP hS => ?_)
  subst hr1
  refine lv_if_eq (tgt := 10) hx hb dX9_comes_5 (by decide) (fun c16 => ?_) (fun c16 => ?_)
  · have hv := hv.1 c16
    refine lv_aload_n hx hb dX9_comes_10 rfl (lv_at hl 0 rfl) ?_
    refine va_get (ci := 9) (v := .ref (ad (8))) (C := RX9) (T := TX9) (N := 38) hx hb hts hinX9 hown hK hP 0 (wR_0 cy ad σ0) rfl 14 (by decide) (hts (.fieldLink RX9 31 "TaleBansModel" "taleTo" "[I") (List.mem_of_getElem? (i := 1) rfl)) (fun x h => h) rfl dX9_comes_11 ?_
    refine lv_iload_n hx hb dX9_comes_14 rfl (lv_at hl 1 rfl) ?_
    obtain ⟨hi, hv⟩ := hv
    refine va_iald hx hb hK hP 8 0 (wR_8 cy ad σ0) rfl hi dX9_comes_15 ?_
    refine lv_istore_n (lv' := [(2, .int (rdA σ0 8 (Int32.toNatClampNeg t_))), (0, .ref (ad 0)), (1, .int t_)]) hx hb dX9_comes_16 rfl hl (by decide) rfl (fun ls hl => ?_)
    refine lv_iconst (v := 0) hx hb dX9_comes_17 (by decide) ?_
    refine lv_istore_n (lv' := [(3, .int 0), (2, .int (rdA σ0 8 (Int32.toNatClampNeg t_))), (0, .ref (ad 0)), (1, .int t_)]) hx hb dX9_comes_18 rfl hl (by decide) rfl (fun ls hl => ?_)
    refine lv_iconst (v := 0) hx hb dX9_comes_19 (by decide) ?_
    refine lv_istore (lv' := [(4, .int 0), (3, .int 0), (2, .int (rdA σ0 8 (Int32.toNatClampNeg t_))), (0, .ref (ad 0)), (1, .int t_)]) hx hb dX9_comes_20 hl (by decide) rfl (fun ls hl => ?_)
    obtain ⟨n22, hv⟩ := hv
    have lp22 : ∀ (nn22 : Nat) (x1 : Int32) (x2 : Int32) (σ3 : S_) (H : Heap) (locs : List Loc) (ls : Array Slot), vl_X9_comes_22 t_ σ0 Q nn22 x1 x2 σ3 → va_P D vwCl (wR cy ad σ3) H → va_D A (wR cy ad σ3) → va_S A s.heap H locs → lv_has ls 5 [(0, .ref (ad 0)), (1, .int t_), (2, .int (rdA σ0 8 (Int32.toNatClampNeg t_))), (3, .int x1), (4, .int x2)] → W p l e R s m ([.ref (ad 0), .int t_] : List Value).toArray  below meth c H locs 0 0 Z (F0 m 22 ls []) := by
      intro nn22
      induction nn22 with
      | zero => intro x1 x2 σ3 H locs ls hv; exact absurd hv id
      | succ mm22 ih22 =>
        intro x1 x2 σ3 H locs ls hv hP hD hS hl
        refine lv_iload hx hb dX9_comes_22 (lv_at hl 4 rfl) ?_
        refine lv_aload_n hx hb dX9_comes_24 rfl (lv_at hl 0 rfl) ?_
        refine va_get (ci := 9) (v := .int (rdI σ3 1)) (C := RX9) (T := TX9) (N := 38) hx hb hts hinX9 hown hK hP 0 (wR_0 cy ad σ3) rfl 1 (by decide) (hts (.fieldLink RX9 102 "TaleBansModel" "persons" "I") (List.mem_of_getElem? (i := 2) rfl)) (fun x h => h) rfl dX9_comes_25 ?_
        refine lv_icmp_ge (tgt := 63) hx hb dX9_comes_28 (by decide) (fun c15 => ?_) (fun c15 => ?_)
        · have hv := hv.1 c15
          refine lv_aload_n hx hb dX9_comes_63 rfl (lv_at hl 0 rfl) ?_
          refine va_get (ci := 9) (v := .ref (ad (8))) (C := RX9) (T := TX9) (N := 38) hx hb hts hinX9 hown hK hP 0 (wR_0 cy ad σ3) rfl 14 (by decide) (hts (.fieldLink RX9 31 "TaleBansModel" "taleTo" "[I") (List.mem_of_getElem? (i := 1) rfl)) (fun x h => h) rfl dX9_comes_64 ?_
          refine lv_iload_n hx hb dX9_comes_67 rfl (lv_at hl 1 rfl) ?_
          refine lv_iload_n hx hb dX9_comes_68 rfl (lv_at hl 2 rfl) ?_
          obtain ⟨hi, hv⟩ := hv
          refine va_iast hx hb hK hP hD hS 8 0 (wR_8 cy ad σ3) rfl hi dX9_comes_69 (fun H locs hP hD hS => ?_)
          obtain ⟨σ4, e5⟩ : ∃ y : S_, y = wr2 σ3 8 (Int32.toNatClampNeg t_) (rdA σ0 8 (Int32.toNatClampNeg t_)) := ⟨_, rfl⟩
          have hP : va_P D vwCl (wR cy ad σ4) H := by rw [e5]; exact hP
          have hD : va_D A (wR cy ad σ4) := by rw [e5]; exact hD
          have hv := hv σ4 e5
          refine lv_iload_n hx hb dX9_comes_70 rfl (lv_at hl 3 rfl) ?_
          rw [hZ]; rw [hQ] at hv
          exact W.iret (v := x1) hx hb hr (fun t ht hW => ⟨⟨x1, σ4, rfl, hv, ⟨P_of ht hP, hD⟩⟩, hS.F ht⟩) hS.2.2 dX9_comes_71
        · have hv := hv.2 c15
          refine lv_aload_n hx hb dX9_comes_31 rfl (lv_at hl 0 rfl) ?_
          refine va_get (ci := 9) (v := .ref (ad (8))) (C := RX9) (T := TX9) (N := 38) hx hb hts hinX9 hown hK hP 0 (wR_0 cy ad σ3) rfl 14 (by decide) (hts (.fieldLink RX9 31 "TaleBansModel" "taleTo" "[I") (List.mem_of_getElem? (i := 1) rfl)) (fun x h => h) rfl dX9_comes_32 ?_
          refine lv_iload_n hx hb dX9_comes_35 rfl (lv_at hl 1 rfl) ?_
          refine lv_iload hx hb dX9_comes_36 (lv_at hl 4 rfl) ?_
          obtain ⟨hi, hv⟩ := hv
          refine va_iast hx hb hK hP hD hS 8 0 (wR_8 cy ad σ3) rfl hi dX9_comes_38 (fun H locs hP hD hS => ?_)
          obtain ⟨σ6, e7⟩ : ∃ y : S_, y = wr2 σ3 8 (Int32.toNatClampNeg t_) x2 := ⟨_, rfl⟩
          have hP : va_P D vwCl (wR cy ad σ6) H := by rw [e7]; exact hP
          have hD : va_D A (wR cy ad σ6) := by rw [e7]; exact hD
          have hv := hv σ6 e7
          refine lv_iload_n hx hb dX9_comes_39 rfl (lv_at hl 3 rfl) ?_
          refine lv_aload_n hx hb dX9_comes_40 rfl (lv_at hl 0 rfl) ?_
          obtain ⟨g8, hv⟩ := hv
          obtain ⟨hp, hv⟩ := hv
          refine k_rel_i (w := wR cy ad) (va_runV (As := []) (rest := [.int x1]) ⟨hx, hb, hml, hown, hts⟩ (h_X9_areSo D cy ad A g8 σ6 hp) (cwV 0 hts gX9_comes_X9_areSo rfl rfl rfl (by decide +kernel) ⟨le_R hRf (Nat.le_of_ble_eq_true rfl), le_R hRl (Nat.le_of_ble_eq_true rfl)⟩) ⟨(fun a U g mk q => ⟨q.1, q.2.blind⟩), va_recv hK hP (ci := 9) (q0 := 0) rfl (wR_0 cy ad σ6), (fun U hU hW => ⟨rfl, WdR.pre hP hK hD hN hU hW⟩)⟩ rfl rfl hl.1 rfl (lv_room (Nat.le_of_ble_eq_true rfl)) dX9_comes_41 ⟨le_R hRc (Nat.le_refl 0), le_R hRs (Nat.le_refl 0)⟩) hS (fun r10 σ9 H locs hr1 hP hD hS => ?_)
          have hv := hv r10 σ9 hr1
          obtain ⟨P11, hv, hvr⟩ := hv
          have jn12 : ∀ (b13 : Int32) (H : Heap) (locs : List Loc) (ls : Array Slot), P11 b13 → va_P D vwCl (wR cy ad σ9) H → va_S A s.heap H locs → lv_has ls 5 [(0, .ref (ad 0)), (1, .int t_), (2, .int (rdA σ0 8 (Int32.toNatClampNeg t_))), (3, .int x1), (4, .int x2)] → W p l e R s m ([.ref (ad 0), .int t_] : List Value).toArray below meth c H locs 0 0 Z (F0 m 55 ls [.int b13, .int x1]) := by
            intro b13 H locs ls hv hP hS hl
            have hv := hvr b13 hv
            refine lv_ior hx hb dX9_comes_55 ?_
            refine lv_istore_n (lv' := [(3, .int (x1 ||| b13)), (0, .ref (ad 0)), (1, .int t_), (2, .int (rdA σ0 8 (Int32.toNatClampNeg t_))), (4, .int x2)]) hx hb dX9_comes_56 rfl hl (by decide) rfl (fun ls hl => ?_)
            refine lv_iinc (v := (x2 + 1)) (lv' := [(4, .int (x2 + 1)), (3, .int (x1 ||| b13)), (0, .ref (ad 0)), (1, .int t_), (2, .int (rdA σ0 8 (Int32.toNatClampNeg t_)))]) hx hb dX9_comes_57 hl (k := 4) rfl rfl (by decide) rfl (fun ls hl => ?_)
            refine lv_goto (tgt := 22) hx hb dX9_comes_60 (by decide) ?_
            exact ih22 (x1 ||| b13) (x2 + 1) σ9 _ _ _ hv hP hD hS (lv_sub hl [2, 3, 4, 1, 0] rfl)
          refine lv_if_eq (tgt := 54) hx hb dX9_comes_44 (by decide) (fun c14 => ?_) (fun c14 => ?_)
          · have hv := hv.1 c14
            refine lv_iconst (v := 0) hx hb dX9_comes_54 (by decide) ?_
            exact jn12 0 _ _ _ hv hP hS hl
          · have hv := hv.2 c14
            refine lv_iconst (v := 1) hx hb dX9_comes_47 (by decide) ?_
            refine lv_iload hx hb dX9_comes_48 (lv_at hl 4 rfl) ?_
            refine lv_ishl hx hb dX9_comes_50 ?_
            refine lv_goto (tgt := 55) hx hb dX9_comes_51 (by decide) ?_
            exact jn12 (1 <<< (x2 &&& 31)) _ _ _ hv hP hS hl
    exact lp22 n22 0 0 σ0 _ _ _ hv hP hD hS (lv_sub hl [3, 4, 2, 1, 0] rfl)
  · have hv := hv.2 c16
    refine lv_iconst (v := (-1)) hx hb dX9_comes_8 (by decide) ?_
    rw [hZ]; rw [hQ] at hv
    exact W.iret (v := (-1)) hx hb hr (fun t ht hW => ⟨⟨(-1), σ0, rfl, hv, ⟨P_of ht hP, hD⟩⟩, hS.F ht⟩) hS.2.2 dX9_comes_9
set_option maxHeartbeats 4000000 in
set_option maxRecDepth 100000 in
theorem wk_X9_paid (l : Launch) (h_X9_areSo : Ct_X9_areSo l) (sp : Sp_X9_paid) : Ct_X9_paid l := by
  intro D cy ad A  ag σ0  hpre
  refine Met.ofW (cc := cX9_paid) (maxL := 4) (ret := (some .int)) (by decide) rfl ?_
  intro p e s m args below meth c s₁ B hml hv0
  obtain ⟨rfl, hP, hK, hD, hN⟩ := hv0
  have hx := B.exec
  have hb := B.bytes
  have hr := B.returns
  have hts := atoms_spec (ws := wsX9_paid) B.pre
  have hown : s.vm.findClass RX9 = some m.cls := findClass_of_methodNamed B.named
  have hlocks := B.notSynchronized
  have hv := sp  ag σ0 hpre
  have hl := lv_entry ([.ref (ad 0)]) (n := 4) (Nat.le_of_ble_eq_true rfl)
  rw [lg_entry_eq]
  generalize (lg_sl ([.ref (ad 0)]) ++ List.replicate (4 - (lg_sl ([.ref (ad 0)])).length) Slot.unset).toArray = ls at hl ⊢
  have hl : lv_has ls 4 [(0, .ref (ad 0))] := hl
  refine W_gen (fun R Z H locs hR hZ hH hlo => ?_)
  have hRf : R.frames = 6 := by rw [hR]; rfl
  have hRl : R.locals = 140 := by rw [hR]; rfl
  have hRc : R.cells = 0 := by rw [hR]; rfl
  have hRs : R.slots = 0 := by rw [hR]; rfl
  have hS : va_S A s.heap H locs := by rw [hH, hlo]; exact va_S.rf
  rw [← hH] at hP
  obtain ⟨Q, hQ⟩ : ∃ q : Int32 → S_ → Prop, q = (post_X9_paid  ag σ0) := ⟨_, rfl⟩
  rw [← hQ] at hv
  have hinX9 : ∀ w ∈ wsX90, w ∈ wsX9_paid := by decide +kernel
  refine lv_aload_n hx hb dX9_paid_0 rfl (lv_at hl 0 rfl) ?_
  refine va_get (ci := 9) (v := .int (rdI σ0 1)) (C := RX9) (T := TX9) (N := 38) hx hb hts hinX9 hown hK hP 0 (wR_0 cy ad σ0) rfl 1 (by decide) (hts (.fieldLink RX9 102 "TaleBansModel" "persons" "I") (List.mem_of_getElem? (i := 1) rfl)) (fun x h => h) rfl dX9_paid_1 ?_
  refine lv_if_ne (tgt := 10) hx hb dX9_paid_4 (by decide) (fun c16 => ?_) (fun c16 => ?_)
  · have hv := hv.1 c16
    refine lv_aload_n hx hb dX9_paid_10 rfl (lv_at hl 0 rfl) ?_
    refine va_get (ci := 9) (v := .int (rdI σ0 2)) (C := RX9) (T := TX9) (N := 38) hx hb hts hinX9 hown hK hP 0 (wR_0 cy ad σ0) rfl 5 (by decide) (hts (.fieldLink RX9 158 "TaleBansModel" "paidNow" "I") (List.mem_of_getElem? (i := 2) rfl)) (fun x h => h) rfl dX9_paid_11 ?_
    refine lv_istore_n (lv' := [(1, .int (rdI σ0 2)), (0, .ref (ad 0))]) hx hb dX9_paid_14 rfl hl (by decide) rfl (fun ls hl => ?_)
    refine lv_iconst (v := 0) hx hb dX9_paid_15 (by decide) ?_
    refine lv_istore_n (lv' := [(2, .int 0), (1, .int (rdI σ0 2)), (0, .ref (ad 0))]) hx hb dX9_paid_16 rfl hl (by decide) rfl (fun ls hl => ?_)
    refine lv_iconst (v := 0) hx hb dX9_paid_17 (by decide) ?_
    refine lv_istore_n (lv' := [(3, .int 0), (2, .int 0), (1, .int (rdI σ0 2)), (0, .ref (ad 0))]) hx hb dX9_paid_18 rfl hl (by decide) rfl (fun ls hl => ?_)
    obtain ⟨n19, hv⟩ := hv
    have lp19 : ∀ (nn19 : Nat) (x1 : Int32) (x2 : Int32) (σ3 : S_) (H : Heap) (locs : List Loc) (ls : Array Slot), vl_X9_paid_19 σ0 Q nn19 x1 x2 σ3 → va_P D vwCl (wR cy ad σ3) H → va_D A (wR cy ad σ3) → va_S A s.heap H locs → lv_has ls 4 [(0, .ref (ad 0)), (1, .int (rdI σ0 2)), (2, .int x1), (3, .int x2)] → W p l e R s m ([.ref (ad 0)] : List Value).toArray  below meth c H locs 0 0 Z (F0 m 19 ls []) := by
      intro nn19
      induction nn19 with
      | zero => intro x1 x2 σ3 H locs ls hv; exact absurd hv id
      | succ mm19 ih19 =>
        intro x1 x2 σ3 H locs ls hv hP hD hS hl
        refine lv_iload_n hx hb dX9_paid_19 rfl (lv_at hl 3 rfl) ?_
        refine lv_aload_n hx hb dX9_paid_20 rfl (lv_at hl 0 rfl) ?_
        refine va_get (ci := 9) (v := .int (rdI σ3 1)) (C := RX9) (T := TX9) (N := 38) hx hb hts hinX9 hown hK hP 0 (wR_0 cy ad σ3) rfl 1 (by decide) (hts (.fieldLink RX9 102 "TaleBansModel" "persons" "I") (List.mem_of_getElem? (i := 1) rfl)) (fun x h => h) rfl dX9_paid_21 ?_
        refine lv_icmp_ge (tgt := 59) hx hb dX9_paid_24 (by decide) (fun c15 => ?_) (fun c15 => ?_)
        · have hv := hv.1 c15
          refine lv_aload_n hx hb dX9_paid_59 rfl (lv_at hl 0 rfl) ?_
          refine lv_iload_n hx hb dX9_paid_60 rfl (lv_at hl 1 rfl) ?_
          refine va_put (ci := 9) (v := .int (rdI σ0 2)) (ty := .int) (C := RX9) (T := TX9) (N := 38) hx hb hts hinX9 tyX9 tyX9_ok nmX9 hown hK hP hD hS 0 (wR_0 cy ad σ3) rfl 5 (by decide) (hts (.fieldLink RX9 158 "TaleBansModel" "paidNow" "I") (List.mem_of_getElem? (i := 2) rfl)) (fun x h => h) rfl (by decide +kernel) rfl rfl (Nat.le_of_ble_eq_true rfl) dX9_paid_61 (fun H locs hP hD hS => ?_)
          obtain ⟨σ4, e5⟩ : ∃ y : S_, y = wrI σ3 2 (rdI σ0 2) := ⟨_, rfl⟩
          have hP : va_P D vwCl (wR cy ad σ4) H := by rw [e5]; exact hP
          have hD : va_D A (wR cy ad σ4) := by rw [e5]; exact hD
          have hv := hv σ4 e5
          refine lv_iload_n hx hb dX9_paid_64 rfl (lv_at hl 2 rfl) ?_
          rw [hZ]; rw [hQ] at hv
          exact W.iret (v := x1) hx hb hr (fun t ht hW => ⟨⟨x1, σ4, rfl, hv, ⟨P_of ht hP, hD⟩⟩, hS.F ht⟩) hS.2.2 dX9_paid_65
        · have hv := hv.2 c15
          refine lv_aload_n hx hb dX9_paid_27 rfl (lv_at hl 0 rfl) ?_
          refine lv_iload_n hx hb dX9_paid_28 rfl (lv_at hl 1 rfl) ?_
          refine lv_iconst (v := 1) hx hb dX9_paid_29 (by decide) ?_
          refine lv_iload_n hx hb dX9_paid_30 rfl (lv_at hl 3 rfl) ?_
          refine lv_ishl hx hb dX9_paid_31 ?_
          refine lv_ior hx hb dX9_paid_32 ?_
          refine va_put (ci := 9) (v := .int ((rdI σ0 2) ||| (1 <<< (x2 &&& 31)))) (ty := .int) (C := RX9) (T := TX9) (N := 38) hx hb hts hinX9 tyX9 tyX9_ok nmX9 hown hK hP hD hS 0 (wR_0 cy ad σ3) rfl 5 (by decide) (hts (.fieldLink RX9 158 "TaleBansModel" "paidNow" "I") (List.mem_of_getElem? (i := 2) rfl)) (fun x h => h) rfl (by decide +kernel) rfl rfl (Nat.le_of_ble_eq_true rfl) dX9_paid_33 (fun H locs hP hD hS => ?_)
          obtain ⟨σ6, e7⟩ : ∃ y : S_, y = wrI σ3 2 ((rdI σ0 2) ||| (1 <<< (x2 &&& 31))) := ⟨_, rfl⟩
          have hP : va_P D vwCl (wR cy ad σ6) H := by rw [e7]; exact hP
          have hD : va_D A (wR cy ad σ6) := by rw [e7]; exact hD
          have hv := hv σ6 e7
          refine lv_iload_n hx hb dX9_paid_36 rfl (lv_at hl 2 rfl) ?_
          refine lv_aload_n hx hb dX9_paid_37 rfl (lv_at hl 0 rfl) ?_
          obtain ⟨g8, hv⟩ := hv
          obtain ⟨hp, hv⟩ := hv
          refine k_rel_i (w := wR cy ad) (va_runV (As := []) (rest := [.int x1]) ⟨hx, hb, hml, hown, hts⟩ (h_X9_areSo D cy ad A g8 σ6 hp) (cwV 0 hts gX9_paid_X9_areSo rfl rfl rfl (by decide +kernel) ⟨le_R hRf (Nat.le_of_ble_eq_true rfl), le_R hRl (Nat.le_of_ble_eq_true rfl)⟩) ⟨(fun a U g mk q => ⟨q.1, q.2.blind⟩), va_recv hK hP (ci := 9) (q0 := 0) rfl (wR_0 cy ad σ6), (fun U hU hW => ⟨rfl, WdR.pre hP hK hD hN hU hW⟩)⟩ rfl rfl hl.1 rfl (lv_room (Nat.le_of_ble_eq_true rfl)) dX9_paid_38 ⟨le_R hRc (Nat.le_refl 0), le_R hRs (Nat.le_refl 0)⟩) hS (fun r10 σ9 H locs hr1 hP hD hS => ?_)
          have hv := hv r10 σ9 hr1
          obtain ⟨P11, hv, hvr⟩ := hv
          have jn12 : ∀ (b13 : Int32) (H : Heap) (locs : List Loc) (ls : Array Slot), P11 b13 → va_P D vwCl (wR cy ad σ9) H → va_S A s.heap H locs → lv_has ls 4 [(0, .ref (ad 0)), (1, .int (rdI σ0 2)), (2, .int x1), (3, .int x2)] → W p l e R s m ([.ref (ad 0)] : List Value).toArray below meth c H locs 0 0 Z (F0 m 51 ls [.int b13, .int x1]) := by
            intro b13 H locs ls hv hP hS hl
            have hv := hvr b13 hv
            refine lv_ior hx hb dX9_paid_51 ?_
            refine lv_istore_n (lv' := [(2, .int (x1 ||| b13)), (0, .ref (ad 0)), (1, .int (rdI σ0 2)), (3, .int x2)]) hx hb dX9_paid_52 rfl hl (by decide) rfl (fun ls hl => ?_)
            refine lv_iinc (v := (x2 + 1)) (lv' := [(3, .int (x2 + 1)), (2, .int (x1 ||| b13)), (0, .ref (ad 0)), (1, .int (rdI σ0 2))]) hx hb dX9_paid_53 hl (k := 3) rfl rfl (by decide) rfl (fun ls hl => ?_)
            refine lv_goto (tgt := 19) hx hb dX9_paid_56 (by decide) ?_
            exact ih19 (x1 ||| b13) (x2 + 1) σ9 _ _ _ hv hP hD hS (lv_sub hl [2, 3, 1, 0] rfl)
          refine lv_if_eq (tgt := 50) hx hb dX9_paid_41 (by decide) (fun c14 => ?_) (fun c14 => ?_)
          · have hv := hv.1 c14
            refine lv_iconst (v := 0) hx hb dX9_paid_50 (by decide) ?_
            exact jn12 0 _ _ _ hv hP hS hl
          · have hv := hv.2 c14
            refine lv_iconst (v := 1) hx hb dX9_paid_44 (by decide) ?_
            refine lv_iload_n hx hb dX9_paid_45 rfl (lv_at hl 3 rfl) ?_
            refine lv_ishl hx hb dX9_paid_46 ?_
            refine lv_goto (tgt := 51) hx hb dX9_paid_47 (by decide) ?_
            exact jn12 (1 <<< (x2 &&& 31)) _ _ _ hv hP hS hl
    exact lp19 n19 0 0 σ0 _ _ _ hv hP hD hS (lv_sub hl [3, 2, 1, 0] rfl)
  · have hv := hv.2 c16
    refine lv_bipush (v := (-3)) hx hb dX9_paid_7 (by decide) ?_
    rw [hZ]; rw [hQ] at hv
    exact W.iret (v := (-3)) hx hb hr (fun t ht hW => ⟨⟨(-3), σ0, rfl, hv, ⟨P_of ht hP, hD⟩⟩, hS.F ht⟩) hS.2.2 dX9_paid_9
set_option maxHeartbeats 4000000 in
set_option maxRecDepth 100000 in
theorem wk_X9_laws (l : Launch) (h_X9_areSo : Ct_X9_areSo l) (sp : Sp_X9_laws) : Ct_X9_laws l := by
  intro D cy ad A  ag σ0  hpre
  refine Met.ofW (cc := cX9_laws) (maxL := 4) (ret := (some .int)) (by decide) rfl ?_
  intro p e s m args below meth c s₁ B hml hv0
  obtain ⟨rfl, hP, hK, hD, hN⟩ := hv0
  have hx := B.exec
  have hb := B.bytes
  have hr := B.returns
  have hts := atoms_spec (ws := wsX9_laws) B.pre
  have hown : s.vm.findClass RX9 = some m.cls := findClass_of_methodNamed B.named
  have hlocks := B.notSynchronized
  have hv := sp  ag σ0 hpre
  have hl := lv_entry ([.ref (ad 0)]) (n := 4) (Nat.le_of_ble_eq_true rfl)
  rw [lg_entry_eq]
  generalize (lg_sl ([.ref (ad 0)]) ++ List.replicate (4 - (lg_sl ([.ref (ad 0)])).length) Slot.unset).toArray = ls at hl ⊢
  have hl : lv_has ls 4 [(0, .ref (ad 0))] := hl
  refine W_gen (fun R Z H locs hR hZ hH hlo => ?_)
  have hRf : R.frames = 6 := by rw [hR]; rfl
  have hRl : R.locals = 140 := by rw [hR]; rfl
  have hRc : R.cells = 0 := by rw [hR]; rfl
  have hRs : R.slots = 0 := by rw [hR]; rfl
  have hS : va_S A s.heap H locs := by rw [hH, hlo]; exact va_S.rf
  rw [← hH] at hP
  obtain ⟨Q, hQ⟩ : ∃ q : Int32 → S_ → Prop, q = (post_X9_laws  ag σ0) := ⟨_, rfl⟩
  rw [← hQ] at hv
  have hinX9 : ∀ w ∈ wsX90, w ∈ wsX9_laws := by decide +kernel
  refine lv_aload_n hx hb dX9_laws_0 rfl (lv_at hl 0 rfl) ?_
  refine va_get (ci := 9) (v := .int (rdI σ0 1)) (C := RX9) (T := TX9) (N := 38) hx hb hts hinX9 hown hK hP 0 (wR_0 cy ad σ0) rfl 1 (by decide) (hts (.fieldLink RX9 102 "TaleBansModel" "persons" "I") (List.mem_of_getElem? (i := 1) rfl)) (fun x h => h) rfl dX9_laws_1 ?_
  refine lv_if_ne (tgt := 10) hx hb dX9_laws_4 (by decide) (fun c16 => ?_) (fun c16 => ?_)
  · have hv := hv.1 c16
    refine lv_aload_n hx hb dX9_laws_10 rfl (lv_at hl 0 rfl) ?_
    refine va_get (ci := 9) (v := .int (rdI σ0 3)) (C := RX9) (T := TX9) (N := 38) hx hb hts hinX9 hown hK hP 0 (wR_0 cy ad σ0) rfl 6 (by decide) (hts (.fieldLink RX9 161 "TaleBansModel" "lawNow" "I") (List.mem_of_getElem? (i := 2) rfl)) (fun x h => h) rfl dX9_laws_11 ?_
    refine lv_istore_n (lv' := [(1, .int (rdI σ0 3)), (0, .ref (ad 0))]) hx hb dX9_laws_14 rfl hl (by decide) rfl (fun ls hl => ?_)
    refine lv_iconst (v := 0) hx hb dX9_laws_15 (by decide) ?_
    refine lv_istore_n (lv' := [(2, .int 0), (1, .int (rdI σ0 3)), (0, .ref (ad 0))]) hx hb dX9_laws_16 rfl hl (by decide) rfl (fun ls hl => ?_)
    refine lv_iconst (v := 0) hx hb dX9_laws_17 (by decide) ?_
    refine lv_istore_n (lv' := [(3, .int 0), (2, .int 0), (1, .int (rdI σ0 3)), (0, .ref (ad 0))]) hx hb dX9_laws_18 rfl hl (by decide) rfl (fun ls hl => ?_)
    obtain ⟨n19, hv⟩ := hv
    have lp19 : ∀ (nn19 : Nat) (x1 : Int32) (x2 : Int32) (σ3 : S_) (H : Heap) (locs : List Loc) (ls : Array Slot), vl_X9_laws_19 σ0 Q nn19 x1 x2 σ3 → va_P D vwCl (wR cy ad σ3) H → va_D A (wR cy ad σ3) → va_S A s.heap H locs → lv_has ls 4 [(0, .ref (ad 0)), (1, .int (rdI σ0 3)), (2, .int x1), (3, .int x2)] → W p l e R s m ([.ref (ad 0)] : List Value).toArray  below meth c H locs 0 0 Z (F0 m 19 ls []) := by
      intro nn19
      induction nn19 with
      | zero => intro x1 x2 σ3 H locs ls hv; exact absurd hv id
      | succ mm19 ih19 =>
        intro x1 x2 σ3 H locs ls hv hP hD hS hl
        refine lv_iload_n hx hb dX9_laws_19 rfl (lv_at hl 3 rfl) ?_
        refine lv_iconst (v := 3) hx hb dX9_laws_20 (by decide) ?_
        refine lv_icmp_ge (tgt := 52) hx hb dX9_laws_21 (by decide) (fun c15 => ?_) (fun c15 => ?_)
        · have hv := hv.1 c15
          refine lv_aload_n hx hb dX9_laws_52 rfl (lv_at hl 0 rfl) ?_
          refine lv_iload_n hx hb dX9_laws_53 rfl (lv_at hl 1 rfl) ?_
          refine va_put (ci := 9) (v := .int (rdI σ0 3)) (ty := .int) (C := RX9) (T := TX9) (N := 38) hx hb hts hinX9 tyX9 tyX9_ok nmX9 hown hK hP hD hS 0 (wR_0 cy ad σ3) rfl 6 (by decide) (hts (.fieldLink RX9 161 "TaleBansModel" "lawNow" "I") (List.mem_of_getElem? (i := 2) rfl)) (fun x h => h) rfl (by decide +kernel) rfl rfl (Nat.le_of_ble_eq_true rfl) dX9_laws_54 (fun H locs hP hD hS => ?_)
          obtain ⟨σ4, e5⟩ : ∃ y : S_, y = wrI σ3 3 (rdI σ0 3) := ⟨_, rfl⟩
          have hP : va_P D vwCl (wR cy ad σ4) H := by rw [e5]; exact hP
          have hD : va_D A (wR cy ad σ4) := by rw [e5]; exact hD
          have hv := hv σ4 e5
          refine lv_iload_n hx hb dX9_laws_57 rfl (lv_at hl 2 rfl) ?_
          rw [hZ]; rw [hQ] at hv
          exact W.iret (v := x1) hx hb hr (fun t ht hW => ⟨⟨x1, σ4, rfl, hv, ⟨P_of ht hP, hD⟩⟩, hS.F ht⟩) hS.2.2 dX9_laws_58
        · have hv := hv.2 c15
          refine lv_aload_n hx hb dX9_laws_24 rfl (lv_at hl 0 rfl) ?_
          refine lv_iload_n hx hb dX9_laws_25 rfl (lv_at hl 3 rfl) ?_
          refine va_put (ci := 9) (v := .int x2) (ty := .int) (C := RX9) (T := TX9) (N := 38) hx hb hts hinX9 tyX9 tyX9_ok nmX9 hown hK hP hD hS 0 (wR_0 cy ad σ3) rfl 6 (by decide) (hts (.fieldLink RX9 161 "TaleBansModel" "lawNow" "I") (List.mem_of_getElem? (i := 2) rfl)) (fun x h => h) rfl (by decide +kernel) rfl rfl (Nat.le_of_ble_eq_true rfl) dX9_laws_26 (fun H locs hP hD hS => ?_)
          obtain ⟨σ6, e7⟩ : ∃ y : S_, y = wrI σ3 3 x2 := ⟨_, rfl⟩
          have hP : va_P D vwCl (wR cy ad σ6) H := by rw [e7]; exact hP
          have hD : va_D A (wR cy ad σ6) := by rw [e7]; exact hD
          have hv := hv σ6 e7
          refine lv_iload_n hx hb dX9_laws_29 rfl (lv_at hl 2 rfl) ?_
          refine lv_aload_n hx hb dX9_laws_30 rfl (lv_at hl 0 rfl) ?_
          obtain ⟨g8, hv⟩ := hv
          obtain ⟨hp, hv⟩ := hv
          refine k_rel_i (w := wR cy ad) (va_runV (As := []) (rest := [.int x1]) ⟨hx, hb, hml, hown, hts⟩ (h_X9_areSo D cy ad A g8 σ6 hp) (cwV 0 hts gX9_laws_X9_areSo rfl rfl rfl (by decide +kernel) ⟨le_R hRf (Nat.le_of_ble_eq_true rfl), le_R hRl (Nat.le_of_ble_eq_true rfl)⟩) ⟨(fun a U g mk q => ⟨q.1, q.2.blind⟩), va_recv hK hP (ci := 9) (q0 := 0) rfl (wR_0 cy ad σ6), (fun U hU hW => ⟨rfl, WdR.pre hP hK hD hN hU hW⟩)⟩ rfl rfl hl.1 rfl (lv_room (Nat.le_of_ble_eq_true rfl)) dX9_laws_31 ⟨le_R hRc (Nat.le_refl 0), le_R hRs (Nat.le_refl 0)⟩) hS (fun r10 σ9 H locs hr1 hP hD hS => ?_)
          have hv := hv r10 σ9 hr1
          obtain ⟨P11, hv, hvr⟩ := hv
          have jn12 : ∀ (b13 : Int32) (H : Heap) (locs : List Loc) (ls : Array Slot), P11 b13 → va_P D vwCl (wR cy ad σ9) H → va_S A s.heap H locs → lv_has ls 4 [(0, .ref (ad 0)), (1, .int (rdI σ0 3)), (2, .int x1), (3, .int x2)] → W p l e R s m ([.ref (ad 0)] : List Value).toArray below meth c H locs 0 0 Z (F0 m 44 ls [.int b13, .int x1]) := by
            intro b13 H locs ls hv hP hS hl
            have hv := hvr b13 hv
            refine lv_ior hx hb dX9_laws_44 ?_
            refine lv_istore_n (lv' := [(2, .int (x1 ||| b13)), (0, .ref (ad 0)), (1, .int (rdI σ0 3)), (3, .int x2)]) hx hb dX9_laws_45 rfl hl (by decide) rfl (fun ls hl => ?_)
            refine lv_iinc (v := (x2 + 1)) (lv' := [(3, .int (x2 + 1)), (2, .int (x1 ||| b13)), (0, .ref (ad 0)), (1, .int (rdI σ0 3))]) hx hb dX9_laws_46 hl (k := 3) rfl rfl (by decide) rfl (fun ls hl => ?_)
            refine lv_goto (tgt := 19) hx hb dX9_laws_49 (by decide) ?_
            exact ih19 (x1 ||| b13) (x2 + 1) σ9 _ _ _ hv hP hD hS (lv_sub hl [2, 3, 1, 0] rfl)
          refine lv_if_eq (tgt := 43) hx hb dX9_laws_34 (by decide) (fun c14 => ?_) (fun c14 => ?_)
          · have hv := hv.1 c14
            refine lv_iconst (v := 0) hx hb dX9_laws_43 (by decide) ?_
            exact jn12 0 _ _ _ hv hP hS hl
          · have hv := hv.2 c14
            refine lv_iconst (v := 1) hx hb dX9_laws_37 (by decide) ?_
            refine lv_iload_n hx hb dX9_laws_38 rfl (lv_at hl 3 rfl) ?_
            refine lv_ishl hx hb dX9_laws_39 ?_
            refine lv_goto (tgt := 44) hx hb dX9_laws_40 (by decide) ?_
            exact jn12 (1 <<< (x2 &&& 31)) _ _ _ hv hP hS hl
    exact lp19 n19 0 0 σ0 _ _ _ hv hP hD hS (lv_sub hl [3, 2, 1, 0] rfl)
  · have hv := hv.2 c16
    refine lv_bipush (v := (-3)) hx hb dX9_laws_7 (by decide) ?_
    rw [hZ]; rw [hQ] at hv
    exact W.iret (v := (-3)) hx hb hr (fun t ht hW => ⟨⟨(-3), σ0, rfl, hv, ⟨P_of ht hP, hD⟩⟩, hS.F ht⟩) hS.2.2 dX9_laws_9
set_option maxHeartbeats 4000000 in
set_option maxRecDepth 100000 in
theorem wk_X9_odds (l : Launch) (h_X9_all : Ct_X9_all l) (h_X9_in : Ct_X9_in l) (h_X9_isForbidden : Ct_X9_isForbidden l) (h_X9_isSeason : Ct_X9_isSeason l) (h_X9_lost : Ct_X9_lost l) (h_X9_noDeed : Ct_X9_noDeed l) (h_X9_shareOf : Ct_X9_shareOf l) (sp : Sp_X9_odds) : Ct_X9_odds l := by
  intro D cy ad A deed_ season_ which_ ag σ0  hpre
  refine Met.ofW (cc := cX9_odds) (maxL := 8) (ret := (some .long)) (by decide) rfl ?_
  intro p e s m args below meth c s₁ B hml hv0
  obtain ⟨rfl, hP, hK, hD, hN⟩ := hv0
  have hx := B.exec
  have hb := B.bytes
  have hr := B.returns
  have hts := atoms_spec (ws := wsX9_odds) B.pre
  have hown : s.vm.findClass RX9 = some m.cls := findClass_of_methodNamed B.named
  have hlocks := B.notSynchronized
  have hv := sp deed_ season_ which_ ag σ0 hpre
  have hl := lv_entry ([.ref (ad 0), .int deed_, .int season_, .int which_]) (n := 8) (Nat.le_of_ble_eq_true rfl)
  rw [lg_entry_eq]
  generalize (lg_sl ([.ref (ad 0), .int deed_, .int season_, .int which_]) ++ List.replicate (8 - (lg_sl ([.ref (ad 0), .int deed_, .int season_, .int which_])).length) Slot.unset).toArray = ls at hl ⊢
  have hl : lv_has ls 8 [(0, .ref (ad 0)), (1, .int deed_), (2, .int season_), (3, .int which_)] := hl
  refine W_gen (fun R Z H locs hR hZ hH hlo => ?_)
  have hRf : R.frames = 7 := by rw [hR]; rfl
  have hRl : R.locals = 161 := by rw [hR]; rfl
  have hRc : R.cells = 0 := by rw [hR]; rfl
  have hRs : R.slots = 0 := by rw [hR]; rfl
  have hS : va_S A s.heap H locs := by rw [hH, hlo]; exact va_S.rf
  rw [← hH] at hP
  obtain ⟨Q, hQ⟩ : ∃ q : Int64 → S_ → Prop, q = (post_X9_odds deed_ season_ which_ ag σ0) := ⟨_, rfl⟩
  rw [← hQ] at hv
  have hinX9 : ∀ w ∈ wsX90, w ∈ wsX9_odds := by decide +kernel
  refine lv_iload_n hx hb dX9_odds_0 rfl (lv_at hl 1 rfl) ?_
  refine k_pure_i (va_runS (As := [.int deed_]) (rest := []) ⟨hx, hb, hml, hown, hts⟩ (h_X9_noDeed deed_) (va_cwS 1 hts gX9_odds_X9_noDeed rfl rfl rfl (by decide +kernel) ⟨le_R hRf (Nat.le_of_ble_eq_true rfl), le_R hRl (Nat.le_of_ble_eq_true rfl)⟩) ⟨(fun a U g mk q => ⟨q.1, trivial⟩), (fun U hU hW => ⟨rfl, trivial⟩)⟩ rfl rfl hl.1 rfl (lv_room (Nat.le_of_ble_eq_true rfl)) dX9_odds_1 ⟨le_R hRc (Nat.le_refl 0), le_R hRs (Nat.le_refl 0)⟩) hS hP (fun r H locs hr1 hP hS => ?_)
  subst hr1
  refine lv_if_ne (tgt := 31) hx hb dX9_odds_4 (by decide) (fun c24 => ?_) (fun c24 => ?_)
  · have hv := hv.1 c24
    refine k_pure_l (va_runS (As := []) (rest := []) ⟨hx, hb, hml, hown, hts⟩ (h_X9_lost ) (va_cwS 0 hts gX9_odds_X9_lost rfl rfl rfl (by decide +kernel) ⟨le_R hRf (Nat.le_of_ble_eq_true rfl), le_R hRl (Nat.le_of_ble_eq_true rfl)⟩) ⟨(fun a U g mk q => ⟨q.1, trivial⟩), (fun U hU hW => ⟨rfl, trivial⟩)⟩ rfl rfl hl.1 rfl (lv_room (Nat.le_of_ble_eq_true rfl)) dX9_odds_31 ⟨le_R hRc (Nat.le_refl 0), le_R hRs (Nat.le_refl 0)⟩) hS hP (fun r H locs hr1 hP hS => ?_)
    subst hr1
    rw [hZ]; rw [hQ] at hv
    exact W.lret (v := fn_X9_lost) hx hb hr (fun t ht hW => ⟨⟨fn_X9_lost, σ0, rfl, hv, ⟨P_of ht hP, hD⟩⟩, hS.F ht⟩) hS.2.2 dX9_odds_34
  · have hv := hv.2 c24
    refine lv_iload_n hx hb dX9_odds_7 rfl (lv_at hl 2 rfl) ?_
    refine k_pure_i (va_runS (As := [.int season_]) (rest := []) ⟨hx, hb, hml, hown, hts⟩ (h_X9_isSeason season_) (va_cwS 1 hts gX9_odds_X9_isSeason rfl rfl rfl (by decide +kernel) ⟨le_R hRf (Nat.le_of_ble_eq_true rfl), le_R hRl (Nat.le_of_ble_eq_true rfl)⟩) ⟨(fun a U g mk q => ⟨q.1, trivial⟩), (fun U hU hW => ⟨rfl, trivial⟩)⟩ rfl rfl hl.1 rfl (lv_room (Nat.le_of_ble_eq_true rfl)) dX9_odds_8 ⟨le_R hRc (Nat.le_refl 0), le_R hRs (Nat.le_refl 0)⟩) hS hP (fun r H locs hr1 hP hS => ?_)
    subst hr1
    refine lv_if_eq (tgt := 31) hx hb dX9_odds_11 (by decide) (fun c23 => ?_) (fun c23 => ?_)
    · have hv := hv.1 c23
      refine k_pure_l (va_runS (As := []) (rest := []) ⟨hx, hb, hml, hown, hts⟩ (h_X9_lost ) (va_cwS 0 hts gX9_odds_X9_lost rfl rfl rfl (by decide +kernel) ⟨le_R hRf (Nat.le_of_ble_eq_true rfl), le_R hRl (Nat.le_of_ble_eq_true rfl)⟩) ⟨(fun a U g mk q => ⟨q.1, trivial⟩), (fun U hU hW => ⟨rfl, trivial⟩)⟩ rfl rfl hl.1 rfl (lv_room (Nat.le_of_ble_eq_true rfl)) dX9_odds_31 ⟨le_R hRc (Nat.le_refl 0), le_R hRs (Nat.le_refl 0)⟩) hS hP (fun r H locs hr1 hP hS => ?_)
      subst hr1
      rw [hZ]; rw [hQ] at hv
      exact W.lret (v := fn_X9_lost) hx hb hr (fun t ht hW => ⟨⟨fn_X9_lost, σ0, rfl, hv, ⟨P_of ht hP, hD⟩⟩, hS.F ht⟩) hS.2.2 dX9_odds_34
    · have hv := hv.2 c23
      refine lv_iload_n hx hb dX9_odds_14 rfl (lv_at hl 3 rfl) ?_
      refine lv_i2l hx hb dX9_odds_15 rfl ?_
      refine lv_lconst (v := 0) hx hb dX9_odds_16 rfl ?_
      refine lv_lconst (v := 1) hx hb dX9_odds_17 rfl ?_
      refine k_pure_i (va_runS (As := [.long (Int32.toInt64 which_), .long 0, .long 1]) (rest := []) ⟨hx, hb, hml, hown, hts⟩ (h_X9_in (Int32.toInt64 which_) 0 1) (va_cwS 3 hts gX9_odds_X9_in rfl rfl rfl (by decide +kernel) ⟨le_R hRf (Nat.le_of_ble_eq_true rfl), le_R hRl (Nat.le_of_ble_eq_true rfl)⟩) ⟨(fun a U g mk q => ⟨q.1, trivial⟩), (fun U hU hW => ⟨rfl, trivial⟩)⟩ rfl rfl hl.1 rfl (lv_room (Nat.le_of_ble_eq_true rfl)) dX9_odds_18 ⟨le_R hRc (Nat.le_refl 0), le_R hRs (Nat.le_refl 0)⟩) hS hP (fun r H locs hr1 hP hS => ?_)
      subst hr1
      refine lv_if_eq (tgt := 31) hx hb dX9_odds_21 (by decide) (fun c22 => ?_) (fun c22 => ?_)
      · have hv := hv.1 c22
        refine k_pure_l (va_runS (As := []) (rest := []) ⟨hx, hb, hml, hown, hts⟩ (h_X9_lost ) (va_cwS 0 hts gX9_odds_X9_lost rfl rfl rfl (by decide +kernel) ⟨le_R hRf (Nat.le_of_ble_eq_true rfl), le_R hRl (Nat.le_of_ble_eq_true rfl)⟩) ⟨(fun a U g mk q => ⟨q.1, trivial⟩), (fun U hU hW => ⟨rfl, trivial⟩)⟩ rfl rfl hl.1 rfl (lv_room (Nat.le_of_ble_eq_true rfl)) dX9_odds_31 ⟨le_R hRc (Nat.le_refl 0), le_R hRs (Nat.le_refl 0)⟩) hS hP (fun r H locs hr1 hP hS => ?_)
        subst hr1
        rw [hZ]; rw [hQ] at hv
        exact W.lret (v := fn_X9_lost) hx hb hr (fun t ht hW => ⟨⟨fn_X9_lost, σ0, rfl, hv, ⟨P_of ht hP, hD⟩⟩, hS.F ht⟩) hS.2.2 dX9_odds_34
      · have hv := hv.2 c22
        refine lv_aload_n hx hb dX9_odds_24 rfl (lv_at hl 0 rfl) ?_
        refine va_get (ci := 9) (v := .int (rdI σ0 1)) (C := RX9) (T := TX9) (N := 38) hx hb hts hinX9 hown hK hP 0 (wR_0 cy ad σ0) rfl 1 (by decide) (hts (.fieldLink RX9 102 "TaleBansModel" "persons" "I") (List.mem_of_getElem? (i := 1) rfl)) (fun x h => h) rfl dX9_odds_25 ?_
        refine lv_if_ne (tgt := 35) hx hb dX9_odds_28 (by decide) (fun c21 => ?_) (fun c21 => ?_)
        · have hv := hv.1 c21
          refine lv_aload_n hx hb dX9_odds_35 rfl (lv_at hl 0 rfl) ?_
          refine va_get (ci := 9) (v := .int (rdI σ0 2)) (C := RX9) (T := TX9) (N := 38) hx hb hts hinX9 hown hK hP 0 (wR_0 cy ad σ0) rfl 5 (by decide) (hts (.fieldLink RX9 158 "TaleBansModel" "paidNow" "I") (List.mem_of_getElem? (i := 2) rfl)) (fun x h => h) rfl dX9_odds_36 ?_
          refine lv_istore (lv' := [(4, .int (rdI σ0 2)), (0, .ref (ad 0)), (1, .int deed_), (2, .int season_), (3, .int which_)]) hx hb dX9_odds_39 hl (by decide) rfl (fun ls hl => ?_)
          refine lv_lconst (v := 0) hx hb dX9_odds_41 rfl ?_
          refine lv_lstore (lv' := [(5, .long 0), (4, .int (rdI σ0 2)), (0, .ref (ad 0)), (1, .int deed_), (2, .int season_), (3, .int which_)]) hx hb dX9_odds_42 hl (by decide) rfl (fun ls hl => ?_)
          refine lv_iconst (v := 0) hx hb dX9_odds_44 (by decide) ?_
          refine lv_istore (lv' := [(7, .int 0), (5, .long 0), (4, .int (rdI σ0 2)), (0, .ref (ad 0)), (1, .int deed_), (2, .int season_), (3, .int which_)]) hx hb dX9_odds_45 hl (by decide) rfl (fun ls hl => ?_)
          obtain ⟨n47, hv⟩ := hv
          have lp47 : ∀ (nn47 : Nat) (x1 : Int64) (x2 : Int32) (σ3 : S_) (H : Heap) (locs : List Loc) (ls : Array Slot), vl_X9_odds_47 deed_ season_ which_ σ0 Q nn47 x1 x2 σ3 → va_P D vwCl (wR cy ad σ3) H → va_D A (wR cy ad σ3) → va_S A s.heap H locs → lv_has ls 8 [(0, .ref (ad 0)), (1, .int deed_), (2, .int season_), (3, .int which_), (4, .int (rdI σ0 2)), (5, .long x1), (7, .int x2)] → W p l e R s m ([.ref (ad 0), .int deed_, .int season_, .int which_] : List Value).toArray  below meth c H locs 0 0 Z (F0 m 47 ls []) := by
            intro nn47
            induction nn47 with
            | zero => intro x1 x2 σ3 H locs ls hv; exact absurd hv id
            | succ mm47 ih47 =>
              intro x1 x2 σ3 H locs ls hv hP hD hS hl
              refine lv_iload hx hb dX9_odds_47 (lv_at hl 6 rfl) ?_
              refine lv_aload_n hx hb dX9_odds_49 rfl (lv_at hl 0 rfl) ?_
              have hp := True.intro
              refine k_read_i (w := wR cy ad) (va_runV (As := []) (rest := [.int x2]) ⟨hx, hb, hml, hown, hts⟩ (h_X9_all D cy ad A σ3 hp) (cwV 0 hts gX9_odds_X9_all rfl rfl rfl (by decide +kernel) ⟨le_R hRf (Nat.le_of_ble_eq_true rfl), le_R hRl (Nat.le_of_ble_eq_true rfl)⟩) ⟨(fun a U g mk q => ⟨q.1, q.2.blind⟩), va_recv hK hP (ci := 9) (q0 := 0) rfl (wR_0 cy ad σ3), (fun U hU hW => ⟨rfl, WdR.pre hP hK hD hN hU hW⟩)⟩ rfl rfl hl.1 rfl (lv_room (Nat.le_of_ble_eq_true rfl)) dX9_odds_50 ⟨le_R hRc (Nat.le_refl 0), le_R hRs (Nat.le_refl 0)⟩) hS (fun r H locs hr1 hP hS => ?_)
              subst hr1
              refine lv_icmp_gt (tgt := 87) hx hb dX9_odds_53 (by decide) (fun c20 => ?_) (fun c20 => ?_)
              · have hv := hv.1 c20
                refine lv_aload_n hx hb dX9_odds_87 rfl (lv_at hl 0 rfl) ?_
                refine lv_iload hx hb dX9_odds_88 (lv_at hl 4 rfl) ?_
                refine va_put (ci := 9) (v := .int (rdI σ0 2)) (ty := .int) (C := RX9) (T := TX9) (N := 38) hx hb hts hinX9 tyX9 tyX9_ok nmX9 hown hK hP hD hS 0 (wR_0 cy ad σ3) rfl 5 (by decide) (hts (.fieldLink RX9 158 "TaleBansModel" "paidNow" "I") (List.mem_of_getElem? (i := 2) rfl)) (fun x h => h) rfl (by decide +kernel) rfl rfl (Nat.le_of_ble_eq_true rfl) dX9_odds_90 (fun H locs hP hD hS => ?_)
                obtain ⟨σ4, e5⟩ : ∃ y : S_, y = wrI σ3 2 (rdI σ0 2) := ⟨_, rfl⟩
                have hP : va_P D vwCl (wR cy ad σ4) H := by rw [e5]; exact hP
                have hD : va_D A (wR cy ad σ4) := by rw [e5]; exact hD
                have hv := hv σ4 e5
                refine lv_lload hx hb dX9_odds_93 (lv_at hl 5 rfl) ?_
                refine lv_aload_n hx hb dX9_odds_95 rfl (lv_at hl 0 rfl) ?_
                have hp := True.intro
                refine k_read_i (w := wR cy ad) (va_runV (As := []) (rest := [.long x1]) ⟨hx, hb, hml, hown, hts⟩ (h_X9_all D cy ad A σ4 hp) (cwV 0 hts gX9_odds_X9_all rfl rfl rfl (by decide +kernel) ⟨le_R hRf (Nat.le_of_ble_eq_true rfl), le_R hRl (Nat.le_of_ble_eq_true rfl)⟩) ⟨(fun a U g mk q => ⟨q.1, q.2.blind⟩), va_recv hK hP (ci := 9) (q0 := 0) rfl (wR_0 cy ad σ4), (fun U hU hW => ⟨rfl, WdR.pre hP hK hD hN hU hW⟩)⟩ rfl rfl hl.1 rfl (lv_room (Nat.le_of_ble_eq_true rfl)) dX9_odds_96 ⟨le_R hRc (Nat.le_refl 0), le_R hRs (Nat.le_refl 0)⟩) hS (fun r H locs hr1 hP hS => ?_)
                subst hr1
                refine lv_i2l hx hb dX9_odds_99 rfl ?_
                refine lv_lconst (v := 1) hx hb dX9_odds_100 rfl ?_
                refine lv_ladd hx hb dX9_odds_101 ?_
                refine lv_iload_n hx hb dX9_odds_102 rfl (lv_at hl 3 rfl) ?_
                obtain ⟨g6, g7, hv⟩ := hv
                obtain ⟨hp, hv⟩ := hv
                refine k_read_l (w := wR cy ad) (va_runS (As := [.long x1, .long ((Int32.toInt64 (fn_X9_all σ4)) + 1), .int which_]) (rest := []) ⟨hx, hb, hml, hown, hts⟩ (h_X9_shareOf D cy ad A x1 ((Int32.toInt64 (fn_X9_all σ4)) + 1) which_ g6 g7 σ4 hp) (va_cwS 3 hts gX9_odds_X9_shareOf rfl rfl rfl (by decide +kernel) ⟨le_R hRf (Nat.le_of_ble_eq_true rfl), le_R hRl (Nat.le_of_ble_eq_true rfl)⟩) ⟨(fun a U g mk q => ⟨q.1, q.2.blind⟩), (fun U hU hW => ⟨rfl, WdR.pre hP hK hD hN hU hW⟩)⟩ rfl rfl hl.1 rfl (lv_room (Nat.le_of_ble_eq_true rfl)) dX9_odds_103 ⟨le_R hRc (Nat.le_refl 0), le_R hRs (Nat.le_refl 0)⟩) hS (fun r8 H locs hr1 hP hS => ?_)
                have hv := hv r8 hr1
                rw [hZ]; rw [hQ] at hv
                exact W.lret (v := r8) hx hb hr (fun t ht hW => ⟨⟨r8, σ4, rfl, hv, ⟨P_of ht hP, hD⟩⟩, hS.F ht⟩) hS.2.2 dX9_odds_106
              · have hv := hv.2 c20
                refine lv_aload_n hx hb dX9_odds_56 rfl (lv_at hl 0 rfl) ?_
                refine lv_iload hx hb dX9_odds_57 (lv_at hl 6 rfl) ?_
                refine va_put (ci := 9) (v := .int x2) (ty := .int) (C := RX9) (T := TX9) (N := 38) hx hb hts hinX9 tyX9 tyX9_ok nmX9 hown hK hP hD hS 0 (wR_0 cy ad σ3) rfl 5 (by decide) (hts (.fieldLink RX9 158 "TaleBansModel" "paidNow" "I") (List.mem_of_getElem? (i := 2) rfl)) (fun x h => h) rfl (by decide +kernel) rfl rfl (Nat.le_of_ble_eq_true rfl) dX9_odds_59 (fun H locs hP hD hS => ?_)
                obtain ⟨σ9, e10⟩ : ∃ y : S_, y = wrI σ3 2 x2 := ⟨_, rfl⟩
                have hP : va_P D vwCl (wR cy ad σ9) H := by rw [e10]; exact hP
                have hD : va_D A (wR cy ad σ9) := by rw [e10]; exact hD
                have hv := hv σ9 e10
                refine lv_lload hx hb dX9_odds_62 (lv_at hl 5 rfl) ?_
                refine lv_aload_n hx hb dX9_odds_64 rfl (lv_at hl 0 rfl) ?_
                refine lv_iload_n hx hb dX9_odds_65 rfl (lv_at hl 1 rfl) ?_
                refine lv_iload_n hx hb dX9_odds_66 rfl (lv_at hl 2 rfl) ?_
                obtain ⟨g11, g12, g13, hv⟩ := hv
                obtain ⟨hp, hv⟩ := hv
                refine k_rel_i (w := wR cy ad) (va_runV (As := [.int deed_, .int season_]) (rest := [.long x1]) ⟨hx, hb, hml, hown, hts⟩ (h_X9_isForbidden D cy ad A deed_ season_ g11 g12 g13 σ9 hp) (cwV 2 hts gX9_odds_X9_isForbidden rfl rfl rfl (by decide +kernel) ⟨le_R hRf (Nat.le_of_ble_eq_true rfl), le_R hRl (Nat.le_of_ble_eq_true rfl)⟩) ⟨(fun a U g mk q => ⟨q.1, q.2.blind⟩), va_recv hK hP (ci := 9) (q0 := 0) rfl (wR_0 cy ad σ9), (fun U hU hW => ⟨rfl, WdR.pre hP hK hD hN hU hW⟩)⟩ rfl rfl hl.1 rfl (lv_room (Nat.le_of_ble_eq_true rfl)) dX9_odds_67 ⟨le_R hRc (Nat.le_refl 0), le_R hRs (Nat.le_refl 0)⟩) hS (fun r15 σ14 H locs hr1 hP hD hS => ?_)
                have hv := hv r15 σ14 hr1
                obtain ⟨P16, hv, hvr⟩ := hv
                have jn17 : ∀ (b18 : Int64) (H : Heap) (locs : List Loc) (ls : Array Slot), P16 b18 → va_P D vwCl (wR cy ad σ14) H → va_S A s.heap H locs → lv_has ls 8 [(0, .ref (ad 0)), (1, .int deed_), (2, .int season_), (3, .int which_), (4, .int (rdI σ0 2)), (5, .long x1), (7, .int x2)] → W p l e R s m ([.ref (ad 0), .int deed_, .int season_, .int which_] : List Value).toArray below meth c H locs 0 0 Z (F0 m 78 ls [.long b18, .long x1]) := by
                  intro b18 H locs ls hv hP hS hl
                  have hv := hvr b18 hv
                  refine lv_ladd hx hb dX9_odds_78 ?_
                  refine lv_lstore (lv' := [(5, .long (x1 + b18)), (0, .ref (ad 0)), (1, .int deed_), (2, .int season_), (3, .int which_), (4, .int (rdI σ0 2)), (7, .int x2)]) hx hb dX9_odds_79 hl (by decide) rfl (fun ls hl => ?_)
                  refine lv_iinc (v := (x2 + 1)) (lv' := [(7, .int (x2 + 1)), (5, .long (x1 + b18)), (0, .ref (ad 0)), (1, .int deed_), (2, .int season_), (3, .int which_), (4, .int (rdI σ0 2))]) hx hb dX9_odds_81 hl (k := 6) rfl rfl (by decide) rfl (fun ls hl => ?_)
                  refine lv_goto (tgt := 47) hx hb dX9_odds_84 (by decide) ?_
                  exact ih47 (x1 + b18) (x2 + 1) σ14 _ _ _ hv hP hD hS (lv_sub hl [2, 3, 4, 5, 6, 1, 0] rfl)
                refine lv_if_eq (tgt := 77) hx hb dX9_odds_70 (by decide) (fun c19 => ?_) (fun c19 => ?_)
                · have hv := hv.1 c19
                  refine lv_lconst (v := 1) hx hb dX9_odds_77 rfl ?_
                  exact jn17 1 _ _ _ hv hP hS hl
                · have hv := hv.2 c19
                  refine lv_lconst (v := 0) hx hb dX9_odds_73 rfl ?_
                  refine lv_goto (tgt := 78) hx hb dX9_odds_74 (by decide) ?_
                  exact jn17 0 _ _ _ hv hP hS hl
          exact lp47 n47 0 0 σ0 _ _ _ hv hP hD hS (lv_sub hl [3, 4, 5, 6, 2, 1, 0] rfl)
        · have hv := hv.2 c21
          refine k_pure_l (va_runS (As := []) (rest := []) ⟨hx, hb, hml, hown, hts⟩ (h_X9_lost ) (va_cwS 0 hts gX9_odds_X9_lost rfl rfl rfl (by decide +kernel) ⟨le_R hRf (Nat.le_of_ble_eq_true rfl), le_R hRl (Nat.le_of_ble_eq_true rfl)⟩) ⟨(fun a U g mk q => ⟨q.1, trivial⟩), (fun U hU hW => ⟨rfl, trivial⟩)⟩ rfl rfl hl.1 rfl (lv_room (Nat.le_of_ble_eq_true rfl)) dX9_odds_31 ⟨le_R hRc (Nat.le_refl 0), le_R hRs (Nat.le_refl 0)⟩) hS hP (fun r H locs hr1 hP hS => ?_)
          subst hr1
          rw [hZ]; rw [hQ] at hv
          exact W.lret (v := fn_X9_lost) hx hb hr (fun t ht hW => ⟨⟨fn_X9_lost, σ0, rfl, hv, ⟨P_of ht hP, hD⟩⟩, hS.F ht⟩) hS.2.2 dX9_odds_34
set_option maxHeartbeats 4000000 in
set_option maxRecDepth 100000 in
theorem wk_X9_sheet (l : Launch) (h_X9_failed : Ct_X9_failed l) (h_X9_in : Ct_X9_in l) (h_X9_noSheet : Ct_X9_noSheet l) (h_X9_refused : Ct_X9_refused l) (sp : Sp_X9_sheet) : Ct_X9_sheet l := by
  intro D cy ad A k_ lane_ n_ ag σ0  hpre
  refine Met.ofW (cc := cX9_sheet) (maxL := 5) (ret := (some .int)) (by decide) rfl ?_
  intro p e s m args below meth c s₁ B hml hv0
  obtain ⟨rfl, hP, hK, hD, hN⟩ := hv0
  have hx := B.exec
  have hb := B.bytes
  have hr := B.returns
  have hts := atoms_spec (ws := wsX9_sheet) B.pre
  have hown : s.vm.findClass RX9 = some m.cls := findClass_of_methodNamed B.named
  have hlocks := B.notSynchronized
  have hv := sp k_ lane_ n_ ag σ0 hpre
  have hl := lv_entry ([.ref (ad 0), .int k_, .int lane_, .int n_]) (n := 5) (Nat.le_of_ble_eq_true rfl)
  rw [lg_entry_eq]
  generalize (lg_sl ([.ref (ad 0), .int k_, .int lane_, .int n_]) ++ List.replicate (5 - (lg_sl ([.ref (ad 0), .int k_, .int lane_, .int n_])).length) Slot.unset).toArray = ls at hl ⊢
  have hl : lv_has ls 5 [(0, .ref (ad 0)), (1, .int k_), (2, .int lane_), (3, .int n_)] := hl
  refine W_gen (fun R Z H locs hR hZ hH hlo => ?_)
  have hRf : R.frames = 2 := by rw [hR]; rfl
  have hRl : R.locals = 45 := by rw [hR]; rfl
  have hRc : R.cells = 0 := by rw [hR]; rfl
  have hRs : R.slots = 0 := by rw [hR]; rfl
  have hS : va_S A s.heap H locs := by rw [hH, hlo]; exact va_S.rf
  rw [← hH] at hP
  obtain ⟨Q, hQ⟩ : ∃ q : Int32 → S_ → Prop, q = (post_X9_sheet k_ lane_ n_ ag σ0) := ⟨_, rfl⟩
  rw [← hQ] at hv
  have hinX9 : ∀ w ∈ wsX90, w ∈ wsX9_sheet := by decide +kernel
  refine lv_iload_n hx hb dX9_sheet_0 rfl (lv_at hl 1 rfl) ?_
  refine k_pure_i (va_runS (As := [.int k_]) (rest := []) ⟨hx, hb, hml, hown, hts⟩ (h_X9_noSheet k_) (va_cwS 1 hts gX9_sheet_X9_noSheet rfl rfl rfl (by decide +kernel) ⟨le_R hRf (Nat.le_of_ble_eq_true rfl), le_R hRl (Nat.le_of_ble_eq_true rfl)⟩) ⟨(fun a U g mk q => ⟨q.1, trivial⟩), (fun U hU hW => ⟨rfl, trivial⟩)⟩ rfl rfl hl.1 rfl (lv_room (Nat.le_of_ble_eq_true rfl)) dX9_sheet_1 ⟨le_R hRc (Nat.le_refl 0), le_R hRs (Nat.le_refl 0)⟩) hS hP (fun r H locs hr1 hP hS => ?_)
  subst hr1
  refine lv_if_eq (tgt := 13) hx hb dX9_sheet_4 (by decide) (fun c23 => ?_) (fun c23 => ?_)
  · have hv := hv.1 c23
    refine lv_iload_n hx hb dX9_sheet_13 rfl (lv_at hl 2 rfl) ?_
    refine lv_i2l hx hb dX9_sheet_14 rfl ?_
    refine lv_lconst (v := 0) hx hb dX9_sheet_15 rfl ?_
    refine lv_ldc2 (v := (2)) hx hb hown (hts (.constantLong RX9 114 (2)) (List.mem_of_getElem? (i := 1) rfl)) dX9_sheet_16 ?_
    refine k_pure_i (va_runS (As := [.long (Int32.toInt64 lane_), .long 0, .long (2)]) (rest := []) ⟨hx, hb, hml, hown, hts⟩ (h_X9_in (Int32.toInt64 lane_) 0 (2)) (va_cwS 3 hts gX9_sheet_X9_in rfl rfl rfl (by decide +kernel) ⟨le_R hRf (Nat.le_of_ble_eq_true rfl), le_R hRl (Nat.le_of_ble_eq_true rfl)⟩) ⟨(fun a U g mk q => ⟨q.1, trivial⟩), (fun U hU hW => ⟨rfl, trivial⟩)⟩ rfl rfl hl.1 rfl (lv_room (Nat.le_of_ble_eq_true rfl)) dX9_sheet_19 ⟨le_R hRc (Nat.le_refl 0), le_R hRs (Nat.le_refl 0)⟩) hS hP (fun r H locs hr1 hP hS => ?_)
    subst hr1
    refine lv_if_eq (tgt := 31) hx hb dX9_sheet_22 (by decide) (fun c20 => ?_) (fun c20 => ?_)
    · have hv := hv.1 c20
      refine lv_aload_n hx hb dX9_sheet_31 rfl (lv_at hl 0 rfl) ?_
      refine lv_bipush (v := (-2)) hx hb dX9_sheet_32 (by decide) ?_
      have hp := True.intro
      refine k_rel_i (w := wR cy ad) (va_runV (As := [.int (-2)]) (rest := []) ⟨hx, hb, hml, hown, hts⟩ (h_X9_refused D cy ad A (-2) σ0 hp) (cwV 1 hts gX9_sheet_X9_refused rfl rfl rfl (by decide +kernel) ⟨le_R hRf (Nat.le_of_ble_eq_true rfl), le_R hRl (Nat.le_of_ble_eq_true rfl)⟩) ⟨(fun a U g mk q => ⟨q.1, q.2.blind⟩), va_recv hK hP (ci := 9) (q0 := 0) rfl (wR_0 cy ad σ0), (fun U hU hW => ⟨rfl, WdR.pre hP hK hD hN hU hW⟩)⟩ rfl rfl hl.1 rfl (lv_room (Nat.le_of_ble_eq_true rfl)) dX9_sheet_34 ⟨le_R hRc (Nat.le_refl 0), le_R hRs (Nat.le_refl 0)⟩) hS (fun r2 σ1 H locs hr1 hP hD hS => ?_)
      have hv := hv r2 σ1 hr1
      rw [hZ]; rw [hQ] at hv
      exact W.iret (v := r2) hx hb hr (fun t ht hW => ⟨⟨r2, σ1, rfl, hv, ⟨P_of ht hP, hD⟩⟩, hS.F ht⟩) hS.2.2 dX9_sheet_37
    · have hv := hv.2 c20
      refine lv_iload_n hx hb dX9_sheet_25 rfl (lv_at hl 3 rfl) ?_
      refine lv_bipush (v := 60) hx hb dX9_sheet_26 (by decide) ?_
      refine lv_icmp_le (tgt := 38) hx hb dX9_sheet_28 (by decide) (fun c19 => ?_) (fun c19 => ?_)
      · have hv := hv.1 c19
        refine lv_iload_n hx hb dX9_sheet_38 rfl (lv_at hl 3 rfl) ?_
        refine lv_if_ge (tgt := 48) hx hb dX9_sheet_39 (by decide) (fun c16 => ?_) (fun c16 => ?_)
        · have hv := hv.1 c16
          refine lv_aload_n hx hb dX9_sheet_48 rfl (lv_at hl 0 rfl) ?_
          refine va_get (ci := 9) (v := .ref (ad (24))) (C := RX9) (T := TX9) (N := 38) hx hb hts hinX9 hown hK hP 0 (wR_0 cy ad σ0) rfl 33 (by decide) (hts (.fieldLink RX9 80 "TaleBansModel" "sheetSize" "[I") (List.mem_of_getElem? (i := 2) rfl)) (fun x h => h) rfl dX9_sheet_49 ?_
          refine lv_iload_n hx hb dX9_sheet_52 rfl (lv_at hl 1 rfl) ?_
          refine lv_iload_n hx hb dX9_sheet_53 rfl (lv_at hl 3 rfl) ?_
          obtain ⟨hi, hv⟩ := hv
          refine va_iast hx hb hK hP hD hS 24 0 (wR_24 cy ad σ0) rfl hi dX9_sheet_54 (fun H locs hP hD hS => ?_)
          obtain ⟨σ3, e4⟩ : ∃ y : S_, y = wr2 σ0 24 (Int32.toNatClampNeg k_) n_ := ⟨_, rfl⟩
          have hP : va_P D vwCl (wR cy ad σ3) H := by rw [e4]; exact hP
          have hD : va_D A (wR cy ad σ3) := by rw [e4]; exact hD
          have hv := hv σ3 e4
          refine lv_aload_n hx hb dX9_sheet_55 rfl (lv_at hl 0 rfl) ?_
          refine va_get (ci := 9) (v := .ref (ad (25))) (C := RX9) (T := TX9) (N := 38) hx hb hts hinX9 hown hK hP 0 (wR_0 cy ad σ3) rfl 34 (by decide) (hts (.fieldLink RX9 83 "TaleBansModel" "sheetLane" "[I") (List.mem_of_getElem? (i := 3) rfl)) (fun x h => h) rfl dX9_sheet_56 ?_
          refine lv_iload_n hx hb dX9_sheet_59 rfl (lv_at hl 1 rfl) ?_
          refine lv_iload_n hx hb dX9_sheet_60 rfl (lv_at hl 2 rfl) ?_
          obtain ⟨hi, hv⟩ := hv
          refine va_iast hx hb hK hP hD hS 25 0 (wR_25 cy ad σ3) rfl hi dX9_sheet_61 (fun H locs hP hD hS => ?_)
          obtain ⟨σ5, e6⟩ : ∃ y : S_, y = wr2 σ3 25 (Int32.toNatClampNeg k_) lane_ := ⟨_, rfl⟩
          have hP : va_P D vwCl (wR cy ad σ5) H := by rw [e6]; exact hP
          have hD : va_D A (wR cy ad σ5) := by rw [e6]; exact hD
          have hv := hv σ5 e6
          refine lv_iconst (v := 0) hx hb dX9_sheet_62 (by decide) ?_
          refine lv_istore (lv' := [(4, .int 0), (0, .ref (ad 0)), (1, .int k_), (2, .int lane_), (3, .int n_)]) hx hb dX9_sheet_63 hl (by decide) rfl (fun ls hl => ?_)
          obtain ⟨n65, hv⟩ := hv
          have lp65 : ∀ (nn65 : Nat) (x7 : Int32) (σ8 : S_) (H : Heap) (locs : List Loc) (ls : Array Slot), vl_X9_sheet_65 k_ n_ Q nn65 x7 σ8 → va_P D vwCl (wR cy ad σ8) H → va_D A (wR cy ad σ8) → va_S A s.heap H locs → lv_has ls 5 [(0, .ref (ad 0)), (1, .int k_), (3, .int n_), (4, .int x7)] → W p l e R s m ([.ref (ad 0), .int k_, .int lane_, .int n_] : List Value).toArray  below meth c H locs 0 0 Z (F0 m 65 ls []) := by
            intro nn65
            induction nn65 with
            | zero => intro x7 σ8 H locs ls hv; exact absurd hv id
            | succ mm65 ih65 =>
              intro x7 σ8 H locs ls hv hP hD hS hl
              refine lv_iload hx hb dX9_sheet_65 (lv_at hl 3 rfl) ?_
              refine lv_iload_n hx hb dX9_sheet_67 rfl (lv_at hl 2 rfl) ?_
              refine lv_icmp_ge (tgt := 90) hx hb dX9_sheet_68 (by decide) (fun c13 => ?_) (fun c13 => ?_)
              · have hv := hv.1 c13
                refine lv_aload_n hx hb dX9_sheet_90 rfl (lv_at hl 0 rfl) ?_
                refine lv_iconst (v := 1) hx hb dX9_sheet_91 (by decide) ?_
                have hp := True.intro
                refine k_rel_i (w := wR cy ad) (va_runV (As := [.int 1]) (rest := []) ⟨hx, hb, hml, hown, hts⟩ (h_X9_refused D cy ad A 1 σ8 hp) (cwV 1 hts gX9_sheet_X9_refused rfl rfl rfl (by decide +kernel) ⟨le_R hRf (Nat.le_of_ble_eq_true rfl), le_R hRl (Nat.le_of_ble_eq_true rfl)⟩) ⟨(fun a U g mk q => ⟨q.1, q.2.blind⟩), va_recv hK hP (ci := 9) (q0 := 0) rfl (wR_0 cy ad σ8), (fun U hU hW => ⟨rfl, WdR.pre hP hK hD hN hU hW⟩)⟩ rfl rfl hl.1 rfl (lv_room (Nat.le_of_ble_eq_true rfl)) dX9_sheet_92 ⟨le_R hRc (Nat.le_refl 0), le_R hRs (Nat.le_refl 0)⟩) hS (fun r10 σ9 H locs hr1 hP hD hS => ?_)
                have hv := hv r10 σ9 hr1
                rw [hZ]; rw [hQ] at hv
                exact W.iret (v := r10) hx hb hr (fun t ht hW => ⟨⟨r10, σ9, rfl, hv, ⟨P_of ht hP, hD⟩⟩, hS.F ht⟩) hS.2.2 dX9_sheet_95
              · have hv := hv.2 c13
                refine lv_aload_n hx hb dX9_sheet_71 rfl (lv_at hl 0 rfl) ?_
                refine va_get (ci := 9) (v := .ref (ad (26))) (C := RX9) (T := TX9) (N := 38) hx hb hts hinX9 hown hK hP 0 (wR_0 cy ad σ8) rfl 35 (by decide) (hts (.fieldLink RX9 86 "TaleBansModel" "sheet" "[I") (List.mem_of_getElem? (i := 4) rfl)) (fun x h => h) rfl dX9_sheet_72 ?_
                refine lv_bipush (v := 60) hx hb dX9_sheet_75 (by decide) ?_
                refine lv_iload_n hx hb dX9_sheet_77 rfl (lv_at hl 1 rfl) ?_
                refine lv_imul hx hb dX9_sheet_78 ?_
                refine lv_iload hx hb dX9_sheet_79 (lv_at hl 3 rfl) ?_
                refine lv_iadd hx hb dX9_sheet_81 ?_
                refine lv_iconst (v := 0) hx hb dX9_sheet_82 (by decide) ?_
                obtain ⟨hi, hv⟩ := hv
                refine va_iast hx hb hK hP hD hS 26 0 (wR_26 cy ad σ8) rfl hi dX9_sheet_83 (fun H locs hP hD hS => ?_)
                obtain ⟨σ11, e12⟩ : ∃ y : S_, y = wr2 σ8 26 (Int32.toNatClampNeg ((60 * k_) + x7)) 0 := ⟨_, rfl⟩
                have hP : va_P D vwCl (wR cy ad σ11) H := by rw [e12]; exact hP
                have hD : va_D A (wR cy ad σ11) := by rw [e12]; exact hD
                have hv := hv σ11 e12
                refine lv_iinc (v := (x7 + 1)) (lv' := [(4, .int (x7 + 1)), (0, .ref (ad 0)), (1, .int k_), (3, .int n_)]) hx hb dX9_sheet_84 hl (k := 3) rfl rfl (by decide) rfl (fun ls hl => ?_)
                refine lv_goto (tgt := 65) hx hb dX9_sheet_87 (by decide) ?_
                exact ih65 (x7 + 1) σ11 _ _ _ hv hP hD hS (lv_sub hl [1, 2, 3, 0] rfl)
          exact lp65 n65 0 σ5 _ _ _ hv hP hD hS (lv_sub hl [1, 2, 4, 0] rfl)
        · have hv := hv.2 c16
          refine lv_aload_n hx hb dX9_sheet_42 rfl (lv_at hl 0 rfl) ?_
          refine lv_iconst (v := 4) hx hb dX9_sheet_43 (by decide) ?_
          have hp := True.intro
          refine k_rel_i (w := wR cy ad) (va_runV (As := [.int 4]) (rest := []) ⟨hx, hb, hml, hown, hts⟩ (h_X9_failed D cy ad A 4 σ0 hp) (cwV 1 hts gX9_sheet_X9_failed rfl rfl rfl (by decide +kernel) ⟨le_R hRf (Nat.le_of_ble_eq_true rfl), le_R hRl (Nat.le_of_ble_eq_true rfl)⟩) ⟨(fun a U g mk q => ⟨q.1, q.2.blind⟩), va_recv hK hP (ci := 9) (q0 := 0) rfl (wR_0 cy ad σ0), (fun U hU hW => ⟨rfl, WdR.pre hP hK hD hN hU hW⟩)⟩ rfl rfl hl.1 rfl (lv_room (Nat.le_of_ble_eq_true rfl)) dX9_sheet_44 ⟨le_R hRc (Nat.le_refl 0), le_R hRs (Nat.le_refl 0)⟩) hS (fun r15 σ14 H locs hr1 hP hD hS => ?_)
          have hv := hv r15 σ14 hr1
          rw [hZ]; rw [hQ] at hv
          exact W.iret (v := r15) hx hb hr (fun t ht hW => ⟨⟨r15, σ14, rfl, hv, ⟨P_of ht hP, hD⟩⟩, hS.F ht⟩) hS.2.2 dX9_sheet_47
      · have hv := hv.2 c19
        refine lv_aload_n hx hb dX9_sheet_31 rfl (lv_at hl 0 rfl) ?_
        refine lv_bipush (v := (-2)) hx hb dX9_sheet_32 (by decide) ?_
        have hp := True.intro
        refine k_rel_i (w := wR cy ad) (va_runV (As := [.int (-2)]) (rest := []) ⟨hx, hb, hml, hown, hts⟩ (h_X9_refused D cy ad A (-2) σ0 hp) (cwV 1 hts gX9_sheet_X9_refused rfl rfl rfl (by decide +kernel) ⟨le_R hRf (Nat.le_of_ble_eq_true rfl), le_R hRl (Nat.le_of_ble_eq_true rfl)⟩) ⟨(fun a U g mk q => ⟨q.1, q.2.blind⟩), va_recv hK hP (ci := 9) (q0 := 0) rfl (wR_0 cy ad σ0), (fun U hU hW => ⟨rfl, WdR.pre hP hK hD hN hU hW⟩)⟩ rfl rfl hl.1 rfl (lv_room (Nat.le_of_ble_eq_true rfl)) dX9_sheet_34 ⟨le_R hRc (Nat.le_refl 0), le_R hRs (Nat.le_refl 0)⟩) hS (fun r18 σ17 H locs hr1 hP hD hS => ?_)
        have hv := hv r18 σ17 hr1
        rw [hZ]; rw [hQ] at hv
        exact W.iret (v := r18) hx hb hr (fun t ht hW => ⟨⟨r18, σ17, rfl, hv, ⟨P_of ht hP, hD⟩⟩, hS.F ht⟩) hS.2.2 dX9_sheet_37
  · have hv := hv.2 c23
    refine lv_aload_n hx hb dX9_sheet_7 rfl (lv_at hl 0 rfl) ?_
    refine lv_iconst (v := (-1)) hx hb dX9_sheet_8 (by decide) ?_
    have hp := True.intro
    refine k_rel_i (w := wR cy ad) (va_runV (As := [.int (-1)]) (rest := []) ⟨hx, hb, hml, hown, hts⟩ (h_X9_refused D cy ad A (-1) σ0 hp) (cwV 1 hts gX9_sheet_X9_refused rfl rfl rfl (by decide +kernel) ⟨le_R hRf (Nat.le_of_ble_eq_true rfl), le_R hRl (Nat.le_of_ble_eq_true rfl)⟩) ⟨(fun a U g mk q => ⟨q.1, q.2.blind⟩), va_recv hK hP (ci := 9) (q0 := 0) rfl (wR_0 cy ad σ0), (fun U hU hW => ⟨rfl, WdR.pre hP hK hD hN hU hW⟩)⟩ rfl rfl hl.1 rfl (lv_room (Nat.le_of_ble_eq_true rfl)) dX9_sheet_9 ⟨le_R hRc (Nat.le_refl 0), le_R hRs (Nat.le_refl 0)⟩) hS (fun r22 σ21 H locs hr1 hP hD hS => ?_)
    have hv := hv r22 σ21 hr1
    rw [hZ]; rw [hQ] at hv
    exact W.iret (v := r22) hx hb hr (fun t ht hW => ⟨⟨r22, σ21, rfl, hv, ⟨P_of ht hP, hD⟩⟩, hS.F ht⟩) hS.2.2 dX9_sheet_12
set_option maxHeartbeats 4000000 in
set_option maxRecDepth 100000 in
theorem wk_X9_lose (l : Launch) (h_X9_noSheet : Ct_X9_noSheet l) (sp : Sp_X9_lose) : Ct_X9_lose l := by
  intro D cy ad A k_ ag σ0  hpre
  refine Met.ofW (cc := cX9_lose) (maxL := 3) (ret := (some .int)) (by decide) rfl ?_
  intro p e s m args below meth c s₁ B hml hv0
  obtain ⟨rfl, hP, hK, hD, hN⟩ := hv0
  have hx := B.exec
  have hb := B.bytes
  have hr := B.returns
  have hts := atoms_spec (ws := wsX9_lose) B.pre
  have hown : s.vm.findClass RX9 = some m.cls := findClass_of_methodNamed B.named
  have hlocks := B.notSynchronized
  have hv := sp k_ ag σ0 hpre
  have hl := lv_entry ([.ref (ad 0), .int k_]) (n := 3) (Nat.le_of_ble_eq_true rfl)
  rw [lg_entry_eq]
  generalize (lg_sl ([.ref (ad 0), .int k_]) ++ List.replicate (3 - (lg_sl ([.ref (ad 0), .int k_])).length) Slot.unset).toArray = ls at hl ⊢
  have hl : lv_has ls 3 [(0, .ref (ad 0)), (1, .int k_)] := hl
  refine W_gen (fun R Z H locs hR hZ hH hlo => ?_)
  have hRf : R.frames = 2 := by rw [hR]; rfl
  have hRl : R.locals = 45 := by rw [hR]; rfl
  have hRc : R.cells = 0 := by rw [hR]; rfl
  have hRs : R.slots = 0 := by rw [hR]; rfl
  have hS : va_S A s.heap H locs := by rw [hH, hlo]; exact va_S.rf
  rw [← hH] at hP
  obtain ⟨Q, hQ⟩ : ∃ q : Int32 → S_ → Prop, q = (post_X9_lose k_ ag σ0) := ⟨_, rfl⟩
  rw [← hQ] at hv
  have hinX9 : ∀ w ∈ wsX90, w ∈ wsX9_lose := by decide +kernel
  refine lv_iload_n hx hb dX9_lose_0 rfl (lv_at hl 1 rfl) ?_
  refine k_pure_i (va_runS (As := [.int k_]) (rest := []) ⟨hx, hb, hml, hown, hts⟩ (h_X9_noSheet k_) (va_cwS 1 hts gX9_lose_X9_noSheet rfl rfl rfl (by decide +kernel) ⟨le_R hRf (Nat.le_of_ble_eq_true rfl), le_R hRl (Nat.le_of_ble_eq_true rfl)⟩) ⟨(fun a U g mk q => ⟨q.1, trivial⟩), (fun U hU hW => ⟨rfl, trivial⟩)⟩ rfl rfl hl.1 rfl (lv_room (Nat.le_of_ble_eq_true rfl)) dX9_lose_1 ⟨le_R hRc (Nat.le_refl 0), le_R hRs (Nat.le_refl 0)⟩) hS hP (fun r H locs hr1 hP hS => ?_)
  subst hr1
  refine lv_if_eq (tgt := 9) hx hb dX9_lose_4 (by decide) (fun c7 => ?_) (fun c7 => ?_)
  · have hv := hv.1 c7
    refine lv_aload_n hx hb dX9_lose_9 rfl (lv_at hl 0 rfl) ?_
    refine va_get (ci := 9) (v := .ref (ad (24))) (C := RX9) (T := TX9) (N := 38) hx hb hts hinX9 hown hK hP 0 (wR_0 cy ad σ0) rfl 33 (by decide) (hts (.fieldLink RX9 80 "TaleBansModel" "sheetSize" "[I") (List.mem_of_getElem? (i := 1) rfl)) (fun x h => h) rfl dX9_lose_10 ?_
    refine lv_iload_n hx hb dX9_lose_13 rfl (lv_at hl 1 rfl) ?_
    obtain ⟨hi, hv⟩ := hv
    refine va_iald hx hb hK hP 24 0 (wR_24 cy ad σ0) rfl hi dX9_lose_14 ?_
    obtain ⟨P1, hv, hvr⟩ := hv
    have jn2 : ∀ (b3 : Int32) (H : Heap) (locs : List Loc) (ls : Array Slot), P1 b3 → va_P D vwCl (wR cy ad σ0) H → va_S A s.heap H locs → lv_has ls 3 [(0, .ref (ad 0)), (1, .int k_)] → W p l e R s m ([.ref (ad 0), .int k_] : List Value).toArray below meth c H locs 0 0 Z (F0 m 23 ls [.int b3]) := by
      intro b3 H locs ls hv hP hS hl
      have hv := hvr b3 hv
      refine lv_istore_n (lv' := [(2, .int b3), (0, .ref (ad 0)), (1, .int k_)]) hx hb dX9_lose_23 rfl hl (by decide) rfl (fun ls hl => ?_)
      refine lv_aload_n hx hb dX9_lose_24 rfl (lv_at hl 1 rfl) ?_
      refine va_get (ci := 9) (v := .ref (ad (24))) (C := RX9) (T := TX9) (N := 38) hx hb hts hinX9 hown hK hP 0 (wR_0 cy ad σ0) rfl 33 (by decide) (hts (.fieldLink RX9 80 "TaleBansModel" "sheetSize" "[I") (List.mem_of_getElem? (i := 1) rfl)) (fun x h => h) rfl dX9_lose_25 ?_
      refine lv_iload_n hx hb dX9_lose_28 rfl (lv_at hl 2 rfl) ?_
      refine lv_iconst (v := (-1)) hx hb dX9_lose_29 (by decide) ?_
      obtain ⟨hi, hv⟩ := hv
      refine va_iast hx hb hK hP hD hS 24 0 (wR_24 cy ad σ0) rfl hi dX9_lose_30 (fun H locs hP hD hS => ?_)
      obtain ⟨σ5, e6⟩ : ∃ y : S_, y = wr2 σ0 24 (Int32.toNatClampNeg k_) (-1) := ⟨_, rfl⟩
      have hP : va_P D vwCl (wR cy ad σ5) H := by rw [e6]; exact hP
      have hD : va_D A (wR cy ad σ5) := by rw [e6]; exact hD
      have hv := hv σ5 e6
      refine lv_iload_n hx hb dX9_lose_31 rfl (lv_at hl 0 rfl) ?_
      rw [hZ]; rw [hQ] at hv
      exact W.iret (v := b3) hx hb hr (fun t ht hW => ⟨⟨b3, σ5, rfl, hv, ⟨P_of ht hP, hD⟩⟩, hS.F ht⟩) hS.2.2 dX9_lose_32
    refine lv_if_ge (tgt := 22) hx hb dX9_lose_15 (by decide) (fun c4 => ?_) (fun c4 => ?_)
    · have hv := hv.1 c4
      refine lv_iconst (v := 1) hx hb dX9_lose_22 (by decide) ?_
      exact jn2 1 _ _ _ hv hP hS hl
    · have hv := hv.2 c4
      refine lv_iconst (v := 0) hx hb dX9_lose_18 (by decide) ?_
      refine lv_goto (tgt := 23) hx hb dX9_lose_19 (by decide) ?_
      exact jn2 0 _ _ _ hv hP hS hl
  · have hv := hv.2 c7
    refine lv_iconst (v := (-1)) hx hb dX9_lose_7 (by decide) ?_
    rw [hZ]; rw [hQ] at hv
    exact W.iret (v := (-1)) hx hb hr (fun t ht hW => ⟨⟨(-1), σ0, rfl, hv, ⟨P_of ht hP, hD⟩⟩, hS.F ht⟩) hS.2.2 dX9_lose_8
set_option maxHeartbeats 4000000 in
set_option maxRecDepth 100000 in
theorem wk_X9_put (l : Launch) (h_X9_failed : Ct_X9_failed l) (h_X9_noCell : Ct_X9_noCell l) (h_X9_noSheet : Ct_X9_noSheet l) (h_X9_refused : Ct_X9_refused l) (sp : Sp_X9_put) : Ct_X9_put l := by
  intro D cy ad A k_ i_ v_ ag σ0  hpre
  refine Met.ofW (cc := cX9_put) (maxL := 4) (ret := (some .int)) (by decide) rfl ?_
  intro p e s m args below meth c s₁ B hml hv0
  obtain ⟨rfl, hP, hK, hD, hN⟩ := hv0
  have hx := B.exec
  have hb := B.bytes
  have hr := B.returns
  have hts := atoms_spec (ws := wsX9_put) B.pre
  have hown : s.vm.findClass RX9 = some m.cls := findClass_of_methodNamed B.named
  have hlocks := B.notSynchronized
  have hv := sp k_ i_ v_ ag σ0 hpre
  have hl := lv_entry ([.ref (ad 0), .int k_, .int i_, .int v_]) (n := 4) (Nat.le_of_ble_eq_true rfl)
  rw [lg_entry_eq]
  generalize (lg_sl ([.ref (ad 0), .int k_, .int i_, .int v_]) ++ List.replicate (4 - (lg_sl ([.ref (ad 0), .int k_, .int i_, .int v_])).length) Slot.unset).toArray = ls at hl ⊢
  have hl : lv_has ls 4 [(0, .ref (ad 0)), (1, .int k_), (2, .int i_), (3, .int v_)] := hl
  refine W_gen (fun R Z H locs hR hZ hH hlo => ?_)
  have hRf : R.frames = 2 := by rw [hR]; rfl
  have hRl : R.locals = 47 := by rw [hR]; rfl
  have hRc : R.cells = 0 := by rw [hR]; rfl
  have hRs : R.slots = 0 := by rw [hR]; rfl
  have hS : va_S A s.heap H locs := by rw [hH, hlo]; exact va_S.rf
  rw [← hH] at hP
  obtain ⟨Q, hQ⟩ : ∃ q : Int32 → S_ → Prop, q = (post_X9_put k_ i_ v_ ag σ0) := ⟨_, rfl⟩
  rw [← hQ] at hv
  have hinX9 : ∀ w ∈ wsX90, w ∈ wsX9_put := by decide +kernel
  refine lv_iload_n hx hb dX9_put_0 rfl (lv_at hl 1 rfl) ?_
  refine k_pure_i (va_runS (As := [.int k_]) (rest := []) ⟨hx, hb, hml, hown, hts⟩ (h_X9_noSheet k_) (va_cwS 1 hts gX9_put_X9_noSheet rfl rfl rfl (by decide +kernel) ⟨le_R hRf (Nat.le_of_ble_eq_true rfl), le_R hRl (Nat.le_of_ble_eq_true rfl)⟩) ⟨(fun a U g mk q => ⟨q.1, trivial⟩), (fun U hU hW => ⟨rfl, trivial⟩)⟩ rfl rfl hl.1 rfl (lv_room (Nat.le_of_ble_eq_true rfl)) dX9_put_1 ⟨le_R hRc (Nat.le_refl 0), le_R hRs (Nat.le_refl 0)⟩) hS hP (fun r H locs hr1 hP hS => ?_)
  subst hr1
  refine lv_if_eq (tgt := 13) hx hb dX9_put_4 (by decide) (fun c21 => ?_) (fun c21 => ?_)
  · have hv := hv.1 c21
    refine lv_aload_n hx hb dX9_put_13 rfl (lv_at hl 0 rfl) ?_
    refine lv_iload_n hx hb dX9_put_14 rfl (lv_at hl 1 rfl) ?_
    refine lv_iload_n hx hb dX9_put_15 rfl (lv_at hl 2 rfl) ?_
    obtain ⟨g1, g2, hv⟩ := hv
    obtain ⟨hp, hv⟩ := hv
    refine k_read_i (w := wR cy ad) (va_runV (As := [.int k_, .int i_]) (rest := []) ⟨hx, hb, hml, hown, hts⟩ (h_X9_noCell D cy ad A k_ i_ g1 g2 σ0 hp) (cwV 2 hts gX9_put_X9_noCell rfl rfl rfl (by decide +kernel) ⟨le_R hRf (Nat.le_of_ble_eq_true rfl), le_R hRl (Nat.le_of_ble_eq_true rfl)⟩) ⟨(fun a U g mk q => ⟨q.1, q.2.blind⟩), va_recv hK hP (ci := 9) (q0 := 0) rfl (wR_0 cy ad σ0), (fun U hU hW => ⟨rfl, WdR.pre hP hK hD hN hU hW⟩)⟩ rfl rfl hl.1 rfl (lv_room (Nat.le_of_ble_eq_true rfl)) dX9_put_16 ⟨le_R hRc (Nat.le_refl 0), le_R hRs (Nat.le_refl 0)⟩) hS (fun r3 H locs hr1 hP hS => ?_)
    have hv := hv r3 hr1
    refine lv_if_le (tgt := 33) hx hb dX9_put_19 (by decide) (fun c18 => ?_) (fun c18 => ?_)
    · have hv := hv.1 c18
      refine lv_aload_n hx hb dX9_put_33 rfl (lv_at hl 0 rfl) ?_
      refine va_get (ci := 9) (v := .ref (ad (26))) (C := RX9) (T := TX9) (N := 38) hx hb hts hinX9 hown hK hP 0 (wR_0 cy ad σ0) rfl 35 (by decide) (hts (.fieldLink RX9 86 "TaleBansModel" "sheet" "[I") (List.mem_of_getElem? (i := 1) rfl)) (fun x h => h) rfl dX9_put_34 ?_
      refine lv_bipush (v := 60) hx hb dX9_put_37 (by decide) ?_
      refine lv_iload_n hx hb dX9_put_39 rfl (lv_at hl 1 rfl) ?_
      refine lv_imul hx hb dX9_put_40 ?_
      refine lv_iload_n hx hb dX9_put_41 rfl (lv_at hl 2 rfl) ?_
      refine lv_iadd hx hb dX9_put_42 ?_
      refine lv_aload_n hx hb dX9_put_43 rfl (lv_at hl 0 rfl) ?_
      refine va_get (ci := 9) (v := .ref (ad (25))) (C := RX9) (T := TX9) (N := 38) hx hb hts hinX9 hown hK hP 0 (wR_0 cy ad σ0) rfl 34 (by decide) (hts (.fieldLink RX9 83 "TaleBansModel" "sheetLane" "[I") (List.mem_of_getElem? (i := 2) rfl)) (fun x h => h) rfl dX9_put_44 ?_
      refine lv_iload_n hx hb dX9_put_47 rfl (lv_at hl 1 rfl) ?_
      obtain ⟨hi, hv⟩ := hv
      refine va_iald hx hb hK hP 25 0 (wR_25 cy ad σ0) rfl hi dX9_put_48 ?_
      obtain ⟨P4, hv, hvr⟩ := hv
      have jn5 : ∀ (b6 : Int32) (H : Heap) (locs : List Loc) (ls : Array Slot), P4 b6 → va_P D vwCl (wR cy ad σ0) H → va_S A s.heap H locs → lv_has ls 4 [(0, .ref (ad 0)), (1, .int k_), (2, .int i_), (3, .int v_)] → W p l e R s m ([.ref (ad 0), .int k_, .int i_, .int v_] : List Value).toArray below meth c H locs 0 0 Z (F0 m 73 ls [.int b6, .int ((60 * k_) + i_), .ref (ad (26))]) := by
        intro b6 H locs ls hv hP hS hl
        have hv := hvr b6 hv
        obtain ⟨hi, hv⟩ := hv
        refine va_iast hx hb hK hP hD hS 26 0 (wR_26 cy ad σ0) rfl hi dX9_put_73 (fun H locs hP hD hS => ?_)
        obtain ⟨σ9, e10⟩ : ∃ y : S_, y = wr2 σ0 26 (Int32.toNatClampNeg ((60 * k_) + i_)) b6 := ⟨_, rfl⟩
        have hP : va_P D vwCl (wR cy ad σ9) H := by rw [e10]; exact hP
        have hD : va_D A (wR cy ad σ9) := by rw [e10]; exact hD
        have hv := hv σ9 e10
        refine lv_aload_n hx hb dX9_put_74 rfl (lv_at hl 0 rfl) ?_
        refine lv_iconst (v := 1) hx hb dX9_put_75 (by decide) ?_
        have hp := True.intro
        refine k_rel_i (w := wR cy ad) (va_runV (As := [.int 1]) (rest := []) ⟨hx, hb, hml, hown, hts⟩ (h_X9_refused D cy ad A 1 σ9 hp) (cwV 1 hts gX9_put_X9_refused rfl rfl rfl (by decide +kernel) ⟨le_R hRf (Nat.le_of_ble_eq_true rfl), le_R hRl (Nat.le_of_ble_eq_true rfl)⟩) ⟨(fun a U g mk q => ⟨q.1, q.2.blind⟩), va_recv hK hP (ci := 9) (q0 := 0) rfl (wR_0 cy ad σ9), (fun U hU hW => ⟨rfl, WdR.pre hP hK hD hN hU hW⟩)⟩ rfl rfl hl.1 rfl (lv_room (Nat.le_of_ble_eq_true rfl)) dX9_put_76 ⟨le_R hRc (Nat.le_refl 0), le_R hRs (Nat.le_refl 0)⟩) hS (fun r12 σ11 H locs hr1 hP hD hS => ?_)
        have hv := hv r12 σ11 hr1
        rw [hZ]; rw [hQ] at hv
        exact W.iret (v := r12) hx hb hr (fun t ht hW => ⟨⟨r12, σ11, rfl, hv, ⟨P_of ht hP, hD⟩⟩, hS.F ht⟩) hS.2.2 dX9_put_79
      refine lv_if_ne (tgt := 57) hx hb dX9_put_49 (by decide) (fun c8 => ?_) (fun c8 => ?_)
      · have hv := hv.1 c8
        refine lv_aload_n hx hb dX9_put_57 rfl (lv_at hl 0 rfl) ?_
        refine va_get (ci := 9) (v := .ref (ad (25))) (C := RX9) (T := TX9) (N := 38) hx hb hts hinX9 hown hK hP 0 (wR_0 cy ad σ0) rfl 34 (by decide) (hts (.fieldLink RX9 83 "TaleBansModel" "sheetLane" "[I") (List.mem_of_getElem? (i := 2) rfl)) (fun x h => h) rfl dX9_put_58 ?_
        refine lv_iload_n hx hb dX9_put_61 rfl (lv_at hl 1 rfl) ?_
        obtain ⟨hi, hv⟩ := hv
        refine va_iald hx hb hK hP 25 0 (wR_25 cy ad σ0) rfl hi dX9_put_62 ?_
        refine lv_iconst (v := 1) hx hb dX9_put_63 (by decide) ?_
        refine lv_icmp_ne (tgt := 72) hx hb dX9_put_64 (by decide) (fun c7 => ?_) (fun c7 => ?_)
        · have hv := hv.1 c7
          refine lv_iload_n hx hb dX9_put_72 rfl (lv_at hl 3 rfl) ?_
          exact jn5 v_ _ _ _ hv hP hS hl
        · have hv := hv.2 c7
          refine lv_iload_n hx hb dX9_put_67 rfl (lv_at hl 3 rfl) ?_
          refine lv_i2s hx hb dX9_put_68 rfl ?_
          refine lv_goto (tgt := 73) hx hb dX9_put_69 (by decide) ?_
          exact jn5 (Int16.toInt32 (Int32.toInt16 v_)) _ _ _ hv hP hS hl
      · have hv := hv.2 c8
        refine lv_iload_n hx hb dX9_put_52 rfl (lv_at hl 3 rfl) ?_
        refine lv_i2b hx hb dX9_put_53 rfl ?_
        refine lv_goto (tgt := 73) hx hb dX9_put_54 (by decide) ?_
        exact jn5 (Int8.toInt32 (Int32.toInt8 v_)) _ _ _ hv hP hS hl
    · have hv := hv.2 c18
      refine lv_aload_n hx hb dX9_put_22 rfl (lv_at hl 0 rfl) ?_
      refine lv_aload_n hx hb dX9_put_23 rfl (lv_at hl 0 rfl) ?_
      refine lv_iload_n hx hb dX9_put_24 rfl (lv_at hl 1 rfl) ?_
      refine lv_iload_n hx hb dX9_put_25 rfl (lv_at hl 2 rfl) ?_
      obtain ⟨g13, g14, hv⟩ := hv
      obtain ⟨hp, hv⟩ := hv
      refine k_read_i (w := wR cy ad) (va_runV (As := [.int k_, .int i_]) (rest := [.ref (ad 0)]) ⟨hx, hb, hml, hown, hts⟩ (h_X9_noCell D cy ad A k_ i_ g13 g14 σ0 hp) (cwV 2 hts gX9_put_X9_noCell rfl rfl rfl (by decide +kernel) ⟨le_R hRf (Nat.le_of_ble_eq_true rfl), le_R hRl (Nat.le_of_ble_eq_true rfl)⟩) ⟨(fun a U g mk q => ⟨q.1, q.2.blind⟩), va_recv hK hP (ci := 9) (q0 := 0) rfl (wR_0 cy ad σ0), (fun U hU hW => ⟨rfl, WdR.pre hP hK hD hN hU hW⟩)⟩ rfl rfl hl.1 rfl (lv_room (Nat.le_of_ble_eq_true rfl)) dX9_put_26 ⟨le_R hRc (Nat.le_refl 0), le_R hRs (Nat.le_refl 0)⟩) hS (fun r15 H locs hr1 hP hS => ?_)
      have hv := hv r15 hr1
      have hp := True.intro
      refine k_rel_i (w := wR cy ad) (va_runV (As := [.int r15]) (rest := []) ⟨hx, hb, hml, hown, hts⟩ (h_X9_failed D cy ad A r15 σ0 hp) (cwV 1 hts gX9_put_X9_failed rfl rfl rfl (by decide +kernel) ⟨le_R hRf (Nat.le_of_ble_eq_true rfl), le_R hRl (Nat.le_of_ble_eq_true rfl)⟩) ⟨(fun a U g mk q => ⟨q.1, q.2.blind⟩), va_recv hK hP (ci := 9) (q0 := 0) rfl (wR_0 cy ad σ0), (fun U hU hW => ⟨rfl, WdR.pre hP hK hD hN hU hW⟩)⟩ rfl rfl hl.1 rfl (lv_room (Nat.le_of_ble_eq_true rfl)) dX9_put_29 ⟨le_R hRc (Nat.le_refl 0), le_R hRs (Nat.le_refl 0)⟩) hS (fun r17 σ16 H locs hr1 hP hD hS => ?_)
      have hv := hv r17 σ16 hr1
      rw [hZ]; rw [hQ] at hv
      exact W.iret (v := r17) hx hb hr (fun t ht hW => ⟨⟨r17, σ16, rfl, hv, ⟨P_of ht hP, hD⟩⟩, hS.F ht⟩) hS.2.2 dX9_put_32
  · have hv := hv.2 c21
    refine lv_aload_n hx hb dX9_put_7 rfl (lv_at hl 0 rfl) ?_
    refine lv_iconst (v := (-1)) hx hb dX9_put_8 (by decide) ?_
    have hp := True.intro
    refine k_rel_i (w := wR cy ad) (va_runV (As := [.int (-1)]) (rest := []) ⟨hx, hb, hml, hown, hts⟩ (h_X9_refused D cy ad A (-1) σ0 hp) (cwV 1 hts gX9_put_X9_refused rfl rfl rfl (by decide +kernel) ⟨le_R hRf (Nat.le_of_ble_eq_true rfl), le_R hRl (Nat.le_of_ble_eq_true rfl)⟩) ⟨(fun a U g mk q => ⟨q.1, q.2.blind⟩), va_recv hK hP (ci := 9) (q0 := 0) rfl (wR_0 cy ad σ0), (fun U hU hW => ⟨rfl, WdR.pre hP hK hD hN hU hW⟩)⟩ rfl rfl hl.1 rfl (lv_room (Nat.le_of_ble_eq_true rfl)) dX9_put_9 ⟨le_R hRc (Nat.le_refl 0), le_R hRs (Nat.le_refl 0)⟩) hS (fun r20 σ19 H locs hr1 hP hD hS => ?_)
    have hv := hv r20 σ19 hr1
    rw [hZ]; rw [hQ] at hv
    exact W.iret (v := r20) hx hb hr (fun t ht hW => ⟨⟨r20, σ19, rfl, hv, ⟨P_of ht hP, hD⟩⟩, hS.F ht⟩) hS.2.2 dX9_put_12
set_option maxHeartbeats 4000000 in
set_option maxRecDepth 100000 in
theorem wk_X9_cell (l : Launch) (h_X9_failedLong : Ct_X9_failedLong l) (h_X9_in : Ct_X9_in l) (h_X9_lost : Ct_X9_lost l) (h_X9_noCell : Ct_X9_noCell l) (h_X9_noSheet : Ct_X9_noSheet l) (sp : Sp_X9_cell) : Ct_X9_cell l := by
  intro D cy ad A k_ i_ lane_ ag σ0  hpre
  refine Met.ofW (cc := cX9_cell) (maxL := 4) (ret := (some .long)) (by decide) rfl ?_
  intro p e s m args below meth c s₁ B hml hv0
  obtain ⟨rfl, hP, hK, hD, hN⟩ := hv0
  have hx := B.exec
  have hb := B.bytes
  have hr := B.returns
  have hts := atoms_spec (ws := wsX9_cell) B.pre
  have hown : s.vm.findClass RX9 = some m.cls := findClass_of_methodNamed B.named
  have hlocks := B.notSynchronized
  have hv := sp k_ i_ lane_ ag σ0 hpre
  have hl := lv_entry ([.ref (ad 0), .int k_, .int i_, .int lane_]) (n := 4) (Nat.le_of_ble_eq_true rfl)
  rw [lg_entry_eq]
  generalize (lg_sl ([.ref (ad 0), .int k_, .int i_, .int lane_]) ++ List.replicate (4 - (lg_sl ([.ref (ad 0), .int k_, .int i_, .int lane_])).length) Slot.unset).toArray = ls at hl ⊢
  have hl : lv_has ls 4 [(0, .ref (ad 0)), (1, .int k_), (2, .int i_), (3, .int lane_)] := hl
  refine W_gen (fun R Z H locs hR hZ hH hlo => ?_)
  have hRf : R.frames = 2 := by rw [hR]; rfl
  have hRl : R.locals = 47 := by rw [hR]; rfl
  have hRc : R.cells = 0 := by rw [hR]; rfl
  have hRs : R.slots = 0 := by rw [hR]; rfl
  have hS : va_S A s.heap H locs := by rw [hH, hlo]; exact va_S.rf
  rw [← hH] at hP
  obtain ⟨Q, hQ⟩ : ∃ q : Int64 → S_ → Prop, q = (post_X9_cell k_ i_ lane_ ag σ0) := ⟨_, rfl⟩
  rw [← hQ] at hv
  have hinX9 : ∀ w ∈ wsX90, w ∈ wsX9_cell := by decide +kernel
  refine lv_aload_n hx hb dX9_cell_0 rfl (lv_at hl 0 rfl) ?_
  refine lv_iconst (v := 0) hx hb dX9_cell_1 (by decide) ?_
  refine va_put (ci := 9) (v := .int 0) (ty := .int) (C := RX9) (T := TX9) (N := 38) hx hb hts hinX9 tyX9 tyX9_ok nmX9 hown hK hP hD hS 0 (wR_0 cy ad σ0) rfl 0 (by decide) (hts (.fieldLink RX9 94 "TaleBansModel" "fault" "I") (List.mem_of_getElem? (i := 1) rfl)) (fun x h => h) rfl (by decide +kernel) rfl rfl (Nat.le_of_ble_eq_true rfl) dX9_cell_2 (fun H locs hP hD hS => ?_)
  obtain ⟨σ1, e2⟩ : ∃ y : S_, y = wrI σ0 0 0 := ⟨_, rfl⟩
  have hP : va_P D vwCl (wR cy ad σ1) H := by rw [e2]; exact hP
  have hD : va_D A (wR cy ad σ1) := by rw [e2]; exact hD
  have hv := hv σ1 e2
  refine lv_iload_n hx hb dX9_cell_5 rfl (lv_at hl 1 rfl) ?_
  refine k_pure_i (va_runS (As := [.int k_]) (rest := []) ⟨hx, hb, hml, hown, hts⟩ (h_X9_noSheet k_) (va_cwS 1 hts gX9_cell_X9_noSheet rfl rfl rfl (by decide +kernel) ⟨le_R hRf (Nat.le_of_ble_eq_true rfl), le_R hRl (Nat.le_of_ble_eq_true rfl)⟩) ⟨(fun a U g mk q => ⟨q.1, trivial⟩), (fun U hU hW => ⟨rfl, trivial⟩)⟩ rfl rfl hl.1 rfl (lv_room (Nat.le_of_ble_eq_true rfl)) dX9_cell_6 ⟨le_R hRc (Nat.le_refl 0), le_R hRs (Nat.le_refl 0)⟩) hS hP (fun r H locs hr1 hP hS => ?_)
  subst hr1
  refine lv_if_ne (tgt := 24) hx hb dX9_cell_9 (by decide) (fun c26 => ?_) (fun c26 => ?_)
  · have hv := hv.1 c26
    refine k_pure_l (va_runS (As := []) (rest := []) ⟨hx, hb, hml, hown, hts⟩ (h_X9_lost ) (va_cwS 0 hts gX9_cell_X9_lost rfl rfl rfl (by decide +kernel) ⟨le_R hRf (Nat.le_of_ble_eq_true rfl), le_R hRl (Nat.le_of_ble_eq_true rfl)⟩) ⟨(fun a U g mk q => ⟨q.1, trivial⟩), (fun U hU hW => ⟨rfl, trivial⟩)⟩ rfl rfl hl.1 rfl (lv_room (Nat.le_of_ble_eq_true rfl)) dX9_cell_24 ⟨le_R hRc (Nat.le_refl 0), le_R hRs (Nat.le_refl 0)⟩) hS hP (fun r H locs hr1 hP hS => ?_)
    subst hr1
    rw [hZ]; rw [hQ] at hv
    exact W.lret (v := fn_X9_lost) hx hb hr (fun t ht hW => ⟨⟨fn_X9_lost, σ1, rfl, hv, ⟨P_of ht hP, hD⟩⟩, hS.F ht⟩) hS.2.2 dX9_cell_27
  · have hv := hv.2 c26
    refine lv_iload_n hx hb dX9_cell_12 rfl (lv_at hl 3 rfl) ?_
    refine lv_i2l hx hb dX9_cell_13 rfl ?_
    refine lv_lconst (v := 0) hx hb dX9_cell_14 rfl ?_
    refine lv_ldc2 (v := (2)) hx hb hown (hts (.constantLong RX9 114 (2)) (List.mem_of_getElem? (i := 2) rfl)) dX9_cell_15 ?_
    refine k_pure_i (va_runS (As := [.long (Int32.toInt64 lane_), .long 0, .long (2)]) (rest := []) ⟨hx, hb, hml, hown, hts⟩ (h_X9_in (Int32.toInt64 lane_) 0 (2)) (va_cwS 3 hts gX9_cell_X9_in rfl rfl rfl (by decide +kernel) ⟨le_R hRf (Nat.le_of_ble_eq_true rfl), le_R hRl (Nat.le_of_ble_eq_true rfl)⟩) ⟨(fun a U g mk q => ⟨q.1, trivial⟩), (fun U hU hW => ⟨rfl, trivial⟩)⟩ rfl rfl hl.1 rfl (lv_room (Nat.le_of_ble_eq_true rfl)) dX9_cell_18 ⟨le_R hRc (Nat.le_refl 0), le_R hRs (Nat.le_refl 0)⟩) hS hP (fun r H locs hr1 hP hS => ?_)
    subst hr1
    refine lv_if_ne (tgt := 28) hx hb dX9_cell_21 (by decide) (fun c25 => ?_) (fun c25 => ?_)
    · have hv := hv.1 c25
      refine lv_aload_n hx hb dX9_cell_28 rfl (lv_at hl 0 rfl) ?_
      refine va_get (ci := 9) (v := .ref (ad (24))) (C := RX9) (T := TX9) (N := 38) hx hb hts hinX9 hown hK hP 0 (wR_0 cy ad σ1) rfl 33 (by decide) (hts (.fieldLink RX9 80 "TaleBansModel" "sheetSize" "[I") (List.mem_of_getElem? (i := 3) rfl)) (fun x h => h) rfl dX9_cell_29 ?_
      refine lv_iload_n hx hb dX9_cell_32 rfl (lv_at hl 1 rfl) ?_
      obtain ⟨hi, hv⟩ := hv
      refine va_iald hx hb hK hP 24 0 (wR_24 cy ad σ1) rfl hi dX9_cell_33 ?_
      refine lv_if_lt (tgt := 53) hx hb dX9_cell_34 (by decide) (fun c24 => ?_) (fun c24 => ?_)
      · have hv := hv.1 c24
        refine lv_aload_n hx hb dX9_cell_53 rfl (lv_at hl 0 rfl) ?_
        refine lv_iload_n hx hb dX9_cell_54 rfl (lv_at hl 1 rfl) ?_
        refine lv_iload_n hx hb dX9_cell_55 rfl (lv_at hl 2 rfl) ?_
        obtain ⟨g3, g4, hv⟩ := hv
        obtain ⟨hp, hv⟩ := hv
        refine k_read_i (w := wR cy ad) (va_runV (As := [.int k_, .int i_]) (rest := []) ⟨hx, hb, hml, hown, hts⟩ (h_X9_noCell D cy ad A k_ i_ g3 g4 σ1 hp) (cwV 2 hts gX9_cell_X9_noCell rfl rfl rfl (by decide +kernel) ⟨le_R hRf (Nat.le_of_ble_eq_true rfl), le_R hRl (Nat.le_of_ble_eq_true rfl)⟩) ⟨(fun a U g mk q => ⟨q.1, q.2.blind⟩), va_recv hK hP (ci := 9) (q0 := 0) rfl (wR_0 cy ad σ1), (fun U hU hW => ⟨rfl, WdR.pre hP hK hD hN hU hW⟩)⟩ rfl rfl hl.1 rfl (lv_room (Nat.le_of_ble_eq_true rfl)) dX9_cell_56 ⟨le_R hRc (Nat.le_refl 0), le_R hRs (Nat.le_refl 0)⟩) hS (fun r5 H locs hr1 hP hS => ?_)
        have hv := hv r5 hr1
        refine lv_if_le (tgt := 75) hx hb dX9_cell_59 (by decide) (fun c11 => ?_) (fun c11 => ?_)
        · have hv := hv.1 c11
          refine lv_aload_n hx hb dX9_cell_75 rfl (lv_at hl 0 rfl) ?_
          refine va_get (ci := 9) (v := .ref (ad (26))) (C := RX9) (T := TX9) (N := 38) hx hb hts hinX9 hown hK hP 0 (wR_0 cy ad σ1) rfl 35 (by decide) (hts (.fieldLink RX9 86 "TaleBansModel" "sheet" "[I") (List.mem_of_getElem? (i := 5) rfl)) (fun x h => h) rfl dX9_cell_76 ?_
          refine lv_bipush (v := 60) hx hb dX9_cell_79 (by decide) ?_
          refine lv_iload_n hx hb dX9_cell_81 rfl (lv_at hl 1 rfl) ?_
          refine lv_imul hx hb dX9_cell_82 ?_
          refine lv_iload_n hx hb dX9_cell_83 rfl (lv_at hl 2 rfl) ?_
          refine lv_iadd hx hb dX9_cell_84 ?_
          obtain ⟨hi, hv⟩ := hv
          refine va_iald hx hb hK hP 26 0 (wR_26 cy ad σ1) rfl hi dX9_cell_85 ?_
          refine lv_i2l hx hb dX9_cell_86 rfl ?_
          rw [hZ]; rw [hQ] at hv
          exact W.lret (v := (Int32.toInt64 (rdA σ1 26 (Int32.toNatClampNeg ((60 * k_) + i_))))) hx hb hr (fun t ht hW => ⟨⟨(Int32.toInt64 (rdA σ1 26 (Int32.toNatClampNeg ((60 * k_) + i_)))), σ1, rfl, hv, ⟨P_of ht hP, hD⟩⟩, hS.F ht⟩) hS.2.2 dX9_cell_87
        · have hv := hv.2 c11
          refine lv_aload_n hx hb dX9_cell_62 rfl (lv_at hl 0 rfl) ?_
          refine lv_aload_n hx hb dX9_cell_63 rfl (lv_at hl 0 rfl) ?_
          refine lv_iload_n hx hb dX9_cell_64 rfl (lv_at hl 1 rfl) ?_
          refine lv_iload_n hx hb dX9_cell_65 rfl (lv_at hl 2 rfl) ?_
          obtain ⟨g6, g7, hv⟩ := hv
          obtain ⟨hp, hv⟩ := hv
          refine k_read_i (w := wR cy ad) (va_runV (As := [.int k_, .int i_]) (rest := [.ref (ad 0)]) ⟨hx, hb, hml, hown, hts⟩ (h_X9_noCell D cy ad A k_ i_ g6 g7 σ1 hp) (cwV 2 hts gX9_cell_X9_noCell rfl rfl rfl (by decide +kernel) ⟨le_R hRf (Nat.le_of_ble_eq_true rfl), le_R hRl (Nat.le_of_ble_eq_true rfl)⟩) ⟨(fun a U g mk q => ⟨q.1, q.2.blind⟩), va_recv hK hP (ci := 9) (q0 := 0) rfl (wR_0 cy ad σ1), (fun U hU hW => ⟨rfl, WdR.pre hP hK hD hN hU hW⟩)⟩ rfl rfl hl.1 rfl (lv_room (Nat.le_of_ble_eq_true rfl)) dX9_cell_66 ⟨le_R hRc (Nat.le_refl 0), le_R hRs (Nat.le_refl 0)⟩) hS (fun r8 H locs hr1 hP hS => ?_)
          have hv := hv r8 hr1
          have hp := True.intro
          refine k_rel_l (w := wR cy ad) (va_runV (As := [.int r8]) (rest := []) ⟨hx, hb, hml, hown, hts⟩ (h_X9_failedLong D cy ad A r8 σ1 hp) (cwV 1 hts gX9_cell_X9_failedLong rfl rfl rfl (by decide +kernel) ⟨le_R hRf (Nat.le_of_ble_eq_true rfl), le_R hRl (Nat.le_of_ble_eq_true rfl)⟩) ⟨(fun a U g mk q => ⟨q.1, q.2.blind⟩), va_recv hK hP (ci := 9) (q0 := 0) rfl (wR_0 cy ad σ1), (fun U hU hW => ⟨rfl, WdR.pre hP hK hD hN hU hW⟩)⟩ rfl rfl hl.1 rfl (lv_room (Nat.le_of_ble_eq_true rfl)) dX9_cell_69 ⟨le_R hRc (Nat.le_refl 0), le_R hRs (Nat.le_refl 0)⟩) hS (fun r10 σ9 H locs hr1 hP hD hS => ?_)
          have hv := hv r10 σ9 hr1
          refine lv_goto (tgt := 87) hx hb dX9_cell_72 (by decide) ?_
          rw [hZ]; rw [hQ] at hv
          exact W.lret (v := r10) hx hb hr (fun t ht hW => ⟨⟨r10, σ9, rfl, hv, ⟨P_of ht hP, hD⟩⟩, hS.F ht⟩) hS.2.2 dX9_cell_87
      · have hv := hv.2 c24
        refine lv_aload_n hx hb dX9_cell_37 rfl (lv_at hl 0 rfl) ?_
        refine va_get (ci := 9) (v := .ref (ad (25))) (C := RX9) (T := TX9) (N := 38) hx hb hts hinX9 hown hK hP 0 (wR_0 cy ad σ1) rfl 34 (by decide) (hts (.fieldLink RX9 83 "TaleBansModel" "sheetLane" "[I") (List.mem_of_getElem? (i := 4) rfl)) (fun x h => h) rfl dX9_cell_38 ?_
        refine lv_iload_n hx hb dX9_cell_41 rfl (lv_at hl 1 rfl) ?_
        obtain ⟨hi, hv⟩ := hv
        refine va_iald hx hb hK hP 25 0 (wR_25 cy ad σ1) rfl hi dX9_cell_42 ?_
        refine lv_iload_n hx hb dX9_cell_43 rfl (lv_at hl 3 rfl) ?_
        refine lv_icmp_eq (tgt := 53) hx hb dX9_cell_44 (by decide) (fun c23 => ?_) (fun c23 => ?_)
        · have hv := hv.1 c23
          refine lv_aload_n hx hb dX9_cell_53 rfl (lv_at hl 0 rfl) ?_
          refine lv_iload_n hx hb dX9_cell_54 rfl (lv_at hl 1 rfl) ?_
          refine lv_iload_n hx hb dX9_cell_55 rfl (lv_at hl 2 rfl) ?_
          obtain ⟨g12, g13, hv⟩ := hv
          obtain ⟨hp, hv⟩ := hv
          refine k_read_i (w := wR cy ad) (va_runV (As := [.int k_, .int i_]) (rest := []) ⟨hx, hb, hml, hown, hts⟩ (h_X9_noCell D cy ad A k_ i_ g12 g13 σ1 hp) (cwV 2 hts gX9_cell_X9_noCell rfl rfl rfl (by decide +kernel) ⟨le_R hRf (Nat.le_of_ble_eq_true rfl), le_R hRl (Nat.le_of_ble_eq_true rfl)⟩) ⟨(fun a U g mk q => ⟨q.1, q.2.blind⟩), va_recv hK hP (ci := 9) (q0 := 0) rfl (wR_0 cy ad σ1), (fun U hU hW => ⟨rfl, WdR.pre hP hK hD hN hU hW⟩)⟩ rfl rfl hl.1 rfl (lv_room (Nat.le_of_ble_eq_true rfl)) dX9_cell_56 ⟨le_R hRc (Nat.le_refl 0), le_R hRs (Nat.le_refl 0)⟩) hS (fun r14 H locs hr1 hP hS => ?_)
          have hv := hv r14 hr1
          refine lv_if_le (tgt := 75) hx hb dX9_cell_59 (by decide) (fun c20 => ?_) (fun c20 => ?_)
          · have hv := hv.1 c20
            refine lv_aload_n hx hb dX9_cell_75 rfl (lv_at hl 0 rfl) ?_
            refine va_get (ci := 9) (v := .ref (ad (26))) (C := RX9) (T := TX9) (N := 38) hx hb hts hinX9 hown hK hP 0 (wR_0 cy ad σ1) rfl 35 (by decide) (hts (.fieldLink RX9 86 "TaleBansModel" "sheet" "[I") (List.mem_of_getElem? (i := 5) rfl)) (fun x h => h) rfl dX9_cell_76 ?_
            refine lv_bipush (v := 60) hx hb dX9_cell_79 (by decide) ?_
            refine lv_iload_n hx hb dX9_cell_81 rfl (lv_at hl 1 rfl) ?_
            refine lv_imul hx hb dX9_cell_82 ?_
            refine lv_iload_n hx hb dX9_cell_83 rfl (lv_at hl 2 rfl) ?_
            refine lv_iadd hx hb dX9_cell_84 ?_
            obtain ⟨hi, hv⟩ := hv
            refine va_iald hx hb hK hP 26 0 (wR_26 cy ad σ1) rfl hi dX9_cell_85 ?_
            refine lv_i2l hx hb dX9_cell_86 rfl ?_
            rw [hZ]; rw [hQ] at hv
            exact W.lret (v := (Int32.toInt64 (rdA σ1 26 (Int32.toNatClampNeg ((60 * k_) + i_))))) hx hb hr (fun t ht hW => ⟨⟨(Int32.toInt64 (rdA σ1 26 (Int32.toNatClampNeg ((60 * k_) + i_)))), σ1, rfl, hv, ⟨P_of ht hP, hD⟩⟩, hS.F ht⟩) hS.2.2 dX9_cell_87
          · have hv := hv.2 c20
            refine lv_aload_n hx hb dX9_cell_62 rfl (lv_at hl 0 rfl) ?_
            refine lv_aload_n hx hb dX9_cell_63 rfl (lv_at hl 0 rfl) ?_
            refine lv_iload_n hx hb dX9_cell_64 rfl (lv_at hl 1 rfl) ?_
            refine lv_iload_n hx hb dX9_cell_65 rfl (lv_at hl 2 rfl) ?_
            obtain ⟨g15, g16, hv⟩ := hv
            obtain ⟨hp, hv⟩ := hv
            refine k_read_i (w := wR cy ad) (va_runV (As := [.int k_, .int i_]) (rest := [.ref (ad 0)]) ⟨hx, hb, hml, hown, hts⟩ (h_X9_noCell D cy ad A k_ i_ g15 g16 σ1 hp) (cwV 2 hts gX9_cell_X9_noCell rfl rfl rfl (by decide +kernel) ⟨le_R hRf (Nat.le_of_ble_eq_true rfl), le_R hRl (Nat.le_of_ble_eq_true rfl)⟩) ⟨(fun a U g mk q => ⟨q.1, q.2.blind⟩), va_recv hK hP (ci := 9) (q0 := 0) rfl (wR_0 cy ad σ1), (fun U hU hW => ⟨rfl, WdR.pre hP hK hD hN hU hW⟩)⟩ rfl rfl hl.1 rfl (lv_room (Nat.le_of_ble_eq_true rfl)) dX9_cell_66 ⟨le_R hRc (Nat.le_refl 0), le_R hRs (Nat.le_refl 0)⟩) hS (fun r17 H locs hr1 hP hS => ?_)
            have hv := hv r17 hr1
            have hp := True.intro
            refine k_rel_l (w := wR cy ad) (va_runV (As := [.int r17]) (rest := []) ⟨hx, hb, hml, hown, hts⟩ (h_X9_failedLong D cy ad A r17 σ1 hp) (cwV 1 hts gX9_cell_X9_failedLong rfl rfl rfl (by decide +kernel) ⟨le_R hRf (Nat.le_of_ble_eq_true rfl), le_R hRl (Nat.le_of_ble_eq_true rfl)⟩) ⟨(fun a U g mk q => ⟨q.1, q.2.blind⟩), va_recv hK hP (ci := 9) (q0 := 0) rfl (wR_0 cy ad σ1), (fun U hU hW => ⟨rfl, WdR.pre hP hK hD hN hU hW⟩)⟩ rfl rfl hl.1 rfl (lv_room (Nat.le_of_ble_eq_true rfl)) dX9_cell_69 ⟨le_R hRc (Nat.le_refl 0), le_R hRs (Nat.le_refl 0)⟩) hS (fun r19 σ18 H locs hr1 hP hD hS => ?_)
            have hv := hv r19 σ18 hr1
            refine lv_goto (tgt := 87) hx hb dX9_cell_72 (by decide) ?_
            rw [hZ]; rw [hQ] at hv
            exact W.lret (v := r19) hx hb hr (fun t ht hW => ⟨⟨r19, σ18, rfl, hv, ⟨P_of ht hP, hD⟩⟩, hS.F ht⟩) hS.2.2 dX9_cell_87
        · have hv := hv.2 c23
          refine lv_aload_n hx hb dX9_cell_47 rfl (lv_at hl 0 rfl) ?_
          refine lv_iconst (v := 2) hx hb dX9_cell_48 (by decide) ?_
          have hp := True.intro
          refine k_rel_l (w := wR cy ad) (va_runV (As := [.int 2]) (rest := []) ⟨hx, hb, hml, hown, hts⟩ (h_X9_failedLong D cy ad A 2 σ1 hp) (cwV 1 hts gX9_cell_X9_failedLong rfl rfl rfl (by decide +kernel) ⟨le_R hRf (Nat.le_of_ble_eq_true rfl), le_R hRl (Nat.le_of_ble_eq_true rfl)⟩) ⟨(fun a U g mk q => ⟨q.1, q.2.blind⟩), va_recv hK hP (ci := 9) (q0 := 0) rfl (wR_0 cy ad σ1), (fun U hU hW => ⟨rfl, WdR.pre hP hK hD hN hU hW⟩)⟩ rfl rfl hl.1 rfl (lv_room (Nat.le_of_ble_eq_true rfl)) dX9_cell_49 ⟨le_R hRc (Nat.le_refl 0), le_R hRs (Nat.le_refl 0)⟩) hS (fun r22 σ21 H locs hr1 hP hD hS => ?_)
          have hv := hv r22 σ21 hr1
          rw [hZ]; rw [hQ] at hv
          exact W.lret (v := r22) hx hb hr (fun t ht hW => ⟨⟨r22, σ21, rfl, hv, ⟨P_of ht hP, hD⟩⟩, hS.F ht⟩) hS.2.2 dX9_cell_52
    · have hv := hv.2 c25
      refine k_pure_l (va_runS (As := []) (rest := []) ⟨hx, hb, hml, hown, hts⟩ (h_X9_lost ) (va_cwS 0 hts gX9_cell_X9_lost rfl rfl rfl (by decide +kernel) ⟨le_R hRf (Nat.le_of_ble_eq_true rfl), le_R hRl (Nat.le_of_ble_eq_true rfl)⟩) ⟨(fun a U g mk q => ⟨q.1, trivial⟩), (fun U hU hW => ⟨rfl, trivial⟩)⟩ rfl rfl hl.1 rfl (lv_room (Nat.le_of_ble_eq_true rfl)) dX9_cell_24 ⟨le_R hRc (Nat.le_refl 0), le_R hRs (Nat.le_refl 0)⟩) hS hP (fun r H locs hr1 hP hS => ?_)
      subst hr1
      rw [hZ]; rw [hQ] at hv
      exact W.lret (v := fn_X9_lost) hx hb hr (fun t ht hW => ⟨⟨fn_X9_lost, σ1, rfl, hv, ⟨P_of ht hP, hD⟩⟩, hS.F ht⟩) hS.2.2 dX9_cell_27
set_option maxHeartbeats 4000000 in
set_option maxRecDepth 100000 in
theorem wk_X9_copy (l : Launch) (h_X9_failed : Ct_X9_failed l) (h_X9_isBeyond : Ct_X9_isBeyond l) (h_X9_noSheet : Ct_X9_noSheet l) (h_X9_refused : Ct_X9_refused l) (sp : Sp_X9_copy) : Ct_X9_copy l := by
  intro D cy ad A k_ i_ o_ j_ n_ ag σ0  hpre
  refine Met.ofW (cc := cX9_copy) (maxL := 7) (ret := (some .int)) (by decide) rfl ?_
  intro p e s m args below meth c s₁ B hml hv0
  obtain ⟨rfl, hP, hK, hD, hN⟩ := hv0
  have hx := B.exec
  have hb := B.bytes
  have hr := B.returns
  have hts := atoms_spec (ws := wsX9_copy) B.pre
  have hown : s.vm.findClass RX9 = some m.cls := findClass_of_methodNamed B.named
  have hlocks := B.notSynchronized
  have hv := sp k_ i_ o_ j_ n_ ag σ0 hpre
  have hl := lv_entry ([.ref (ad 0), .int k_, .int i_, .int o_, .int j_, .int n_]) (n := 7) (Nat.le_of_ble_eq_true rfl)
  rw [lg_entry_eq]
  generalize (lg_sl ([.ref (ad 0), .int k_, .int i_, .int o_, .int j_, .int n_]) ++ List.replicate (7 - (lg_sl ([.ref (ad 0), .int k_, .int i_, .int o_, .int j_, .int n_])).length) Slot.unset).toArray = ls at hl ⊢
  have hl : lv_has ls 7 [(0, .ref (ad 0)), (1, .int k_), (2, .int i_), (3, .int o_), (4, .int j_), (5, .int n_)] := hl
  refine W_gen (fun R Z H locs hR hZ hH hlo => ?_)
  have hRf : R.frames = 2 := by rw [hR]; rfl
  have hRl : R.locals = 45 := by rw [hR]; rfl
  have hRc : R.cells = 0 := by rw [hR]; rfl
  have hRs : R.slots = 0 := by rw [hR]; rfl
  have hS : va_S A s.heap H locs := by rw [hH, hlo]; exact va_S.rf
  rw [← hH] at hP
  obtain ⟨Q, hQ⟩ : ∃ q : Int32 → S_ → Prop, q = (post_X9_copy k_ i_ o_ j_ n_ ag σ0) := ⟨_, rfl⟩
  rw [← hQ] at hv
  have hinX9 : ∀ w ∈ wsX90, w ∈ wsX9_copy := by decide +kernel
  refine lv_iload_n hx hb dX9_copy_0 rfl (lv_at hl 1 rfl) ?_
  refine k_pure_i (va_runS (As := [.int k_]) (rest := []) ⟨hx, hb, hml, hown, hts⟩ (h_X9_noSheet k_) (va_cwS 1 hts gX9_copy_X9_noSheet rfl rfl rfl (by decide +kernel) ⟨le_R hRf (Nat.le_of_ble_eq_true rfl), le_R hRl (Nat.le_of_ble_eq_true rfl)⟩) ⟨(fun a U g mk q => ⟨q.1, trivial⟩), (fun U hU hW => ⟨rfl, trivial⟩)⟩ rfl rfl hl.1 rfl (lv_room (Nat.le_of_ble_eq_true rfl)) dX9_copy_1 ⟨le_R hRc (Nat.le_refl 0), le_R hRs (Nat.le_refl 0)⟩) hS hP (fun r H locs hr1 hP hS => ?_)
  subst hr1
  refine lv_if_ne (tgt := 14) hx hb dX9_copy_4 (by decide) (fun c33 => ?_) (fun c33 => ?_)
  · have hv := hv.1 c33
    refine lv_aload_n hx hb dX9_copy_14 rfl (lv_at hl 0 rfl) ?_
    refine lv_iconst (v := (-1)) hx hb dX9_copy_15 (by decide) ?_
    have hp := True.intro
    refine k_rel_i (w := wR cy ad) (va_runV (As := [.int (-1)]) (rest := []) ⟨hx, hb, hml, hown, hts⟩ (h_X9_refused D cy ad A (-1) σ0 hp) (cwV 1 hts gX9_copy_X9_refused rfl rfl rfl (by decide +kernel) ⟨le_R hRf (Nat.le_of_ble_eq_true rfl), le_R hRl (Nat.le_of_ble_eq_true rfl)⟩) ⟨(fun a U g mk q => ⟨q.1, q.2.blind⟩), va_recv hK hP (ci := 9) (q0 := 0) rfl (wR_0 cy ad σ0), (fun U hU hW => ⟨rfl, WdR.pre hP hK hD hN hU hW⟩)⟩ rfl rfl hl.1 rfl (lv_room (Nat.le_of_ble_eq_true rfl)) dX9_copy_16 ⟨le_R hRc (Nat.le_refl 0), le_R hRs (Nat.le_refl 0)⟩) hS (fun r2 σ1 H locs hr1 hP hD hS => ?_)
    have hv := hv r2 σ1 hr1
    rw [hZ]; rw [hQ] at hv
    exact W.iret (v := r2) hx hb hr (fun t ht hW => ⟨⟨r2, σ1, rfl, hv, ⟨P_of ht hP, hD⟩⟩, hS.F ht⟩) hS.2.2 dX9_copy_19
  · have hv := hv.2 c33
    refine lv_iload_n hx hb dX9_copy_7 rfl (lv_at hl 3 rfl) ?_
    refine k_pure_i (va_runS (As := [.int o_]) (rest := []) ⟨hx, hb, hml, hown, hts⟩ (h_X9_noSheet o_) (va_cwS 1 hts gX9_copy_X9_noSheet rfl rfl rfl (by decide +kernel) ⟨le_R hRf (Nat.le_of_ble_eq_true rfl), le_R hRl (Nat.le_of_ble_eq_true rfl)⟩) ⟨(fun a U g mk q => ⟨q.1, trivial⟩), (fun U hU hW => ⟨rfl, trivial⟩)⟩ rfl rfl hl.1 rfl (lv_room (Nat.le_of_ble_eq_true rfl)) dX9_copy_8 ⟨le_R hRc (Nat.le_refl 0), le_R hRs (Nat.le_refl 0)⟩) hS hP (fun r H locs hr1 hP hS => ?_)
    subst hr1
    refine lv_if_eq (tgt := 20) hx hb dX9_copy_11 (by decide) (fun c32 => ?_) (fun c32 => ?_)
    · have hv := hv.1 c32
      refine lv_aload_n hx hb dX9_copy_20 rfl (lv_at hl 0 rfl) ?_
      refine va_get (ci := 9) (v := .ref (ad (24))) (C := RX9) (T := TX9) (N := 38) hx hb hts hinX9 hown hK hP 0 (wR_0 cy ad σ0) rfl 33 (by decide) (hts (.fieldLink RX9 80 "TaleBansModel" "sheetSize" "[I") (List.mem_of_getElem? (i := 1) rfl)) (fun x h => h) rfl dX9_copy_21 ?_
      refine lv_iload_n hx hb dX9_copy_24 rfl (lv_at hl 1 rfl) ?_
      obtain ⟨hi, hv⟩ := hv
      refine va_iald hx hb hK hP 24 0 (wR_24 cy ad σ0) rfl hi dX9_copy_25 ?_
      refine lv_if_lt (tgt := 38) hx hb dX9_copy_26 (by decide) (fun c29 => ?_) (fun c29 => ?_)
      · have hv := hv.1 c29
        refine lv_aload_n hx hb dX9_copy_38 rfl (lv_at hl 0 rfl) ?_
        refine lv_iconst (v := 1) hx hb dX9_copy_39 (by decide) ?_
        have hp := True.intro
        refine k_rel_i (w := wR cy ad) (va_runV (As := [.int 1]) (rest := []) ⟨hx, hb, hml, hown, hts⟩ (h_X9_failed D cy ad A 1 σ0 hp) (cwV 1 hts gX9_copy_X9_failed rfl rfl rfl (by decide +kernel) ⟨le_R hRf (Nat.le_of_ble_eq_true rfl), le_R hRl (Nat.le_of_ble_eq_true rfl)⟩) ⟨(fun a U g mk q => ⟨q.1, q.2.blind⟩), va_recv hK hP (ci := 9) (q0 := 0) rfl (wR_0 cy ad σ0), (fun U hU hW => ⟨rfl, WdR.pre hP hK hD hN hU hW⟩)⟩ rfl rfl hl.1 rfl (lv_room (Nat.le_of_ble_eq_true rfl)) dX9_copy_40 ⟨le_R hRc (Nat.le_refl 0), le_R hRs (Nat.le_refl 0)⟩) hS (fun r4 σ3 H locs hr1 hP hD hS => ?_)
        have hv := hv r4 σ3 hr1
        rw [hZ]; rw [hQ] at hv
        exact W.iret (v := r4) hx hb hr (fun t ht hW => ⟨⟨r4, σ3, rfl, hv, ⟨P_of ht hP, hD⟩⟩, hS.F ht⟩) hS.2.2 dX9_copy_43
      · have hv := hv.2 c29
        refine lv_aload_n hx hb dX9_copy_29 rfl (lv_at hl 0 rfl) ?_
        refine va_get (ci := 9) (v := .ref (ad (24))) (C := RX9) (T := TX9) (N := 38) hx hb hts hinX9 hown hK hP 0 (wR_0 cy ad σ0) rfl 33 (by decide) (hts (.fieldLink RX9 80 "TaleBansModel" "sheetSize" "[I") (List.mem_of_getElem? (i := 1) rfl)) (fun x h => h) rfl dX9_copy_30 ?_
        refine lv_iload_n hx hb dX9_copy_33 rfl (lv_at hl 3 rfl) ?_
        obtain ⟨hi, hv⟩ := hv
        refine va_iald hx hb hK hP 24 0 (wR_24 cy ad σ0) rfl hi dX9_copy_34 ?_
        refine lv_if_ge (tgt := 44) hx hb dX9_copy_35 (by decide) (fun c28 => ?_) (fun c28 => ?_)
        · have hv := hv.1 c28
          refine lv_aload_n hx hb dX9_copy_44 rfl (lv_at hl 0 rfl) ?_
          refine va_get (ci := 9) (v := .ref (ad (25))) (C := RX9) (T := TX9) (N := 38) hx hb hts hinX9 hown hK hP 0 (wR_0 cy ad σ0) rfl 34 (by decide) (hts (.fieldLink RX9 83 "TaleBansModel" "sheetLane" "[I") (List.mem_of_getElem? (i := 2) rfl)) (fun x h => h) rfl dX9_copy_45 ?_
          refine lv_iload_n hx hb dX9_copy_48 rfl (lv_at hl 1 rfl) ?_
          obtain ⟨hi, hv⟩ := hv
          refine va_iald hx hb hK hP 25 0 (wR_25 cy ad σ0) rfl hi dX9_copy_49 ?_
          refine lv_aload_n hx hb dX9_copy_50 rfl (lv_at hl 0 rfl) ?_
          refine va_get (ci := 9) (v := .ref (ad (25))) (C := RX9) (T := TX9) (N := 38) hx hb hts hinX9 hown hK hP 0 (wR_0 cy ad σ0) rfl 34 (by decide) (hts (.fieldLink RX9 83 "TaleBansModel" "sheetLane" "[I") (List.mem_of_getElem? (i := 2) rfl)) (fun x h => h) rfl dX9_copy_51 ?_
          refine lv_iload_n hx hb dX9_copy_54 rfl (lv_at hl 3 rfl) ?_
          obtain ⟨hi, hv⟩ := hv
          refine va_iald hx hb hK hP 25 0 (wR_25 cy ad σ0) rfl hi dX9_copy_55 ?_
          refine lv_icmp_eq (tgt := 65) hx hb dX9_copy_56 (by decide) (fun c25 => ?_) (fun c25 => ?_)
          · have hv := hv.1 c25
            refine lv_iload_n hx hb dX9_copy_65 rfl (lv_at hl 2 rfl) ?_
            refine lv_iload hx hb dX9_copy_66 (lv_at hl 5 rfl) ?_
            refine lv_i2l hx hb dX9_copy_68 rfl ?_
            refine lv_aload_n hx hb dX9_copy_69 rfl (lv_at hl 0 rfl) ?_
            refine va_get (ci := 9) (v := .ref (ad (24))) (C := RX9) (T := TX9) (N := 38) hx hb hts hinX9 hown hK hP 0 (wR_0 cy ad σ0) rfl 33 (by decide) (hts (.fieldLink RX9 80 "TaleBansModel" "sheetSize" "[I") (List.mem_of_getElem? (i := 1) rfl)) (fun x h => h) rfl dX9_copy_70 ?_
            refine lv_iload_n hx hb dX9_copy_73 rfl (lv_at hl 1 rfl) ?_
            obtain ⟨hi, hv⟩ := hv
            refine va_iald hx hb hK hP 24 0 (wR_24 cy ad σ0) rfl hi dX9_copy_74 ?_
            refine k_pure_i (va_runS (As := [.int i_, .long (Int32.toInt64 n_), .int (rdA σ0 24 (Int32.toNatClampNeg k_))]) (rest := []) ⟨hx, hb, hml, hown, hts⟩ (h_X9_isBeyond i_ (Int32.toInt64 n_) (rdA σ0 24 (Int32.toNatClampNeg k_))) (va_cwS 3 hts gX9_copy_X9_isBeyond rfl rfl rfl (by decide +kernel) ⟨le_R hRf (Nat.le_of_ble_eq_true rfl), le_R hRl (Nat.le_of_ble_eq_true rfl)⟩) ⟨(fun a U g mk q => ⟨q.1, trivial⟩), (fun U hU hW => ⟨rfl, trivial⟩)⟩ rfl rfl hl.1 rfl (lv_room (Nat.le_of_ble_eq_true rfl)) dX9_copy_75 ⟨le_R hRc (Nat.le_refl 0), le_R hRs (Nat.le_refl 0)⟩) hS hP (fun r H locs hr1 hP hS => ?_)
            subst hr1
            refine lv_if_ne (tgt := 98) hx hb dX9_copy_78 (by decide) (fun c22 => ?_) (fun c22 => ?_)
            · have hv := hv.1 c22
              refine lv_aload_n hx hb dX9_copy_98 rfl (lv_at hl 0 rfl) ?_
              refine lv_iconst (v := 3) hx hb dX9_copy_99 (by decide) ?_
              have hp := True.intro
              refine k_rel_i (w := wR cy ad) (va_runV (As := [.int 3]) (rest := []) ⟨hx, hb, hml, hown, hts⟩ (h_X9_failed D cy ad A 3 σ0 hp) (cwV 1 hts gX9_copy_X9_failed rfl rfl rfl (by decide +kernel) ⟨le_R hRf (Nat.le_of_ble_eq_true rfl), le_R hRl (Nat.le_of_ble_eq_true rfl)⟩) ⟨(fun a U g mk q => ⟨q.1, q.2.blind⟩), va_recv hK hP (ci := 9) (q0 := 0) rfl (wR_0 cy ad σ0), (fun U hU hW => ⟨rfl, WdR.pre hP hK hD hN hU hW⟩)⟩ rfl rfl hl.1 rfl (lv_room (Nat.le_of_ble_eq_true rfl)) dX9_copy_100 ⟨le_R hRc (Nat.le_refl 0), le_R hRs (Nat.le_refl 0)⟩) hS (fun r6 σ5 H locs hr1 hP hD hS => ?_)
              have hv := hv r6 σ5 hr1
              rw [hZ]; rw [hQ] at hv
              exact W.iret (v := r6) hx hb hr (fun t ht hW => ⟨⟨r6, σ5, rfl, hv, ⟨P_of ht hP, hD⟩⟩, hS.F ht⟩) hS.2.2 dX9_copy_103
            · have hv := hv.2 c22
              refine lv_iload hx hb dX9_copy_81 (lv_at hl 4 rfl) ?_
              refine lv_iload hx hb dX9_copy_83 (lv_at hl 5 rfl) ?_
              refine lv_i2l hx hb dX9_copy_85 rfl ?_
              refine lv_aload_n hx hb dX9_copy_86 rfl (lv_at hl 0 rfl) ?_
              refine va_get (ci := 9) (v := .ref (ad (24))) (C := RX9) (T := TX9) (N := 38) hx hb hts hinX9 hown hK hP 0 (wR_0 cy ad σ0) rfl 33 (by decide) (hts (.fieldLink RX9 80 "TaleBansModel" "sheetSize" "[I") (List.mem_of_getElem? (i := 1) rfl)) (fun x h => h) rfl dX9_copy_87 ?_
              refine lv_iload_n hx hb dX9_copy_90 rfl (lv_at hl 3 rfl) ?_
              obtain ⟨hi, hv⟩ := hv
              refine va_iald hx hb hK hP 24 0 (wR_24 cy ad σ0) rfl hi dX9_copy_91 ?_
              refine k_pure_i (va_runS (As := [.int j_, .long (Int32.toInt64 n_), .int (rdA σ0 24 (Int32.toNatClampNeg o_))]) (rest := []) ⟨hx, hb, hml, hown, hts⟩ (h_X9_isBeyond j_ (Int32.toInt64 n_) (rdA σ0 24 (Int32.toNatClampNeg o_))) (va_cwS 3 hts gX9_copy_X9_isBeyond rfl rfl rfl (by decide +kernel) ⟨le_R hRf (Nat.le_of_ble_eq_true rfl), le_R hRl (Nat.le_of_ble_eq_true rfl)⟩) ⟨(fun a U g mk q => ⟨q.1, trivial⟩), (fun U hU hW => ⟨rfl, trivial⟩)⟩ rfl rfl hl.1 rfl (lv_room (Nat.le_of_ble_eq_true rfl)) dX9_copy_92 ⟨le_R hRc (Nat.le_refl 0), le_R hRs (Nat.le_refl 0)⟩) hS hP (fun r H locs hr1 hP hS => ?_)
              subst hr1
              refine lv_if_eq (tgt := 104) hx hb dX9_copy_95 (by decide) (fun c21 => ?_) (fun c21 => ?_)
              · have hv := hv.1 c21
                refine lv_iconst (v := 0) hx hb dX9_copy_104 (by decide) ?_
                refine lv_istore (lv' := [(6, .int 0), (0, .ref (ad 0)), (1, .int k_), (2, .int i_), (3, .int o_), (4, .int j_), (5, .int n_)]) hx hb dX9_copy_105 hl (by decide) rfl (fun ls hl => ?_)
                obtain ⟨n107, hv⟩ := hv
                have lp107 : ∀ (nn107 : Nat) (x7 : Int32) (σ8 : S_) (H : Heap) (locs : List Loc) (ls : Array Slot), vl_X9_copy_107 k_ i_ o_ j_ n_ Q nn107 x7 σ8 → va_P D vwCl (wR cy ad σ8) H → va_D A (wR cy ad σ8) → va_S A s.heap H locs → lv_has ls 7 [(0, .ref (ad 0)), (1, .int k_), (2, .int i_), (3, .int o_), (4, .int j_), (5, .int n_), (6, .int x7)] → W p l e R s m ([.ref (ad 0), .int k_, .int i_, .int o_, .int j_, .int n_] : List Value).toArray  below meth c H locs 0 0 Z (F0 m 107 ls []) := by
                  intro nn107
                  induction nn107 with
                  | zero => intro x7 σ8 H locs ls hv; exact absurd hv id
                  | succ mm107 ih107 =>
                    intro x7 σ8 H locs ls hv hP hD hS hl
                    refine lv_iload hx hb dX9_copy_107 (lv_at hl 6 rfl) ?_
                    refine lv_iload hx hb dX9_copy_109 (lv_at hl 5 rfl) ?_
                    refine lv_icmp_ge (tgt := 141) hx hb dX9_copy_111 (by decide) (fun c18 => ?_) (fun c18 => ?_)
                    · have hv := hv.1 c18
                      refine lv_iconst (v := 0) hx hb dX9_copy_141 (by decide) ?_
                      refine lv_istore (lv' := [(6, .int 0), (0, .ref (ad 0)), (1, .int k_), (2, .int i_), (3, .int o_), (4, .int j_), (5, .int n_)]) hx hb dX9_copy_142 hl (by decide) rfl (fun ls hl => ?_)
                      obtain ⟨n144, hv⟩ := hv
                      have lp144 : ∀ (nn144 : Nat) (x9 : Int32) (σ10 : S_) (H : Heap) (locs : List Loc) (ls : Array Slot), vl_X9_copy_144 o_ j_ n_ Q nn144 x9 σ10 → va_P D vwCl (wR cy ad σ10) H → va_D A (wR cy ad σ10) → va_S A s.heap H locs → lv_has ls 7 [(0, .ref (ad 0)), (3, .int o_), (4, .int j_), (5, .int n_), (6, .int x9)] → W p l e R s m ([.ref (ad 0), .int k_, .int i_, .int o_, .int j_, .int n_] : List Value).toArray  below meth c H locs 0 0 Z (F0 m 144 ls []) := by
                        intro nn144
                        induction nn144 with
                        | zero => intro x9 σ10 H locs ls hv; exact absurd hv id
                        | succ mm144 ih144 =>
                          intro x9 σ10 H locs ls hv hP hD hS hl
                          refine lv_iload hx hb dX9_copy_144 (lv_at hl 4 rfl) ?_
                          refine lv_iload hx hb dX9_copy_146 (lv_at hl 3 rfl) ?_
                          refine lv_icmp_ge (tgt := 179) hx hb dX9_copy_148 (by decide) (fun c15 => ?_) (fun c15 => ?_)
                          · have hv := hv.1 c15
                            refine lv_aload_n hx hb dX9_copy_179 rfl (lv_at hl 0 rfl) ?_
                            refine lv_iload hx hb dX9_copy_180 (lv_at hl 3 rfl) ?_
                            have hp := True.intro
                            refine k_rel_i (w := wR cy ad) (va_runV (As := [.int n_]) (rest := []) ⟨hx, hb, hml, hown, hts⟩ (h_X9_refused D cy ad A n_ σ10 hp) (cwV 1 hts gX9_copy_X9_refused rfl rfl rfl (by decide +kernel) ⟨le_R hRf (Nat.le_of_ble_eq_true rfl), le_R hRl (Nat.le_of_ble_eq_true rfl)⟩) ⟨(fun a U g mk q => ⟨q.1, q.2.blind⟩), va_recv hK hP (ci := 9) (q0 := 0) rfl (wR_0 cy ad σ10), (fun U hU hW => ⟨rfl, WdR.pre hP hK hD hN hU hW⟩)⟩ rfl rfl hl.1 rfl (lv_room (Nat.le_of_ble_eq_true rfl)) dX9_copy_182 ⟨le_R hRc (Nat.le_refl 0), le_R hRs (Nat.le_refl 0)⟩) hS (fun r12 σ11 H locs hr1 hP hD hS => ?_)
                            have hv := hv r12 σ11 hr1
                            rw [hZ]; rw [hQ] at hv
                            exact W.iret (v := r12) hx hb hr (fun t ht hW => ⟨⟨r12, σ11, rfl, hv, ⟨P_of ht hP, hD⟩⟩, hS.F ht⟩) hS.2.2 dX9_copy_185
                          · have hv := hv.2 c15
                            refine lv_aload_n hx hb dX9_copy_151 rfl (lv_at hl 0 rfl) ?_
                            refine va_get (ci := 9) (v := .ref (ad (26))) (C := RX9) (T := TX9) (N := 38) hx hb hts hinX9 hown hK hP 0 (wR_0 cy ad σ10) rfl 35 (by decide) (hts (.fieldLink RX9 86 "TaleBansModel" "sheet" "[I") (List.mem_of_getElem? (i := 4) rfl)) (fun x h => h) rfl dX9_copy_152 ?_
                            refine lv_bipush (v := 60) hx hb dX9_copy_155 (by decide) ?_
                            refine lv_iload_n hx hb dX9_copy_157 rfl (lv_at hl 1 rfl) ?_
                            refine lv_imul hx hb dX9_copy_158 ?_
                            refine lv_iload hx hb dX9_copy_159 (lv_at hl 2 rfl) ?_
                            refine lv_iadd hx hb dX9_copy_161 ?_
                            refine lv_iload hx hb dX9_copy_162 (lv_at hl 4 rfl) ?_
                            refine lv_iadd hx hb dX9_copy_164 ?_
                            refine lv_aload_n hx hb dX9_copy_165 rfl (lv_at hl 0 rfl) ?_
                            refine va_get (ci := 9) (v := .ref (ad (27))) (C := RX9) (T := TX9) (N := 38) hx hb hts hinX9 hown hK hP 0 (wR_0 cy ad σ10) rfl 36 (by decide) (hts (.fieldLink RX9 89 "TaleBansModel" "hands" "[I") (List.mem_of_getElem? (i := 3) rfl)) (fun x h => h) rfl dX9_copy_166 ?_
                            refine lv_iload hx hb dX9_copy_169 (lv_at hl 4 rfl) ?_
                            obtain ⟨hi, hv⟩ := hv
                            refine va_iald hx hb hK hP 27 0 (wR_27 cy ad σ10) rfl hi dX9_copy_171 ?_
                            obtain ⟨hi, hv⟩ := hv
                            refine va_iast hx hb hK hP hD hS 26 0 (wR_26 cy ad σ10) rfl hi dX9_copy_172 (fun H locs hP hD hS => ?_)
                            obtain ⟨σ13, e14⟩ : ∃ y : S_, y = wr2 σ10 26 (Int32.toNatClampNeg (((60 * o_) + j_) + x9)) (rdA σ10 27 (Int32.toNatClampNeg x9)) := ⟨_, rfl⟩
                            have hP : va_P D vwCl (wR cy ad σ13) H := by rw [e14]; exact hP
                            have hD : va_D A (wR cy ad σ13) := by rw [e14]; exact hD
                            have hv := hv σ13 e14
                            refine lv_iinc (v := (x9 + 1)) (lv' := [(6, .int (x9 + 1)), (0, .ref (ad 0)), (3, .int o_), (4, .int j_), (5, .int n_)]) hx hb dX9_copy_173 hl (k := 4) rfl rfl (by decide) rfl (fun ls hl => ?_)
                            refine lv_goto (tgt := 144) hx hb dX9_copy_176 (by decide) ?_
                            exact ih144 (x9 + 1) σ13 _ _ _ hv hP hD hS (lv_sub hl [1, 2, 3, 4, 0] rfl)
                      exact lp144 n144 0 σ8 _ _ _ hv hP hD hS (lv_sub hl [1, 4, 5, 6, 0] rfl)
                    · have hv := hv.2 c18
                      refine lv_aload_n hx hb dX9_copy_114 rfl (lv_at hl 0 rfl) ?_
                      refine va_get (ci := 9) (v := .ref (ad (27))) (C := RX9) (T := TX9) (N := 38) hx hb hts hinX9 hown hK hP 0 (wR_0 cy ad σ8) rfl 36 (by decide) (hts (.fieldLink RX9 89 "TaleBansModel" "hands" "[I") (List.mem_of_getElem? (i := 3) rfl)) (fun x h => h) rfl dX9_copy_115 ?_
                      refine lv_iload hx hb dX9_copy_118 (lv_at hl 6 rfl) ?_
                      refine lv_aload_n hx hb dX9_copy_120 rfl (lv_at hl 0 rfl) ?_
                      refine va_get (ci := 9) (v := .ref (ad (26))) (C := RX9) (T := TX9) (N := 38) hx hb hts hinX9 hown hK hP 0 (wR_0 cy ad σ8) rfl 35 (by decide) (hts (.fieldLink RX9 86 "TaleBansModel" "sheet" "[I") (List.mem_of_getElem? (i := 4) rfl)) (fun x h => h) rfl dX9_copy_121 ?_
                      refine lv_bipush (v := 60) hx hb dX9_copy_124 (by decide) ?_
                      refine lv_iload_n hx hb dX9_copy_126 rfl (lv_at hl 1 rfl) ?_
                      refine lv_imul hx hb dX9_copy_127 ?_
                      refine lv_iload_n hx hb dX9_copy_128 rfl (lv_at hl 2 rfl) ?_
                      refine lv_iadd hx hb dX9_copy_129 ?_
                      refine lv_iload hx hb dX9_copy_130 (lv_at hl 6 rfl) ?_
                      refine lv_iadd hx hb dX9_copy_132 ?_
                      obtain ⟨hi, hv⟩ := hv
                      refine va_iald hx hb hK hP 26 0 (wR_26 cy ad σ8) rfl hi dX9_copy_133 ?_
                      obtain ⟨hi, hv⟩ := hv
                      refine va_iast hx hb hK hP hD hS 27 0 (wR_27 cy ad σ8) rfl hi dX9_copy_134 (fun H locs hP hD hS => ?_)
                      obtain ⟨σ16, e17⟩ : ∃ y : S_, y = wr2 σ8 27 (Int32.toNatClampNeg x7) (rdA σ8 26 (Int32.toNatClampNeg (((60 * k_) + i_) + x7))) := ⟨_, rfl⟩
                      have hP : va_P D vwCl (wR cy ad σ16) H := by rw [e17]; exact hP
                      have hD : va_D A (wR cy ad σ16) := by rw [e17]; exact hD
                      have hv := hv σ16 e17
                      refine lv_iinc (v := (x7 + 1)) (lv' := [(6, .int (x7 + 1)), (0, .ref (ad 0)), (1, .int k_), (2, .int i_), (3, .int o_), (4, .int j_), (5, .int n_)]) hx hb dX9_copy_135 hl (k := 6) rfl rfl (by decide) rfl (fun ls hl => ?_)
                      refine lv_goto (tgt := 107) hx hb dX9_copy_138 (by decide) ?_
                      exact ih107 (x7 + 1) σ16 _ _ _ hv hP hD hS (lv_sub hl [1, 2, 3, 4, 5, 6, 0] rfl)
                exact lp107 n107 0 σ0 _ _ _ hv hP hD hS (lv_sub hl [1, 2, 3, 4, 5, 6, 0] rfl)
              · have hv := hv.2 c21
                refine lv_aload_n hx hb dX9_copy_98 rfl (lv_at hl 0 rfl) ?_
                refine lv_iconst (v := 3) hx hb dX9_copy_99 (by decide) ?_
                have hp := True.intro
                refine k_rel_i (w := wR cy ad) (va_runV (As := [.int 3]) (rest := []) ⟨hx, hb, hml, hown, hts⟩ (h_X9_failed D cy ad A 3 σ0 hp) (cwV 1 hts gX9_copy_X9_failed rfl rfl rfl (by decide +kernel) ⟨le_R hRf (Nat.le_of_ble_eq_true rfl), le_R hRl (Nat.le_of_ble_eq_true rfl)⟩) ⟨(fun a U g mk q => ⟨q.1, q.2.blind⟩), va_recv hK hP (ci := 9) (q0 := 0) rfl (wR_0 cy ad σ0), (fun U hU hW => ⟨rfl, WdR.pre hP hK hD hN hU hW⟩)⟩ rfl rfl hl.1 rfl (lv_room (Nat.le_of_ble_eq_true rfl)) dX9_copy_100 ⟨le_R hRc (Nat.le_refl 0), le_R hRs (Nat.le_refl 0)⟩) hS (fun r20 σ19 H locs hr1 hP hD hS => ?_)
                have hv := hv r20 σ19 hr1
                rw [hZ]; rw [hQ] at hv
                exact W.iret (v := r20) hx hb hr (fun t ht hW => ⟨⟨r20, σ19, rfl, hv, ⟨P_of ht hP, hD⟩⟩, hS.F ht⟩) hS.2.2 dX9_copy_103
          · have hv := hv.2 c25
            refine lv_aload_n hx hb dX9_copy_59 rfl (lv_at hl 0 rfl) ?_
            refine lv_iconst (v := 2) hx hb dX9_copy_60 (by decide) ?_
            have hp := True.intro
            refine k_rel_i (w := wR cy ad) (va_runV (As := [.int 2]) (rest := []) ⟨hx, hb, hml, hown, hts⟩ (h_X9_failed D cy ad A 2 σ0 hp) (cwV 1 hts gX9_copy_X9_failed rfl rfl rfl (by decide +kernel) ⟨le_R hRf (Nat.le_of_ble_eq_true rfl), le_R hRl (Nat.le_of_ble_eq_true rfl)⟩) ⟨(fun a U g mk q => ⟨q.1, q.2.blind⟩), va_recv hK hP (ci := 9) (q0 := 0) rfl (wR_0 cy ad σ0), (fun U hU hW => ⟨rfl, WdR.pre hP hK hD hN hU hW⟩)⟩ rfl rfl hl.1 rfl (lv_room (Nat.le_of_ble_eq_true rfl)) dX9_copy_61 ⟨le_R hRc (Nat.le_refl 0), le_R hRs (Nat.le_refl 0)⟩) hS (fun r24 σ23 H locs hr1 hP hD hS => ?_)
            have hv := hv r24 σ23 hr1
            rw [hZ]; rw [hQ] at hv
            exact W.iret (v := r24) hx hb hr (fun t ht hW => ⟨⟨r24, σ23, rfl, hv, ⟨P_of ht hP, hD⟩⟩, hS.F ht⟩) hS.2.2 dX9_copy_64
        · have hv := hv.2 c28
          refine lv_aload_n hx hb dX9_copy_38 rfl (lv_at hl 0 rfl) ?_
          refine lv_iconst (v := 1) hx hb dX9_copy_39 (by decide) ?_
          have hp := True.intro
          refine k_rel_i (w := wR cy ad) (va_runV (As := [.int 1]) (rest := []) ⟨hx, hb, hml, hown, hts⟩ (h_X9_failed D cy ad A 1 σ0 hp) (cwV 1 hts gX9_copy_X9_failed rfl rfl rfl (by decide +kernel) ⟨le_R hRf (Nat.le_of_ble_eq_true rfl), le_R hRl (Nat.le_of_ble_eq_true rfl)⟩) ⟨(fun a U g mk q => ⟨q.1, q.2.blind⟩), va_recv hK hP (ci := 9) (q0 := 0) rfl (wR_0 cy ad σ0), (fun U hU hW => ⟨rfl, WdR.pre hP hK hD hN hU hW⟩)⟩ rfl rfl hl.1 rfl (lv_room (Nat.le_of_ble_eq_true rfl)) dX9_copy_40 ⟨le_R hRc (Nat.le_refl 0), le_R hRs (Nat.le_refl 0)⟩) hS (fun r27 σ26 H locs hr1 hP hD hS => ?_)
          have hv := hv r27 σ26 hr1
          rw [hZ]; rw [hQ] at hv
          exact W.iret (v := r27) hx hb hr (fun t ht hW => ⟨⟨r27, σ26, rfl, hv, ⟨P_of ht hP, hD⟩⟩, hS.F ht⟩) hS.2.2 dX9_copy_43
    · have hv := hv.2 c32
      refine lv_aload_n hx hb dX9_copy_14 rfl (lv_at hl 0 rfl) ?_
      refine lv_iconst (v := (-1)) hx hb dX9_copy_15 (by decide) ?_
      have hp := True.intro
      refine k_rel_i (w := wR cy ad) (va_runV (As := [.int (-1)]) (rest := []) ⟨hx, hb, hml, hown, hts⟩ (h_X9_refused D cy ad A (-1) σ0 hp) (cwV 1 hts gX9_copy_X9_refused rfl rfl rfl (by decide +kernel) ⟨le_R hRf (Nat.le_of_ble_eq_true rfl), le_R hRl (Nat.le_of_ble_eq_true rfl)⟩) ⟨(fun a U g mk q => ⟨q.1, q.2.blind⟩), va_recv hK hP (ci := 9) (q0 := 0) rfl (wR_0 cy ad σ0), (fun U hU hW => ⟨rfl, WdR.pre hP hK hD hN hU hW⟩)⟩ rfl rfl hl.1 rfl (lv_room (Nat.le_of_ble_eq_true rfl)) dX9_copy_16 ⟨le_R hRc (Nat.le_refl 0), le_R hRs (Nat.le_refl 0)⟩) hS (fun r31 σ30 H locs hr1 hP hD hS => ?_)
      have hv := hv r31 σ30 hr1
      rw [hZ]; rw [hQ] at hv
      exact W.iret (v := r31) hx hb hr (fun t ht hW => ⟨⟨r31, σ30, rfl, hv, ⟨P_of ht hP, hD⟩⟩, hS.F ht⟩) hS.2.2 dX9_copy_19
