set_option maxHeartbeats 4000000 in
set_option maxRecDepth 100000 in
theorem wk_X9_readsSteppe (l : Launch) (h_X9_codeAt : Ct_X9_codeAt l) (h_X9_readsPerson : Ct_X9_readsPerson l) (sp : Sp_X9_readsSteppe) : Ct_X9_readsSteppe l := by
  intro D cy ad A fr_ n_ Fg Ng σ0  hpre
  refine Met.ofW (cc := cX9_readsSteppe) (maxL := 4) (ret := (some .boolean)) (by decide) rfl ?_
  intro p e s m args below meth c s₁ B hml hv0
  obtain ⟨rfl, hP, hK, hD, hN⟩ := hv0
  have hx := B.exec
  have hb := B.bytes
  have hr := B.returns
  have hts := atoms_spec (ws := wsX9_readsSteppe) B.pre
  have hown : s.vm.findClass RX9 = some m.cls := findClass_of_methodNamed B.named
  have hlocks := B.notSynchronized
  have hv := sp fr_ n_ Fg Ng σ0 hpre
  have hl := lv_entry ([.ref (ad 0), .int fr_, .int n_]) (n := 4) (Nat.le_of_ble_eq_true rfl)
  rw [lg_entry_eq]
  generalize (lg_sl ([.ref (ad 0), .int fr_, .int n_]) ++ List.replicate (4 - (lg_sl ([.ref (ad 0), .int fr_, .int n_])).length) Slot.unset).toArray = ls at hl ⊢
  have hl : lv_has ls 4 [(0, .ref (ad 0)), (1, .int fr_), (2, .int n_)] := hl
  refine W_gen (fun R Z H locs hR hZ hH hlo => ?_)
  have hRf : R.frames = 3 := by rw [hR]; rfl
  have hRl : R.locals = 76 := by rw [hR]; rfl
  have hRc : R.cells = 0 := by rw [hR]; rfl
  have hRs : R.slots = 0 := by rw [hR]; rfl
  have hS : va_S A s.heap H locs := by rw [hH, hlo]; exact va_S.rf
  rw [← hH] at hP
  obtain ⟨Q, hQ⟩ : ∃ q : Int32 → S_ → Prop, q = (post_X9_readsSteppe fr_ n_ Fg Ng σ0) := ⟨_, rfl⟩
  rw [← hQ] at hv
  have hinX9 : ∀ w ∈ wsX90, w ∈ wsX9_readsSteppe := by decide +kernel
  refine lv_aload_n hx hb dX9_readsSteppe_0 rfl (lv_at hl 0 rfl) ?_
  refine lv_iconst (v := 0) hx hb dX9_readsSteppe_1 (by decide) ?_
  refine va_put (ci := 9) (v := .int 0) (ty := .int) (C := RX9) (T := TX9) (N := 38) hx hb hts hinX9 tyX9 tyX9_ok nmX9 hown hK hP hD hS 0 (wR_0 cy ad σ0) rfl 7 (by decide) (hts (.fieldLink RX9 118 "TaleBansModel" "readAt" "I") (List.mem_of_getElem? (i := 1) rfl)) (fun x h => h) rfl (by decide +kernel) rfl rfl (Nat.le_of_ble_eq_true rfl) dX9_readsSteppe_2 (fun H locs hP hD hS => ?_)
  obtain ⟨σ1, e2⟩ : ∃ y : S_, y = wrI σ0 4 0 := ⟨_, rfl⟩
  have hP : va_P D vwCl (wR cy ad σ1) H := by rw [e2]; exact hP
  have hD : va_D A (wR cy ad σ1) := by rw [e2]; exact hD
  have hv := hv σ1 e2
  refine lv_aload_n hx hb dX9_readsSteppe_5 rfl (lv_at hl 0 rfl) ?_
  refine lv_iconst (v := 0) hx hb dX9_readsSteppe_6 (by decide) ?_
  refine va_put (ci := 9) (v := .int 0) (ty := .int) (C := RX9) (T := TX9) (N := 38) hx hb hts hinX9 tyX9 tyX9_ok nmX9 hown hK hP hD hS 0 (wR_0 cy ad σ1) rfl 8 (by decide) (hts (.fieldLink RX9 125 "TaleBansModel" "readPersons" "I") (List.mem_of_getElem? (i := 2) rfl)) (fun x h => h) rfl (by decide +kernel) rfl rfl (Nat.le_of_ble_eq_true rfl) dX9_readsSteppe_7 (fun H locs hP hD hS => ?_)
  obtain ⟨σ3, e4⟩ : ∃ y : S_, y = wrI σ1 5 0 := ⟨_, rfl⟩
  have hP : va_P D vwCl (wR cy ad σ3) H := by rw [e4]; exact hP
  have hD : va_D A (wR cy ad σ3) := by rw [e4]; exact hD
  have hv := hv σ3 e4
  refine lv_aload_n hx hb dX9_readsSteppe_10 rfl (lv_at hl 0 rfl) ?_
  refine lv_iload_n hx hb dX9_readsSteppe_11 rfl (lv_at hl 1 rfl) ?_
  refine lv_iload_n hx hb dX9_readsSteppe_12 rfl (lv_at hl 2 rfl) ?_
  obtain ⟨g5, g6, g7, hv⟩ := hv
  obtain ⟨hp, hv⟩ := hv
  refine k_read_i (w := wR cy ad) (va_runV (As := [.int fr_, .int n_]) (rest := []) ⟨hx, hb, hml, hown, hts⟩ (h_X9_codeAt D cy ad A fr_ n_ g5 g6 g7 σ3 hp) (cwV 2 hts gX9_readsSteppe_X9_codeAt rfl rfl rfl (by decide +kernel) ⟨le_R hRf (Nat.le_of_ble_eq_true rfl), le_R hRl (Nat.le_of_ble_eq_true rfl)⟩) ⟨(fun a U g mk q => ⟨q.1, q.2.blind⟩), va_recv hK hP (ci := 9) (q0 := 0) rfl (wR_0 cy ad σ3), (fun U hU hW => ⟨rfl, WdR.pre hP hK hD hN hU hW⟩)⟩ rfl rfl hl.1 rfl (lv_room (Nat.le_of_ble_eq_true rfl)) dX9_readsSteppe_13 ⟨le_R hRc (Nat.le_refl 0), le_R hRs (Nat.le_refl 0)⟩) hS (fun r8 H locs hr1 hP hS => ?_)
  have hv := hv r8 hr1
  refine lv_bipush (v := 115) hx hb dX9_readsSteppe_16 (by decide) ?_
  obtain ⟨P9, hv, hvr⟩ := hv
  have jn10 : ∀ (b11 : Int32) (H : Heap) (locs : List Loc) (ls : Array Slot), P9 b11 → va_P D vwCl (wR cy ad σ3) H → va_S A s.heap H locs → lv_has ls 4 [(0, .ref (ad 0)), (1, .int fr_), (2, .int n_)] → W p l e R s m ([.ref (ad 0), .int fr_, .int n_] : List Value).toArray below meth c H locs 0 0 Z (F0 m 26 ls [.int b11]) := by
    intro b11 H locs ls hv hP hS hl
    have hv := hvr b11 hv
    refine lv_istore_n (lv' := [(3, .int b11), (0, .ref (ad 0)), (1, .int fr_), (2, .int n_)]) hx hb dX9_readsSteppe_26 rfl hl (by decide) rfl (fun ls hl => ?_)
    refine lv_aload_n hx hb dX9_readsSteppe_27 rfl (lv_at hl 1 rfl) ?_
    refine lv_dup hx hb dX9_readsSteppe_28 rfl ?_
    refine va_get (ci := 9) (v := .int (rdI σ3 4)) (C := RX9) (T := TX9) (N := 38) hx hb hts hinX9 hown hK hP 0 (wR_0 cy ad σ3) rfl 7 (by decide) (hts (.fieldLink RX9 118 "TaleBansModel" "readAt" "I") (List.mem_of_getElem? (i := 1) rfl)) (fun x h => h) rfl dX9_readsSteppe_29 ?_
    refine lv_iload_n hx hb dX9_readsSteppe_32 rfl (lv_at hl 0 rfl) ?_
    obtain ⟨P13, hv, hvr⟩ := hv
    have jn14 : ∀ (b15 : Int32) (H : Heap) (locs : List Loc) (ls : Array Slot), P13 b15 → va_P D vwCl (wR cy ad σ3) H → va_S A s.heap H locs → lv_has ls 4 [(3, .int b11), (0, .ref (ad 0)), (1, .int fr_), (2, .int n_)] → W p l e R s m ([.ref (ad 0), .int fr_, .int n_] : List Value).toArray below meth c H locs 0 0 Z (F0 m 41 ls [.int b15, .int (rdI σ3 4), .ref (ad 0)]) := by
      intro b15 H locs ls hv hP hS hl
      have hv := hvr b15 hv
      refine lv_iadd hx hb dX9_readsSteppe_41 ?_
      refine va_put (ci := 9) (v := .int ((rdI σ3 4) + b15)) (ty := .int) (C := RX9) (T := TX9) (N := 38) hx hb hts hinX9 tyX9 tyX9_ok nmX9 hown hK hP hD hS 0 (wR_0 cy ad σ3) rfl 7 (by decide) (hts (.fieldLink RX9 118 "TaleBansModel" "readAt" "I") (List.mem_of_getElem? (i := 1) rfl)) (fun x h => h) rfl (by decide +kernel) rfl rfl (Nat.le_of_ble_eq_true rfl) dX9_readsSteppe_42 (fun H locs hP hD hS => ?_)
      obtain ⟨σ17, e18⟩ : ∃ y : S_, y = wrI σ3 4 ((rdI σ3 4) + b15) := ⟨_, rfl⟩
      have hP : va_P D vwCl (wR cy ad σ17) H := by rw [e18]; exact hP
      have hD : va_D A (wR cy ad σ17) := by rw [e18]; exact hD
      have hv := hv σ17 e18
      obtain ⟨n45, hv⟩ := hv
      have lp45 : ∀ (nn45 : Nat) (x19 : Int32) (σ20 : S_) (H : Heap) (locs : List Loc) (ls : Array Slot), vl_X9_readsSteppe_45 fr_ n_ Q nn45 x19 σ20 → va_P D vwCl (wR cy ad σ20) H → va_D A (wR cy ad σ20) → va_S A s.heap H locs → lv_has ls 4 [(0, .ref (ad 0)), (1, .int fr_), (2, .int n_), (3, .int x19)] → W p l e R s m ([.ref (ad 0), .int fr_, .int n_] : List Value).toArray  below meth c H locs 0 0 Z (F0 m 45 ls []) := by
        intro nn45
        induction nn45 with
        | zero => intro x19 σ20 H locs ls hv; exact absurd hv id
        | succ mm45 ih45 =>
          intro x19 σ20 H locs ls hv hP hD hS hl
          refine lv_iload_n hx hb dX9_readsSteppe_45 rfl (lv_at hl 3 rfl) ?_
          refine lv_if_eq (tgt := 75) hx hb dX9_readsSteppe_46 (by decide) (fun c33 => ?_) (fun c33 => ?_)
          · have hv := hv.1 c33
            refine lv_iload_n hx hb dX9_readsSteppe_75 rfl (lv_at hl 3 rfl) ?_
            obtain ⟨h01, hv⟩ := hv
            rw [hZ]; rw [hQ] at hv
            exact W.zret (v := x19) hx hb hr (nar_b h01) (fun t ht hW => ⟨⟨x19, σ20, rfl, hv, ⟨P_of ht hP, hD⟩⟩, hS.F ht⟩) hS.2.2 dX9_readsSteppe_76
          · have hv := hv.2 c33
            refine lv_aload_n hx hb dX9_readsSteppe_49 rfl (lv_at hl 0 rfl) ?_
            refine va_get (ci := 9) (v := .int (rdI σ20 5)) (C := RX9) (T := TX9) (N := 38) hx hb hts hinX9 hown hK hP 0 (wR_0 cy ad σ20) rfl 8 (by decide) (hts (.fieldLink RX9 125 "TaleBansModel" "readPersons" "I") (List.mem_of_getElem? (i := 2) rfl)) (fun x h => h) rfl dX9_readsSteppe_50 ?_
            refine lv_iconst (v := 2) hx hb dX9_readsSteppe_53 (by decide) ?_
            refine lv_icmp_lt (tgt := 65) hx hb dX9_readsSteppe_54 (by decide) (fun c32 => ?_) (fun c32 => ?_)
            · have hv := hv.1 c32
              refine lv_aload_n hx hb dX9_readsSteppe_65 rfl (lv_at hl 0 rfl) ?_
              refine lv_iload_n hx hb dX9_readsSteppe_66 rfl (lv_at hl 1 rfl) ?_
              refine lv_iload_n hx hb dX9_readsSteppe_67 rfl (lv_at hl 2 rfl) ?_
              obtain ⟨g21, g22, g23, hv⟩ := hv
              obtain ⟨hp, hv⟩ := hv
              refine k_rel_i (w := wR cy ad) (va_runV (As := [.int fr_, .int n_]) (rest := []) ⟨hx, hb, hml, hown, hts⟩ (h_X9_readsPerson D cy ad A fr_ n_ g21 g22 g23 σ20 hp) (cwV 2 hts gX9_readsSteppe_X9_readsPerson rfl rfl rfl (by decide +kernel) ⟨le_R hRf (Nat.le_of_ble_eq_true rfl), le_R hRl (Nat.le_of_ble_eq_true rfl)⟩) ⟨(fun a U g mk q => ⟨q.1, q.2.blind⟩), va_recv hK hP (ci := 9) (q0 := 0) rfl (wR_0 cy ad σ20), (fun U hU hW => ⟨rfl, WdR.pre hP hK hD hN hU hW⟩)⟩ rfl rfl hl.1 rfl (lv_room (Nat.le_of_ble_eq_true rfl)) dX9_readsSteppe_68 ⟨le_R hRc (Nat.le_refl 0), le_R hRs (Nat.le_refl 0)⟩) hS (fun r25 σ24 H locs hr1 hP hD hS => ?_)
              have hv := hv r25 σ24 hr1
              refine lv_istore_n (lv' := [(3, .int r25), (0, .ref (ad 0)), (1, .int fr_), (2, .int n_)]) hx hb dX9_readsSteppe_71 rfl hl (by decide) rfl (fun ls hl => ?_)
              refine lv_goto (tgt := 45) hx hb dX9_readsSteppe_72 (by decide) ?_
              exact ih45 r25 σ24 _ _ _ hv hP hD hS (lv_sub hl [1, 2, 3, 0] rfl)
            · have hv := hv.2 c32
              refine lv_aload_n hx hb dX9_readsSteppe_57 rfl (lv_at hl 0 rfl) ?_
              refine va_get (ci := 9) (v := .int (rdI σ20 4)) (C := RX9) (T := TX9) (N := 38) hx hb hts hinX9 hown hK hP 0 (wR_0 cy ad σ20) rfl 7 (by decide) (hts (.fieldLink RX9 118 "TaleBansModel" "readAt" "I") (List.mem_of_getElem? (i := 1) rfl)) (fun x h => h) rfl dX9_readsSteppe_58 ?_
              refine lv_iload_n hx hb dX9_readsSteppe_61 rfl (lv_at hl 2 rfl) ?_
              refine lv_icmp_ge (tgt := 75) hx hb dX9_readsSteppe_62 (by decide) (fun c31 => ?_) (fun c31 => ?_)
              · have hv := hv.1 c31
                refine lv_iload_n hx hb dX9_readsSteppe_75 rfl (lv_at hl 3 rfl) ?_
                obtain ⟨h01, hv⟩ := hv
                rw [hZ]; rw [hQ] at hv
                exact W.zret (v := x19) hx hb hr (nar_b h01) (fun t ht hW => ⟨⟨x19, σ20, rfl, hv, ⟨P_of ht hP, hD⟩⟩, hS.F ht⟩) hS.2.2 dX9_readsSteppe_76
              · have hv := hv.2 c31
                refine lv_aload_n hx hb dX9_readsSteppe_65 rfl (lv_at hl 0 rfl) ?_
                refine lv_iload_n hx hb dX9_readsSteppe_66 rfl (lv_at hl 1 rfl) ?_
                refine lv_iload_n hx hb dX9_readsSteppe_67 rfl (lv_at hl 2 rfl) ?_
                obtain ⟨g26, g27, g28, hv⟩ := hv
                obtain ⟨hp, hv⟩ := hv
                refine k_rel_i (w := wR cy ad) (va_runV (As := [.int fr_, .int n_]) (rest := []) ⟨hx, hb, hml, hown, hts⟩ (h_X9_readsPerson D cy ad A fr_ n_ g26 g27 g28 σ20 hp) (cwV 2 hts gX9_readsSteppe_X9_readsPerson rfl rfl rfl (by decide +kernel) ⟨le_R hRf (Nat.le_of_ble_eq_true rfl), le_R hRl (Nat.le_of_ble_eq_true rfl)⟩) ⟨(fun a U g mk q => ⟨q.1, q.2.blind⟩), va_recv hK hP (ci := 9) (q0 := 0) rfl (wR_0 cy ad σ20), (fun U hU hW => ⟨rfl, WdR.pre hP hK hD hN hU hW⟩)⟩ rfl rfl hl.1 rfl (lv_room (Nat.le_of_ble_eq_true rfl)) dX9_readsSteppe_68 ⟨le_R hRc (Nat.le_refl 0), le_R hRs (Nat.le_refl 0)⟩) hS (fun r30 σ29 H locs hr1 hP hD hS => ?_)
                have hv := hv r30 σ29 hr1
                refine lv_istore_n (lv' := [(3, .int r30), (0, .ref (ad 0)), (1, .int fr_), (2, .int n_)]) hx hb dX9_readsSteppe_71 rfl hl (by decide) rfl (fun ls hl => ?_)
                refine lv_goto (tgt := 45) hx hb dX9_readsSteppe_72 (by decide) ?_
                exact ih45 r30 σ29 _ _ _ hv hP hD hS (lv_sub hl [1, 2, 3, 0] rfl)
      exact lp45 n45 b11 σ17 _ _ _ hv hP hD hS (lv_sub hl [1, 2, 3, 0] rfl)
    refine lv_if_eq (tgt := 40) hx hb dX9_readsSteppe_33 (by decide) (fun c16 => ?_) (fun c16 => ?_)
    · have hv := hv.1 c16
      refine lv_iconst (v := 0) hx hb dX9_readsSteppe_40 (by decide) ?_
      exact jn14 0 _ _ _ hv hP hS hl
    · have hv := hv.2 c16
      refine lv_iconst (v := 1) hx hb dX9_readsSteppe_36 (by decide) ?_
      refine lv_goto (tgt := 41) hx hb dX9_readsSteppe_37 (by decide) ?_
      exact jn14 1 _ _ _ hv hP hS hl
  refine lv_icmp_ne (tgt := 25) hx hb dX9_readsSteppe_18 (by decide) (fun c12 => ?_) (fun c12 => ?_)
  · have hv := hv.1 c12
    refine lv_iconst (v := 0) hx hb dX9_readsSteppe_25 (by decide) ?_
    exact jn10 0 _ _ _ hv hP hS hl
  · have hv := hv.2 c12
    refine lv_iconst (v := 1) hx hb dX9_readsSteppe_21 (by decide) ?_
    refine lv_goto (tgt := 26) hx hb dX9_readsSteppe_22 (by decide) ?_
    exact jn10 1 _ _ _ hv hP hS hl
set_option maxHeartbeats 4000000 in
set_option maxRecDepth 100000 in
theorem wk_X9_cellsBarred (l : Launch) (h_X9_failed : Ct_X9_failed l) (h_X9_isBeyond : Ct_X9_isBeyond l) (sp : Sp_X9_cellsBarred) : Ct_X9_cellsBarred l := by
  intro D cy ad A k_ lane_ i_ n_ ag k1g mg σ0  hpre
  refine Met.ofW (cc := cX9_cellsBarred) (maxL := 6) (ret := (some .int)) (by decide) rfl ?_
  intro p e s m args below meth c s₁ B hml hv0
  obtain ⟨rfl, hP, hK, hD, hN⟩ := hv0
  have hx := B.exec
  have hb := B.bytes
  have hr := B.returns
  have hts := atoms_spec (ws := wsX9_cellsBarred) B.pre
  have hown : s.vm.findClass RX9 = some m.cls := findClass_of_methodNamed B.named
  have hlocks := B.notSynchronized
  have hv := sp k_ lane_ i_ n_ ag k1g mg σ0 hpre
  have hl := lv_entry ([.ref (ad 0), .int k_, .int lane_, .int i_, .long n_]) (n := 6) (Nat.le_of_ble_eq_true rfl)
  rw [lg_entry_eq]
  generalize (lg_sl ([.ref (ad 0), .int k_, .int lane_, .int i_, .long n_]) ++ List.replicate (6 - (lg_sl ([.ref (ad 0), .int k_, .int lane_, .int i_, .long n_])).length) Slot.unset).toArray = ls at hl ⊢
  have hl : lv_has ls 6 [(0, .ref (ad 0)), (1, .int k_), (2, .int lane_), (3, .int i_), (4, .long n_)] := hl
  refine W_gen (fun R Z H locs hR hZ hH hlo => ?_)
  have hRf : R.frames = 1 := by rw [hR]; rfl
  have hRl : R.locals = 23 := by rw [hR]; rfl
  have hRc : R.cells = 0 := by rw [hR]; rfl
  have hRs : R.slots = 0 := by rw [hR]; rfl
  have hS : va_S A s.heap H locs := by rw [hH, hlo]; exact va_S.rf
  rw [← hH] at hP
  obtain ⟨Q, hQ⟩ : ∃ q : Int32 → S_ → Prop, q = (post_X9_cellsBarred k_ lane_ i_ n_ ag k1g mg σ0) := ⟨_, rfl⟩
  rw [← hQ] at hv
  have hinX9 : ∀ w ∈ wsX90, w ∈ wsX9_cellsBarred := by decide +kernel
  refine lv_aload_n hx hb dX9_cellsBarred_0 rfl (lv_at hl 0 rfl) ?_
  refine va_get (ci := 9) (v := .ref (ad (24))) (C := RX9) (T := TX9) (N := 38) hx hb hts hinX9 hown hK hP 0 (wR_0 cy ad σ0) rfl 33 (by decide) (hts (.fieldLink RX9 80 "TaleBansModel" "sheetSize" "[I") (List.mem_of_getElem? (i := 1) rfl)) (fun x h => h) rfl dX9_cellsBarred_1 ?_
  refine lv_iload_n hx hb dX9_cellsBarred_4 rfl (lv_at hl 1 rfl) ?_
  obtain ⟨hi, hv⟩ := hv
  refine va_iald hx hb hK hP 24 0 (wR_24 cy ad σ0) rfl hi dX9_cellsBarred_5 ?_
  refine lv_if_lt (tgt := 25) hx hb dX9_cellsBarred_6 (by decide) (fun c22 => ?_) (fun c22 => ?_)
  · have hv := hv.1 c22
    refine lv_aload_n hx hb dX9_cellsBarred_25 rfl (lv_at hl 0 rfl) ?_
    refine va_get (ci := 9) (v := .ref (ad (24))) (C := RX9) (T := TX9) (N := 38) hx hb hts hinX9 hown hK hP 0 (wR_0 cy ad σ0) rfl 33 (by decide) (hts (.fieldLink RX9 80 "TaleBansModel" "sheetSize" "[I") (List.mem_of_getElem? (i := 1) rfl)) (fun x h => h) rfl dX9_cellsBarred_26 ?_
    refine lv_iload_n hx hb dX9_cellsBarred_29 rfl (lv_at hl 1 rfl) ?_
    obtain ⟨hi, hv⟩ := hv
    refine va_iald hx hb hK hP 24 0 (wR_24 cy ad σ0) rfl hi dX9_cellsBarred_30 ?_
    refine lv_if_ge (tgt := 40) hx hb dX9_cellsBarred_31 (by decide) (fun c9 => ?_) (fun c9 => ?_)
    · have hv := hv.1 c9
      refine lv_lload hx hb dX9_cellsBarred_40 (lv_at hl 4 rfl) ?_
      refine lv_lconst (v := 0) hx hb dX9_cellsBarred_42 rfl ?_
      refine W.lcmp hx hb dX9_cellsBarred_43 ?_
      refine lv_if_ge (tgt := 53) hx hb dX9_cellsBarred_44 (by decide) (fun c6 => ?_) (fun c6 => ?_)
      · have hv := hv.1 c6
        refine lv_iload_n hx hb dX9_cellsBarred_53 rfl (lv_at hl 3 rfl) ?_
        refine lv_lload hx hb dX9_cellsBarred_54 (lv_at hl 4 rfl) ?_
        refine lv_aload_n hx hb dX9_cellsBarred_56 rfl (lv_at hl 0 rfl) ?_
        refine va_get (ci := 9) (v := .ref (ad (24))) (C := RX9) (T := TX9) (N := 38) hx hb hts hinX9 hown hK hP 0 (wR_0 cy ad σ0) rfl 33 (by decide) (hts (.fieldLink RX9 80 "TaleBansModel" "sheetSize" "[I") (List.mem_of_getElem? (i := 1) rfl)) (fun x h => h) rfl dX9_cellsBarred_57 ?_
        refine lv_iload_n hx hb dX9_cellsBarred_60 rfl (lv_at hl 1 rfl) ?_
        obtain ⟨hi, hv⟩ := hv
        refine va_iald hx hb hK hP 24 0 (wR_24 cy ad σ0) rfl hi dX9_cellsBarred_61 ?_
        refine k_pure_i (va_runS (As := [.int i_, .long n_, .int (rdA σ0 24 (Int32.toNatClampNeg k_))]) (rest := []) ⟨hx, hb, hml, hown, hts⟩ (h_X9_isBeyond i_ n_ (rdA σ0 24 (Int32.toNatClampNeg k_))) (va_cwS 3 hts gX9_cellsBarred_X9_isBeyond rfl rfl rfl (by decide +kernel) ⟨le_R hRf (Nat.le_of_ble_eq_true rfl), le_R hRl (Nat.le_of_ble_eq_true rfl)⟩) ⟨(fun a U g mk q => ⟨q.1, trivial⟩), (fun U hU hW => ⟨rfl, trivial⟩)⟩ rfl rfl hl.1 rfl (lv_room (Nat.le_of_ble_eq_true rfl)) dX9_cellsBarred_62 ⟨le_R hRc (Nat.le_refl 0), le_R hRs (Nat.le_refl 0)⟩) hS hP (fun r H locs hr1 hP hS => ?_)
        subst hr1
        refine lv_if_eq (tgt := 76) hx hb dX9_cellsBarred_65 (by decide) (fun c3 => ?_) (fun c3 => ?_)
        · have hv := hv.1 c3
          refine lv_iconst (v := 0) hx hb dX9_cellsBarred_76 (by decide) ?_
          rw [hZ]; rw [hQ] at hv
          exact W.iret (v := 0) hx hb hr (fun t ht hW => ⟨⟨0, σ0, rfl, hv, ⟨P_of ht hP, hD⟩⟩, hS.F ht⟩) hS.2.2 dX9_cellsBarred_77
        · have hv := hv.2 c3
          refine lv_aload_n hx hb dX9_cellsBarred_68 rfl (lv_at hl 0 rfl) ?_
          refine lv_iconst (v := 3) hx hb dX9_cellsBarred_69 (by decide) ?_
          have hp := True.intro
          refine k_rel_i (w := wR cy ad) (va_runV (As := [.int 3]) (rest := []) ⟨hx, hb, hml, hown, hts⟩ (h_X9_failed D cy ad A 3 σ0 hp) (cwV 1 hts gX9_cellsBarred_X9_failed rfl rfl rfl (by decide +kernel) ⟨le_R hRf (Nat.le_of_ble_eq_true rfl), le_R hRl (Nat.le_of_ble_eq_true rfl)⟩) ⟨(fun a U g mk q => ⟨q.1, q.2.blind⟩), va_recv hK hP (ci := 9) (q0 := 0) rfl (wR_0 cy ad σ0), (fun U hU hW => ⟨rfl, WdR.pre hP hK hD hN hU hW⟩)⟩ rfl rfl hl.1 rfl (lv_room (Nat.le_of_ble_eq_true rfl)) dX9_cellsBarred_70 ⟨le_R hRc (Nat.le_refl 0), le_R hRs (Nat.le_refl 0)⟩) hS (fun r2 σ1 H locs hr1 hP hD hS => ?_)
          have hv := hv r2 σ1 hr1
          refine lv_goto (tgt := 77) hx hb dX9_cellsBarred_73 (by decide) ?_
          rw [hZ]; rw [hQ] at hv
          exact W.iret (v := r2) hx hb hr (fun t ht hW => ⟨⟨r2, σ1, rfl, hv, ⟨P_of ht hP, hD⟩⟩, hS.F ht⟩) hS.2.2 dX9_cellsBarred_77
      · have hv := hv.2 c6
        refine lv_aload_n hx hb dX9_cellsBarred_47 rfl (lv_at hl 0 rfl) ?_
        refine lv_iconst (v := 4) hx hb dX9_cellsBarred_48 (by decide) ?_
        have hp := True.intro
        refine k_rel_i (w := wR cy ad) (va_runV (As := [.int 4]) (rest := []) ⟨hx, hb, hml, hown, hts⟩ (h_X9_failed D cy ad A 4 σ0 hp) (cwV 1 hts gX9_cellsBarred_X9_failed rfl rfl rfl (by decide +kernel) ⟨le_R hRf (Nat.le_of_ble_eq_true rfl), le_R hRl (Nat.le_of_ble_eq_true rfl)⟩) ⟨(fun a U g mk q => ⟨q.1, q.2.blind⟩), va_recv hK hP (ci := 9) (q0 := 0) rfl (wR_0 cy ad σ0), (fun U hU hW => ⟨rfl, WdR.pre hP hK hD hN hU hW⟩)⟩ rfl rfl hl.1 rfl (lv_room (Nat.le_of_ble_eq_true rfl)) dX9_cellsBarred_49 ⟨le_R hRc (Nat.le_refl 0), le_R hRs (Nat.le_refl 0)⟩) hS (fun r5 σ4 H locs hr1 hP hD hS => ?_)
        have hv := hv r5 σ4 hr1
        rw [hZ]; rw [hQ] at hv
        exact W.iret (v := r5) hx hb hr (fun t ht hW => ⟨⟨r5, σ4, rfl, hv, ⟨P_of ht hP, hD⟩⟩, hS.F ht⟩) hS.2.2 dX9_cellsBarred_52
    · have hv := hv.2 c9
      refine lv_aload_n hx hb dX9_cellsBarred_34 rfl (lv_at hl 0 rfl) ?_
      refine lv_iconst (v := 1) hx hb dX9_cellsBarred_35 (by decide) ?_
      have hp := True.intro
      refine k_rel_i (w := wR cy ad) (va_runV (As := [.int 1]) (rest := []) ⟨hx, hb, hml, hown, hts⟩ (h_X9_failed D cy ad A 1 σ0 hp) (cwV 1 hts gX9_cellsBarred_X9_failed rfl rfl rfl (by decide +kernel) ⟨le_R hRf (Nat.le_of_ble_eq_true rfl), le_R hRl (Nat.le_of_ble_eq_true rfl)⟩) ⟨(fun a U g mk q => ⟨q.1, q.2.blind⟩), va_recv hK hP (ci := 9) (q0 := 0) rfl (wR_0 cy ad σ0), (fun U hU hW => ⟨rfl, WdR.pre hP hK hD hN hU hW⟩)⟩ rfl rfl hl.1 rfl (lv_room (Nat.le_of_ble_eq_true rfl)) dX9_cellsBarred_36 ⟨le_R hRc (Nat.le_refl 0), le_R hRs (Nat.le_refl 0)⟩) hS (fun r8 σ7 H locs hr1 hP hD hS => ?_)
      have hv := hv r8 σ7 hr1
      rw [hZ]; rw [hQ] at hv
      exact W.iret (v := r8) hx hb hr (fun t ht hW => ⟨⟨r8, σ7, rfl, hv, ⟨P_of ht hP, hD⟩⟩, hS.F ht⟩) hS.2.2 dX9_cellsBarred_39
  · have hv := hv.2 c22
    refine lv_aload_n hx hb dX9_cellsBarred_9 rfl (lv_at hl 0 rfl) ?_
    refine va_get (ci := 9) (v := .ref (ad (25))) (C := RX9) (T := TX9) (N := 38) hx hb hts hinX9 hown hK hP 0 (wR_0 cy ad σ0) rfl 34 (by decide) (hts (.fieldLink RX9 83 "TaleBansModel" "sheetLane" "[I") (List.mem_of_getElem? (i := 2) rfl)) (fun x h => h) rfl dX9_cellsBarred_10 ?_
    refine lv_iload_n hx hb dX9_cellsBarred_13 rfl (lv_at hl 1 rfl) ?_
    obtain ⟨hi, hv⟩ := hv
    refine va_iald hx hb hK hP 25 0 (wR_25 cy ad σ0) rfl hi dX9_cellsBarred_14 ?_
    refine lv_iload_n hx hb dX9_cellsBarred_15 rfl (lv_at hl 2 rfl) ?_
    refine lv_icmp_eq (tgt := 25) hx hb dX9_cellsBarred_16 (by decide) (fun c21 => ?_) (fun c21 => ?_)
    · have hv := hv.1 c21
      refine lv_aload_n hx hb dX9_cellsBarred_25 rfl (lv_at hl 0 rfl) ?_
      refine va_get (ci := 9) (v := .ref (ad (24))) (C := RX9) (T := TX9) (N := 38) hx hb hts hinX9 hown hK hP 0 (wR_0 cy ad σ0) rfl 33 (by decide) (hts (.fieldLink RX9 80 "TaleBansModel" "sheetSize" "[I") (List.mem_of_getElem? (i := 1) rfl)) (fun x h => h) rfl dX9_cellsBarred_26 ?_
      refine lv_iload_n hx hb dX9_cellsBarred_29 rfl (lv_at hl 1 rfl) ?_
      obtain ⟨hi, hv⟩ := hv
      refine va_iald hx hb hK hP 24 0 (wR_24 cy ad σ0) rfl hi dX9_cellsBarred_30 ?_
      refine lv_if_ge (tgt := 40) hx hb dX9_cellsBarred_31 (by decide) (fun c18 => ?_) (fun c18 => ?_)
      · have hv := hv.1 c18
        refine lv_lload hx hb dX9_cellsBarred_40 (lv_at hl 4 rfl) ?_
        refine lv_lconst (v := 0) hx hb dX9_cellsBarred_42 rfl ?_
        refine W.lcmp hx hb dX9_cellsBarred_43 ?_
        refine lv_if_ge (tgt := 53) hx hb dX9_cellsBarred_44 (by decide) (fun c15 => ?_) (fun c15 => ?_)
        · have hv := hv.1 c15
          refine lv_iload_n hx hb dX9_cellsBarred_53 rfl (lv_at hl 3 rfl) ?_
          refine lv_lload hx hb dX9_cellsBarred_54 (lv_at hl 4 rfl) ?_
          refine lv_aload_n hx hb dX9_cellsBarred_56 rfl (lv_at hl 0 rfl) ?_
          refine va_get (ci := 9) (v := .ref (ad (24))) (C := RX9) (T := TX9) (N := 38) hx hb hts hinX9 hown hK hP 0 (wR_0 cy ad σ0) rfl 33 (by decide) (hts (.fieldLink RX9 80 "TaleBansModel" "sheetSize" "[I") (List.mem_of_getElem? (i := 1) rfl)) (fun x h => h) rfl dX9_cellsBarred_57 ?_
          refine lv_iload_n hx hb dX9_cellsBarred_60 rfl (lv_at hl 1 rfl) ?_
          obtain ⟨hi, hv⟩ := hv
          refine va_iald hx hb hK hP 24 0 (wR_24 cy ad σ0) rfl hi dX9_cellsBarred_61 ?_
          refine k_pure_i (va_runS (As := [.int i_, .long n_, .int (rdA σ0 24 (Int32.toNatClampNeg k_))]) (rest := []) ⟨hx, hb, hml, hown, hts⟩ (h_X9_isBeyond i_ n_ (rdA σ0 24 (Int32.toNatClampNeg k_))) (va_cwS 3 hts gX9_cellsBarred_X9_isBeyond rfl rfl rfl (by decide +kernel) ⟨le_R hRf (Nat.le_of_ble_eq_true rfl), le_R hRl (Nat.le_of_ble_eq_true rfl)⟩) ⟨(fun a U g mk q => ⟨q.1, trivial⟩), (fun U hU hW => ⟨rfl, trivial⟩)⟩ rfl rfl hl.1 rfl (lv_room (Nat.le_of_ble_eq_true rfl)) dX9_cellsBarred_62 ⟨le_R hRc (Nat.le_refl 0), le_R hRs (Nat.le_refl 0)⟩) hS hP (fun r H locs hr1 hP hS => ?_)
          subst hr1
          refine lv_if_eq (tgt := 76) hx hb dX9_cellsBarred_65 (by decide) (fun c12 => ?_) (fun c12 => ?_)
          · have hv := hv.1 c12
            refine lv_iconst (v := 0) hx hb dX9_cellsBarred_76 (by decide) ?_
            rw [hZ]; rw [hQ] at hv
            exact W.iret (v := 0) hx hb hr (fun t ht hW => ⟨⟨0, σ0, rfl, hv, ⟨P_of ht hP, hD⟩⟩, hS.F ht⟩) hS.2.2 dX9_cellsBarred_77
          · have hv := hv.2 c12
            refine lv_aload_n hx hb dX9_cellsBarred_68 rfl (lv_at hl 0 rfl) ?_
            refine lv_iconst (v := 3) hx hb dX9_cellsBarred_69 (by decide) ?_
            have hp := True.intro
            refine k_rel_i (w := wR cy ad) (va_runV (As := [.int 3]) (rest := []) ⟨hx, hb, hml, hown, hts⟩ (h_X9_failed D cy ad A 3 σ0 hp) (cwV 1 hts gX9_cellsBarred_X9_failed rfl rfl rfl (by decide +kernel) ⟨le_R hRf (Nat.le_of_ble_eq_true rfl), le_R hRl (Nat.le_of_ble_eq_true rfl)⟩) ⟨(fun a U g mk q => ⟨q.1, q.2.blind⟩), va_recv hK hP (ci := 9) (q0 := 0) rfl (wR_0 cy ad σ0), (fun U hU hW => ⟨rfl, WdR.pre hP hK hD hN hU hW⟩)⟩ rfl rfl hl.1 rfl (lv_room (Nat.le_of_ble_eq_true rfl)) dX9_cellsBarred_70 ⟨le_R hRc (Nat.le_refl 0), le_R hRs (Nat.le_refl 0)⟩) hS (fun r11 σ10 H locs hr1 hP hD hS => ?_)
            have hv := hv r11 σ10 hr1
            refine lv_goto (tgt := 77) hx hb dX9_cellsBarred_73 (by decide) ?_
            rw [hZ]; rw [hQ] at hv
            exact W.iret (v := r11) hx hb hr (fun t ht hW => ⟨⟨r11, σ10, rfl, hv, ⟨P_of ht hP, hD⟩⟩, hS.F ht⟩) hS.2.2 dX9_cellsBarred_77
        · have hv := hv.2 c15
          refine lv_aload_n hx hb dX9_cellsBarred_47 rfl (lv_at hl 0 rfl) ?_
          refine lv_iconst (v := 4) hx hb dX9_cellsBarred_48 (by decide) ?_
          have hp := True.intro
          refine k_rel_i (w := wR cy ad) (va_runV (As := [.int 4]) (rest := []) ⟨hx, hb, hml, hown, hts⟩ (h_X9_failed D cy ad A 4 σ0 hp) (cwV 1 hts gX9_cellsBarred_X9_failed rfl rfl rfl (by decide +kernel) ⟨le_R hRf (Nat.le_of_ble_eq_true rfl), le_R hRl (Nat.le_of_ble_eq_true rfl)⟩) ⟨(fun a U g mk q => ⟨q.1, q.2.blind⟩), va_recv hK hP (ci := 9) (q0 := 0) rfl (wR_0 cy ad σ0), (fun U hU hW => ⟨rfl, WdR.pre hP hK hD hN hU hW⟩)⟩ rfl rfl hl.1 rfl (lv_room (Nat.le_of_ble_eq_true rfl)) dX9_cellsBarred_49 ⟨le_R hRc (Nat.le_refl 0), le_R hRs (Nat.le_refl 0)⟩) hS (fun r14 σ13 H locs hr1 hP hD hS => ?_)
          have hv := hv r14 σ13 hr1
          rw [hZ]; rw [hQ] at hv
          exact W.iret (v := r14) hx hb hr (fun t ht hW => ⟨⟨r14, σ13, rfl, hv, ⟨P_of ht hP, hD⟩⟩, hS.F ht⟩) hS.2.2 dX9_cellsBarred_52
      · have hv := hv.2 c18
        refine lv_aload_n hx hb dX9_cellsBarred_34 rfl (lv_at hl 0 rfl) ?_
        refine lv_iconst (v := 1) hx hb dX9_cellsBarred_35 (by decide) ?_
        have hp := True.intro
        refine k_rel_i (w := wR cy ad) (va_runV (As := [.int 1]) (rest := []) ⟨hx, hb, hml, hown, hts⟩ (h_X9_failed D cy ad A 1 σ0 hp) (cwV 1 hts gX9_cellsBarred_X9_failed rfl rfl rfl (by decide +kernel) ⟨le_R hRf (Nat.le_of_ble_eq_true rfl), le_R hRl (Nat.le_of_ble_eq_true rfl)⟩) ⟨(fun a U g mk q => ⟨q.1, q.2.blind⟩), va_recv hK hP (ci := 9) (q0 := 0) rfl (wR_0 cy ad σ0), (fun U hU hW => ⟨rfl, WdR.pre hP hK hD hN hU hW⟩)⟩ rfl rfl hl.1 rfl (lv_room (Nat.le_of_ble_eq_true rfl)) dX9_cellsBarred_36 ⟨le_R hRc (Nat.le_refl 0), le_R hRs (Nat.le_refl 0)⟩) hS (fun r17 σ16 H locs hr1 hP hD hS => ?_)
        have hv := hv r17 σ16 hr1
        rw [hZ]; rw [hQ] at hv
        exact W.iret (v := r17) hx hb hr (fun t ht hW => ⟨⟨r17, σ16, rfl, hv, ⟨P_of ht hP, hD⟩⟩, hS.F ht⟩) hS.2.2 dX9_cellsBarred_39
    · have hv := hv.2 c21
      refine lv_aload_n hx hb dX9_cellsBarred_19 rfl (lv_at hl 0 rfl) ?_
      refine lv_iconst (v := 2) hx hb dX9_cellsBarred_20 (by decide) ?_
      have hp := True.intro
      refine k_rel_i (w := wR cy ad) (va_runV (As := [.int 2]) (rest := []) ⟨hx, hb, hml, hown, hts⟩ (h_X9_failed D cy ad A 2 σ0 hp) (cwV 1 hts gX9_cellsBarred_X9_failed rfl rfl rfl (by decide +kernel) ⟨le_R hRf (Nat.le_of_ble_eq_true rfl), le_R hRl (Nat.le_of_ble_eq_true rfl)⟩) ⟨(fun a U g mk q => ⟨q.1, q.2.blind⟩), va_recv hK hP (ci := 9) (q0 := 0) rfl (wR_0 cy ad σ0), (fun U hU hW => ⟨rfl, WdR.pre hP hK hD hN hU hW⟩)⟩ rfl rfl hl.1 rfl (lv_room (Nat.le_of_ble_eq_true rfl)) dX9_cellsBarred_21 ⟨le_R hRc (Nat.le_refl 0), le_R hRs (Nat.le_refl 0)⟩) hS (fun r20 σ19 H locs hr1 hP hD hS => ?_)
      have hv := hv r20 σ19 hr1
      rw [hZ]; rw [hQ] at hv
      exact W.iret (v := r20) hx hb hr (fun t ht hW => ⟨⟨r20, σ19, rfl, hv, ⟨P_of ht hP, hD⟩⟩, hS.F ht⟩) hS.2.2 dX9_cellsBarred_24
set_option maxHeartbeats 4000000 in
set_option maxRecDepth 100000 in
theorem wk_X9_memoryOf (l : Launch) (sp : Sp_X9_memoryOf) : Ct_X9_memoryOf l := by
  intro D cy ad A p_ ag p1g σ0  hpre
  refine Met.ofW (cc := cX9_memoryOf) (maxL := 3) (ret := (some .int)) (by decide) rfl ?_
  intro p e s m args below meth c s₁ B hml hv0
  obtain ⟨rfl, hP, hK, hD, hN⟩ := hv0
  have hx := B.exec
  have hb := B.bytes
  have hr := B.returns
  have hts := atoms_spec (ws := wsX9_memoryOf) B.pre
  have hown : s.vm.findClass RX9 = some m.cls := findClass_of_methodNamed B.named
  have hlocks := B.notSynchronized
  have hv := sp p_ ag p1g σ0 hpre
  have hl := lv_entry ([.ref (ad 0), .int p_]) (n := 3) (Nat.le_of_ble_eq_true rfl)
  rw [lg_entry_eq]
  generalize (lg_sl ([.ref (ad 0), .int p_]) ++ List.replicate (3 - (lg_sl ([.ref (ad 0), .int p_])).length) Slot.unset).toArray = ls at hl ⊢
  have hl : lv_has ls 3 [(0, .ref (ad 0)), (1, .int p_)] := hl
  refine W_gen (fun R Z H locs hR hZ hH hlo => ?_)
  have hRf : R.frames = 0 := by rw [hR]; rfl
  have hRl : R.locals = 0 := by rw [hR]; rfl
  have hRc : R.cells = 0 := by rw [hR]; rfl
  have hRs : R.slots = 0 := by rw [hR]; rfl
  have hS : va_S A s.heap H locs := by rw [hH, hlo]; exact va_S.rf
  rw [← hH] at hP
  obtain ⟨Q, hQ⟩ : ∃ q : Int32 → Prop, q = (fun r => post_X9_memoryOf p_ ag p1g σ0 r) := ⟨_, rfl⟩
  rw [← hQ] at hv
  have hinX9 : ∀ w ∈ wsX90, w ∈ wsX9_memoryOf := by decide +kernel
  refine lv_aload_n hx hb dX9_memoryOf_0 rfl (lv_at hl 0 rfl) ?_
  refine va_get (ci := 9) (v := .ref (ad (2))) (C := RX9) (T := TX9) (N := 38) hx hb hts hinX9 hown hK hP 0 (wR_0 cy ad σ0) rfl 3 (by decide) (hts (.fieldLink RX9 13 "TaleBansModel" "mindsOf" "[I") (List.mem_of_getElem? (i := 1) rfl)) (fun x h => h) rfl dX9_memoryOf_1 ?_
  refine lv_iload_n hx hb dX9_memoryOf_4 rfl (lv_at hl 1 rfl) ?_
  obtain ⟨hi, hv⟩ := hv
  refine va_iald hx hb hK hP 2 0 (wR_2 cy ad σ0) rfl hi dX9_memoryOf_5 ?_
  refine lv_istore_n (lv' := [(2, .int (rdA σ0 2 (Int32.toNatClampNeg p_))), (0, .ref (ad 0)), (1, .int p_)]) hx hb dX9_memoryOf_6 rfl hl (by decide) rfl (fun ls hl => ?_)
  refine lv_aload_n hx hb dX9_memoryOf_7 rfl (lv_at hl 1 rfl) ?_
  refine va_get (ci := 9) (v := .ref (ad (1))) (C := RX9) (T := TX9) (N := 38) hx hb hts hinX9 hown hK hP 0 (wR_0 cy ad σ0) rfl 2 (by decide) (hts (.fieldLink RX9 7 "TaleBansModel" "kindOf" "[I") (List.mem_of_getElem? (i := 2) rfl)) (fun x h => h) rfl dX9_memoryOf_8 ?_
  refine lv_iload_n hx hb dX9_memoryOf_11 rfl (lv_at hl 2 rfl) ?_
  obtain ⟨hi, hv⟩ := hv
  refine va_iald hx hb hK hP 1 0 (wR_1 cy ad σ0) rfl hi dX9_memoryOf_12 ?_
  refine lv_if_ne (tgt := 20) hx hb dX9_memoryOf_13 (by decide) (fun c2 => ?_) (fun c2 => ?_)
  · have hv := hv.1 c2
    refine lv_aload_n hx hb dX9_memoryOf_20 rfl (lv_at hl 1 rfl) ?_
    refine va_get (ci := 9) (v := .ref (ad (1))) (C := RX9) (T := TX9) (N := 38) hx hb hts hinX9 hown hK hP 0 (wR_0 cy ad σ0) rfl 2 (by decide) (hts (.fieldLink RX9 7 "TaleBansModel" "kindOf" "[I") (List.mem_of_getElem? (i := 2) rfl)) (fun x h => h) rfl dX9_memoryOf_21 ?_
    refine lv_iload_n hx hb dX9_memoryOf_24 rfl (lv_at hl 2 rfl) ?_
    obtain ⟨hi, hv⟩ := hv
    refine va_iald hx hb hK hP 1 0 (wR_1 cy ad σ0) rfl hi dX9_memoryOf_25 ?_
    refine lv_iconst (v := 1) hx hb dX9_memoryOf_26 (by decide) ?_
    refine lv_icmp_ne (tgt := 36) hx hb dX9_memoryOf_27 (by decide) (fun c1 => ?_) (fun c1 => ?_)
    · have hv := hv.1 c1
      refine lv_iconst (v := 2) hx hb dX9_memoryOf_36 (by decide) ?_
      refine lv_iload_n hx hb dX9_memoryOf_37 rfl (lv_at hl 0 rfl) ?_
      refine lv_iconst (v := 2) hx hb dX9_memoryOf_38 (by decide) ?_
      refine lv_iadd hx hb dX9_memoryOf_39 ?_
      refine lv_imul hx hb dX9_memoryOf_40 ?_
      rw [hZ]; rw [hQ] at hv
      exact W.iret (v := (2 * ((rdA σ0 2 (Int32.toNatClampNeg p_)) + 2))) hx hb hr (fun t ht hW => ⟨⟨(2 * ((rdA σ0 2 (Int32.toNatClampNeg p_)) + 2)), (), rfl, hv, (P_of ht hP)⟩, hS.F ht⟩) hS.2.2 dX9_memoryOf_41
    · have hv := hv.2 c1
      refine lv_iload_n hx hb dX9_memoryOf_30 rfl (lv_at hl 0 rfl) ?_
      refine lv_iconst (v := 2) hx hb dX9_memoryOf_31 (by decide) ?_
      refine lv_iadd hx hb dX9_memoryOf_32 ?_
      refine lv_goto (tgt := 41) hx hb dX9_memoryOf_33 (by decide) ?_
      rw [hZ]; rw [hQ] at hv
      exact W.iret (v := ((rdA σ0 2 (Int32.toNatClampNeg p_)) + 2)) hx hb hr (fun t ht hW => ⟨⟨((rdA σ0 2 (Int32.toNatClampNeg p_)) + 2), (), rfl, hv, (P_of ht hP)⟩, hS.F ht⟩) hS.2.2 dX9_memoryOf_41
  · have hv := hv.2 c2
    refine lv_iload_n hx hb dX9_memoryOf_16 rfl (lv_at hl 0 rfl) ?_
    refine lv_goto (tgt := 41) hx hb dX9_memoryOf_17 (by decide) ?_
    rw [hZ]; rw [hQ] at hv
    exact W.iret (v := (rdA σ0 2 (Int32.toNatClampNeg p_))) hx hb hr (fun t ht hW => ⟨⟨(rdA σ0 2 (Int32.toNatClampNeg p_)), (), rfl, hv, (P_of ht hP)⟩, hS.F ht⟩) hS.2.2 dX9_memoryOf_41
set_option maxHeartbeats 4000000 in
set_option maxRecDepth 100000 in
theorem wk_X9_begin (l : Launch) (sp : Sp_X9_begin) : Ct_X9_begin l := by
  intro D cy ad A  ag σ0  hpre
  refine Met.ofW (cc := cX9_begin) (maxL := 2) (ret := none) (by decide) rfl ?_
  intro p e s m args below meth c s₁ B hml hv0
  obtain ⟨rfl, hP, hK, hD, hN⟩ := hv0
  have hx := B.exec
  have hb := B.bytes
  have hr := B.returns
  have hts := atoms_spec (ws := wsX9_begin) B.pre
  have hown : s.vm.findClass RX9 = some m.cls := findClass_of_methodNamed B.named
  have hlocks := B.notSynchronized
  have hv := sp  ag σ0 hpre
  have hl := lv_entry ([.ref (ad 0)]) (n := 2) (Nat.le_of_ble_eq_true rfl)
  rw [lg_entry_eq]
  generalize (lg_sl ([.ref (ad 0)]) ++ List.replicate (2 - (lg_sl ([.ref (ad 0)])).length) Slot.unset).toArray = ls at hl ⊢
  have hl : lv_has ls 2 [(0, .ref (ad 0))] := hl
  refine W_gen (fun R Z H locs hR hZ hH hlo => ?_)
  have hRf : R.frames = 0 := by rw [hR]; rfl
  have hRl : R.locals = 0 := by rw [hR]; rfl
  have hRc : R.cells = 0 := by rw [hR]; rfl
  have hRs : R.slots = 0 := by rw [hR]; rfl
  have hS : va_S A s.heap H locs := by rw [hH, hlo]; exact va_S.rf
  rw [← hH] at hP
  obtain ⟨Q, hQ⟩ : ∃ q : S_ → Prop, q = (post_X9_begin  ag σ0) := ⟨_, rfl⟩
  rw [← hQ] at hv
  have hinX9 : ∀ w ∈ wsX90, w ∈ wsX9_begin := by decide +kernel
  refine lv_iconst (v := 0) hx hb dX9_begin_0 (by decide) ?_
  refine lv_istore_n (lv' := [(1, .int 0), (0, .ref (ad 0))]) hx hb dX9_begin_1 rfl hl (by decide) rfl (fun ls hl => ?_)
  obtain ⟨n2, hv⟩ := hv
  have lp2 : ∀ (nn2 : Nat) (x1 : Int32) (σ2 : S_) (H : Heap) (locs : List Loc) (ls : Array Slot), vl_X9_begin_2 Q nn2 x1 σ2 → va_P D vwCl (wR cy ad σ2) H → va_D A (wR cy ad σ2) → va_S A s.heap H locs → lv_has ls 2 [(0, .ref (ad 0)), (1, .int x1)] → W p l e R s m ([.ref (ad 0)] : List Value).toArray  below meth c H locs 0 0 Z (F0 m 2 ls []) := by
    intro nn2
    induction nn2 with
    | zero => intro x1 σ2 H locs ls hv; exact absurd hv id
    | succ mm2 ih2 =>
      intro x1 σ2 H locs ls hv hP hD hS hl
      refine lv_iload_n hx hb dX9_begin_2 rfl (lv_at hl 1 rfl) ?_
      refine lv_aload_n hx hb dX9_begin_3 rfl (lv_at hl 0 rfl) ?_
      refine va_get (ci := 9) (v := .int (rdI σ2 1)) (C := RX9) (T := TX9) (N := 38) hx hb hts hinX9 hown hK hP 0 (wR_0 cy ad σ2) rfl 1 (by decide) (hts (.fieldLink RX9 102 "TaleBansModel" "persons" "I") (List.mem_of_getElem? (i := 1) rfl)) (fun x h => h) rfl dX9_begin_4 ?_
      refine lv_icmp_ge (tgt := 28) hx hb dX9_begin_7 (by decide) (fun c15 => ?_) (fun c15 => ?_)
      · have hv := hv.1 c15
        refine lv_iconst (v := 0) hx hb dX9_begin_28 (by decide) ?_
        refine lv_istore_n (lv' := [(1, .int 0), (0, .ref (ad 0))]) hx hb dX9_begin_29 rfl hl (by decide) rfl (fun ls hl => ?_)
        obtain ⟨n30, hv⟩ := hv
        have lp30 : ∀ (nn30 : Nat) (x3 : Int32) (σ4 : S_) (H : Heap) (locs : List Loc) (ls : Array Slot), vl_X9_begin_30 Q nn30 x3 σ4 → va_P D vwCl (wR cy ad σ4) H → va_D A (wR cy ad σ4) → va_S A s.heap H locs → lv_has ls 2 [(0, .ref (ad 0)), (1, .int x3)] → W p l e R s m ([.ref (ad 0)] : List Value).toArray  below meth c H locs 0 0 Z (F0 m 30 ls []) := by
          intro nn30
          induction nn30 with
          | zero => intro x3 σ4 H locs ls hv; exact absurd hv id
          | succ mm30 ih30 =>
            intro x3 σ4 H locs ls hv hP hD hS hl
            refine lv_iload_n hx hb dX9_begin_30 rfl (lv_at hl 1 rfl) ?_
            refine lv_bipush (v := 36) hx hb dX9_begin_31 (by decide) ?_
            refine lv_icmp_ge (tgt := 51) hx hb dX9_begin_33 (by decide) (fun c12 => ?_) (fun c12 => ?_)
            · have hv := hv.1 c12
              refine lv_iconst (v := 0) hx hb dX9_begin_51 (by decide) ?_
              refine lv_istore_n (lv' := [(1, .int 0), (0, .ref (ad 0))]) hx hb dX9_begin_52 rfl hl (by decide) rfl (fun ls hl => ?_)
              obtain ⟨n53, hv⟩ := hv
              have lp53 : ∀ (nn53 : Nat) (x5 : Int32) (σ6 : S_) (H : Heap) (locs : List Loc) (ls : Array Slot), vl_X9_begin_53 Q nn53 x5 σ6 → va_P D vwCl (wR cy ad σ6) H → va_D A (wR cy ad σ6) → va_S A s.heap H locs → lv_has ls 2 [(0, .ref (ad 0)), (1, .int x5)] → W p l e R s m ([.ref (ad 0)] : List Value).toArray  below meth c H locs 0 0 Z (F0 m 53 ls []) := by
                intro nn53
                induction nn53 with
                | zero => intro x5 σ6 H locs ls hv; exact absurd hv id
                | succ mm53 ih53 =>
                  intro x5 σ6 H locs ls hv hP hD hS hl
                  refine lv_iload_n hx hb dX9_begin_53 rfl (lv_at hl 1 rfl) ?_
                  refine lv_bipush (v := 18) hx hb dX9_begin_54 (by decide) ?_
                  refine lv_icmp_ge (tgt := 74) hx hb dX9_begin_56 (by decide) (fun c9 => ?_) (fun c9 => ?_)
                  · have hv := hv.1 c9
                    rw [hZ]; rw [hQ] at hv
                    exact W.vret hx hb hr (fun t ht hW => ⟨⟨σ6, rfl, hv, ⟨P_of ht hP, hD⟩⟩, hS.F ht⟩) hS.2.2 dX9_begin_74
                  · have hv := hv.2 c9
                    refine lv_aload_n hx hb dX9_begin_59 rfl (lv_at hl 0 rfl) ?_
                    refine va_get (ci := 9) (v := .ref (ad (16))) (C := RX9) (T := TX9) (N := 38) hx hb hts hinX9 hown hK hP 0 (wR_0 cy ad σ6) rfl 23 (by decide) (hts (.fieldLink RX9 56 "TaleBansModel" "toldIn" "[I") (List.mem_of_getElem? (i := 5) rfl)) (fun x h => h) rfl dX9_begin_60 ?_
                    refine lv_iload_n hx hb dX9_begin_63 rfl (lv_at hl 1 rfl) ?_
                    refine lv_sipush (v := (-999)) hx hb dX9_begin_64 (by decide) ?_
                    obtain ⟨hi, hv⟩ := hv
                    refine va_iast hx hb hK hP hD hS 16 0 (wR_16 cy ad σ6) rfl hi dX9_begin_67 (fun H locs hP hD hS => ?_)
                    obtain ⟨σ7, e8⟩ : ∃ y : S_, y = wr2 σ6 16 (Int32.toNatClampNeg x5) (-999) := ⟨_, rfl⟩
                    have hP : va_P D vwCl (wR cy ad σ7) H := by rw [e8]; exact hP
                    have hD : va_D A (wR cy ad σ7) := by rw [e8]; exact hD
                    have hv := hv σ7 e8
                    refine lv_iinc (v := (x5 + 1)) (lv' := [(1, .int (x5 + 1)), (0, .ref (ad 0))]) hx hb dX9_begin_68 hl (k := 1) rfl rfl (by decide) rfl (fun ls hl => ?_)
                    refine lv_goto (tgt := 53) hx hb dX9_begin_71 (by decide) ?_
                    exact ih53 (x5 + 1) σ7 _ _ _ hv hP hD hS (lv_sub hl [1, 0] rfl)
              exact lp53 n53 0 σ4 _ _ _ hv hP hD hS (lv_sub hl [1, 0] rfl)
            · have hv := hv.2 c12
              refine lv_aload_n hx hb dX9_begin_36 rfl (lv_at hl 0 rfl) ?_
              refine va_get (ci := 9) (v := .ref (ad (15))) (C := RX9) (T := TX9) (N := 38) hx hb hts hinX9 hown hK hP 0 (wR_0 cy ad σ4) rfl 22 (by decide) (hts (.fieldLink RX9 53 "TaleBansModel" "heardIn" "[I") (List.mem_of_getElem? (i := 4) rfl)) (fun x h => h) rfl dX9_begin_37 ?_
              refine lv_iload_n hx hb dX9_begin_40 rfl (lv_at hl 1 rfl) ?_
              refine lv_sipush (v := (-999)) hx hb dX9_begin_41 (by decide) ?_
              obtain ⟨hi, hv⟩ := hv
              refine va_iast hx hb hK hP hD hS 15 0 (wR_15 cy ad σ4) rfl hi dX9_begin_44 (fun H locs hP hD hS => ?_)
              obtain ⟨σ10, e11⟩ : ∃ y : S_, y = wr2 σ4 15 (Int32.toNatClampNeg x3) (-999) := ⟨_, rfl⟩
              have hP : va_P D vwCl (wR cy ad σ10) H := by rw [e11]; exact hP
              have hD : va_D A (wR cy ad σ10) := by rw [e11]; exact hD
              have hv := hv σ10 e11
              refine lv_iinc (v := (x3 + 1)) (lv' := [(1, .int (x3 + 1)), (0, .ref (ad 0))]) hx hb dX9_begin_45 hl (k := 1) rfl rfl (by decide) rfl (fun ls hl => ?_)
              refine lv_goto (tgt := 30) hx hb dX9_begin_48 (by decide) ?_
              exact ih30 (x3 + 1) σ10 _ _ _ hv hP hD hS (lv_sub hl [1, 0] rfl)
        exact lp30 n30 0 σ2 _ _ _ hv hP hD hS (lv_sub hl [1, 0] rfl)
      · have hv := hv.2 c15
        refine lv_aload_n hx hb dX9_begin_10 rfl (lv_at hl 0 rfl) ?_
        refine va_get (ci := 9) (v := .ref (ad (14))) (C := RX9) (T := TX9) (N := 38) hx hb hts hinX9 hown hK hP 0 (wR_0 cy ad σ2) rfl 21 (by decide) (hts (.fieldLink RX9 50 "TaleBansModel" "isAt" "[I") (List.mem_of_getElem? (i := 2) rfl)) (fun x h => h) rfl dX9_begin_11 ?_
        refine lv_iload_n hx hb dX9_begin_14 rfl (lv_at hl 1 rfl) ?_
        refine lv_aload_n hx hb dX9_begin_15 rfl (lv_at hl 0 rfl) ?_
        refine va_get (ci := 9) (v := .ref (ad (3))) (C := RX9) (T := TX9) (N := 38) hx hb hts hinX9 hown hK hP 0 (wR_0 cy ad σ2) rfl 4 (by decide) (hts (.fieldLink RX9 16 "TaleBansModel" "hearthOf" "[I") (List.mem_of_getElem? (i := 3) rfl)) (fun x h => h) rfl dX9_begin_16 ?_
        refine lv_iload_n hx hb dX9_begin_19 rfl (lv_at hl 1 rfl) ?_
        obtain ⟨hi, hv⟩ := hv
        refine va_iald hx hb hK hP 3 0 (wR_3 cy ad σ2) rfl hi dX9_begin_20 ?_
        obtain ⟨hi, hv⟩ := hv
        refine va_iast hx hb hK hP hD hS 14 0 (wR_14 cy ad σ2) rfl hi dX9_begin_21 (fun H locs hP hD hS => ?_)
        obtain ⟨σ13, e14⟩ : ∃ y : S_, y = wr2 σ2 14 (Int32.toNatClampNeg x1) (rdA σ2 3 (Int32.toNatClampNeg x1)) := ⟨_, rfl⟩
        have hP : va_P D vwCl (wR cy ad σ13) H := by rw [e14]; exact hP
        have hD : va_D A (wR cy ad σ13) := by rw [e14]; exact hD
        have hv := hv σ13 e14
        refine lv_iinc (v := (x1 + 1)) (lv' := [(1, .int (x1 + 1)), (0, .ref (ad 0))]) hx hb dX9_begin_22 hl (k := 1) rfl rfl (by decide) rfl (fun ls hl => ?_)
        refine lv_goto (tgt := 2) hx hb dX9_begin_25 (by decide) ?_
        exact ih2 (x1 + 1) σ13 _ _ _ hv hP hD hS (lv_sub hl [1, 0] rfl)
  exact lp2 n2 0 σ0 _ _ _ hv hP hD hS (lv_sub hl [1, 0] rfl)
set_option maxHeartbeats 4000000 in
set_option maxRecDepth 100000 in
theorem wk_X9_doesRemember (l : Launch) (h_X9_memoryOf : Ct_X9_memoryOf l) (sp : Sp_X9_doesRemember) : Ct_X9_doesRemember l := by
  intro D cy ad A p_ t_ season_ ag rg Sg p1g t1g σ0  hpre
  refine Met.ofW (cc := cX9_doesRemember) (maxL := 4) (ret := (some .boolean)) (by decide) rfl ?_
  intro p e s m args below meth c s₁ B hml hv0
  obtain ⟨rfl, hP, hK, hD, hN⟩ := hv0
  have hx := B.exec
  have hb := B.bytes
  have hr := B.returns
  have hts := atoms_spec (ws := wsX9_doesRemember) B.pre
  have hown : s.vm.findClass RX9 = some m.cls := findClass_of_methodNamed B.named
  have hlocks := B.notSynchronized
  have hv := sp p_ t_ season_ ag rg Sg p1g t1g σ0 hpre
  have hl := lv_entry ([.ref (ad 0), .int p_, .int t_, .int season_]) (n := 4) (Nat.le_of_ble_eq_true rfl)
  rw [lg_entry_eq]
  generalize (lg_sl ([.ref (ad 0), .int p_, .int t_, .int season_]) ++ List.replicate (4 - (lg_sl ([.ref (ad 0), .int p_, .int t_, .int season_])).length) Slot.unset).toArray = ls at hl ⊢
  have hl : lv_has ls 4 [(0, .ref (ad 0)), (1, .int p_), (2, .int t_), (3, .int season_)] := hl
  refine W_gen (fun R Z H locs hR hZ hH hlo => ?_)
  have hRf : R.frames = 1 := by rw [hR]; rfl
  have hRl : R.locals = 22 := by rw [hR]; rfl
  have hRc : R.cells = 0 := by rw [hR]; rfl
  have hRs : R.slots = 0 := by rw [hR]; rfl
  have hS : va_S A s.heap H locs := by rw [hH, hlo]; exact va_S.rf
  rw [← hH] at hP
  obtain ⟨Q, hQ⟩ : ∃ q : Int32 → Prop, q = (fun r => post_X9_doesRemember p_ t_ season_ ag rg Sg p1g t1g σ0 r) := ⟨_, rfl⟩
  rw [← hQ] at hv
  have hinX9 : ∀ w ∈ wsX90, w ∈ wsX9_doesRemember := by decide +kernel
  refine lv_iload_n hx hb dX9_doesRemember_0 rfl (lv_at hl 3 rfl) ?_
  refine lv_aload_n hx hb dX9_doesRemember_1 rfl (lv_at hl 0 rfl) ?_
  refine va_get (ci := 9) (v := .ref (ad (15))) (C := RX9) (T := TX9) (N := 38) hx hb hts hinX9 hown hK hP 0 (wR_0 cy ad σ0) rfl 22 (by decide) (hts (.fieldLink RX9 53 "TaleBansModel" "heardIn" "[I") (List.mem_of_getElem? (i := 1) rfl)) (fun x h => h) rfl dX9_doesRemember_2 ?_
  refine lv_bipush (v := 6) hx hb dX9_doesRemember_5 (by decide) ?_
  refine lv_iload_n hx hb dX9_doesRemember_7 rfl (lv_at hl 1 rfl) ?_
  refine lv_imul hx hb dX9_doesRemember_8 ?_
  refine lv_iload_n hx hb dX9_doesRemember_9 rfl (lv_at hl 2 rfl) ?_
  refine lv_iadd hx hb dX9_doesRemember_10 ?_
  obtain ⟨hi, hv⟩ := hv
  refine va_iald hx hb hK hP 15 0 (wR_15 cy ad σ0) rfl hi dX9_doesRemember_11 ?_
  refine lv_isub hx hb dX9_doesRemember_12 ?_
  refine lv_aload_n hx hb dX9_doesRemember_13 rfl (lv_at hl 0 rfl) ?_
  refine lv_iload_n hx hb dX9_doesRemember_14 rfl (lv_at hl 1 rfl) ?_
  obtain ⟨g1, g2, hv⟩ := hv
  obtain ⟨hp, hv⟩ := hv
  refine k_read_i (w := wR cy ad) (va_runV (As := [.int p_]) (rest := [.int (season_ - (rdA σ0 15 (Int32.toNatClampNeg ((6 * p_) + t_))))]) ⟨hx, hb, hml, hown, hts⟩ (h_X9_memoryOf D cy ad A p_ g1 g2 σ0 hp) (cwV 1 hts gX9_doesRemember_X9_memoryOf rfl rfl rfl (by decide +kernel) ⟨le_R hRf (Nat.le_of_ble_eq_true rfl), le_R hRl (Nat.le_of_ble_eq_true rfl)⟩) ⟨(fun a U g mk q => ⟨q.1, q.2.blind⟩), va_recv hK hP (ci := 9) (q0 := 0) rfl (wR_0 cy ad σ0), (fun U hU hW => ⟨rfl, WdR.pre hP hK hD hN hU hW⟩)⟩ rfl rfl hl.1 rfl (lv_room (Nat.le_of_ble_eq_true rfl)) dX9_doesRemember_15 ⟨le_R hRc (Nat.le_refl 0), le_R hRs (Nat.le_refl 0)⟩) hS (fun r3 H locs hr1 hP hS => ?_)
  have hv := hv r3 hr1
  refine lv_icmp_gt (tgt := 25) hx hb dX9_doesRemember_18 (by decide) (fun c4 => ?_) (fun c4 => ?_)
  · have hv := hv.1 c4
    refine lv_iconst (v := 0) hx hb dX9_doesRemember_25 (by decide) ?_
    rw [hZ]; rw [hQ] at hv
    exact W.zret (v := 0) hx hb hr rfl (fun t ht hW => ⟨⟨0, (), rfl, hv, (P_of ht hP)⟩, hS.F ht⟩) hS.2.2 dX9_doesRemember_26
  · have hv := hv.2 c4
    refine lv_iconst (v := 1) hx hb dX9_doesRemember_21 (by decide) ?_
    refine lv_goto (tgt := 26) hx hb dX9_doesRemember_22 (by decide) ?_
    rw [hZ]; rw [hQ] at hv
    exact W.zret (v := 1) hx hb hr rfl (fun t ht hW => ⟨⟨1, (), rfl, hv, (P_of ht hP)⟩, hS.F ht⟩) hS.2.2 dX9_doesRemember_26
set_option maxHeartbeats 4000000 in
set_option maxRecDepth 100000 in
theorem wk_X9_isAlive (l : Launch) (h_X9_doesRemember : Ct_X9_doesRemember l) (sp : Sp_X9_isAlive) : Ct_X9_isAlive l := by
  intro D cy ad A t_ season_ ag rg Sg t1g σ0  hpre
  refine Met.ofW (cc := cX9_isAlive) (maxL := 5) (ret := (some .boolean)) (by decide) rfl ?_
  intro p e s m args below meth c s₁ B hml hv0
  obtain ⟨rfl, hP, hK, hD, hN⟩ := hv0
  have hx := B.exec
  have hb := B.bytes
  have hr := B.returns
  have hts := atoms_spec (ws := wsX9_isAlive) B.pre
  have hown : s.vm.findClass RX9 = some m.cls := findClass_of_methodNamed B.named
  have hlocks := B.notSynchronized
  have hv := sp t_ season_ ag rg Sg t1g σ0 hpre
  have hl := lv_entry ([.ref (ad 0), .int t_, .int season_]) (n := 5) (Nat.le_of_ble_eq_true rfl)
  rw [lg_entry_eq]
  generalize (lg_sl ([.ref (ad 0), .int t_, .int season_]) ++ List.replicate (5 - (lg_sl ([.ref (ad 0), .int t_, .int season_])).length) Slot.unset).toArray = ls at hl ⊢
  have hl : lv_has ls 5 [(0, .ref (ad 0)), (1, .int t_), (2, .int season_)] := hl
  refine W_gen (fun R Z H locs hR hZ hH hlo => ?_)
  have hRf : R.frames = 2 := by rw [hR]; rfl
  have hRl : R.locals = 45 := by rw [hR]; rfl
  have hRc : R.cells = 0 := by rw [hR]; rfl
  have hRs : R.slots = 0 := by rw [hR]; rfl
  have hS : va_S A s.heap H locs := by rw [hH, hlo]; exact va_S.rf
  rw [← hH] at hP
  obtain ⟨Q, hQ⟩ : ∃ q : Int32 → Prop, q = (fun r => post_X9_isAlive t_ season_ ag rg Sg t1g σ0 r) := ⟨_, rfl⟩
  rw [← hQ] at hv
  have hinX9 : ∀ w ∈ wsX90, w ∈ wsX9_isAlive := by decide +kernel
  refine lv_iconst (v := 0) hx hb dX9_isAlive_0 (by decide) ?_
  refine lv_istore_n (lv' := [(3, .int 0), (0, .ref (ad 0)), (1, .int t_), (2, .int season_)]) hx hb dX9_isAlive_1 rfl hl (by decide) rfl (fun ls hl => ?_)
  refine lv_iconst (v := 0) hx hb dX9_isAlive_2 (by decide) ?_
  refine lv_istore (lv' := [(4, .int 0), (3, .int 0), (0, .ref (ad 0)), (1, .int t_), (2, .int season_)]) hx hb dX9_isAlive_3 hl (by decide) rfl (fun ls hl => ?_)
  obtain ⟨n5, hv⟩ := hv
  have lp5 : ∀ (nn5 : Nat) (x1 : Int32) (x2 : Int32) (H : Heap) (locs : List Loc) (ls : Array Slot), vl_X9_isAlive_5 t_ season_ σ0 Q nn5 x1 x2 → va_P D vwCl (wR cy ad σ0) H → va_D A (wR cy ad σ0) → va_S A s.heap H locs → lv_has ls 5 [(0, .ref (ad 0)), (1, .int t_), (2, .int season_), (3, .int x1), (4, .int x2)] → W p l e R s m ([.ref (ad 0), .int t_, .int season_] : List Value).toArray  below meth c H locs 0 0 Z (F0 m 5 ls []) := by
    intro nn5
    induction nn5 with
    | zero => intro x1 x2 H locs ls hv; exact absurd hv id
    | succ mm5 ih5 =>
      intro x1 x2 H locs ls hv hP hD hS hl
      refine lv_iload hx hb dX9_isAlive_5 (lv_at hl 4 rfl) ?_
      refine lv_aload_n hx hb dX9_isAlive_7 rfl (lv_at hl 0 rfl) ?_
      refine va_get (ci := 9) (v := .int (rdI σ0 1)) (C := RX9) (T := TX9) (N := 38) hx hb hts hinX9 hown hK hP 0 (wR_0 cy ad σ0) rfl 1 (by decide) (hts (.fieldLink RX9 102 "TaleBansModel" "persons" "I") (List.mem_of_getElem? (i := 1) rfl)) (fun x h => h) rfl dX9_isAlive_8 ?_
      refine lv_icmp_ge (tgt := 41) hx hb dX9_isAlive_11 (by decide) (fun c14 => ?_) (fun c14 => ?_)
      · have hv := hv.1 c14
        refine lv_iload_n hx hb dX9_isAlive_41 rfl (lv_at hl 3 rfl) ?_
        obtain ⟨h01, hv⟩ := hv
        rw [hZ]; rw [hQ] at hv
        exact W.zret (v := x1) hx hb hr (nar_b h01) (fun t ht hW => ⟨⟨x1, (), rfl, hv, (P_of ht hP)⟩, hS.F ht⟩) hS.2.2 dX9_isAlive_42
      · have hv := hv.2 c14
        refine lv_iload_n hx hb dX9_isAlive_14 rfl (lv_at hl 3 rfl) ?_
        obtain ⟨P3, hv, hvr⟩ := hv
        have jn4 : ∀ (b5 : Int32) (H : Heap) (locs : List Loc) (ls : Array Slot), P3 b5 → va_P D vwCl (wR cy ad σ0) H → va_S A s.heap H locs → lv_has ls 5 [(0, .ref (ad 0)), (1, .int t_), (2, .int season_), (3, .int x1), (4, .int x2)] → W p l e R s m ([.ref (ad 0), .int t_, .int season_] : List Value).toArray below meth c H locs 0 0 Z (F0 m 34 ls [.int b5]) := by
          intro b5 H locs ls hv hP hS hl
          have hv := hvr b5 hv
          refine lv_istore_n (lv' := [(3, .int b5), (0, .ref (ad 0)), (1, .int t_), (2, .int season_), (4, .int x2)]) hx hb dX9_isAlive_34 rfl hl (by decide) rfl (fun ls hl => ?_)
          refine lv_iinc (v := (x2 + 1)) (lv' := [(4, .int (x2 + 1)), (3, .int b5), (0, .ref (ad 0)), (1, .int t_), (2, .int season_)]) hx hb dX9_isAlive_35 hl (k := 4) rfl rfl (by decide) rfl (fun ls hl => ?_)
          refine lv_goto (tgt := 5) hx hb dX9_isAlive_38 (by decide) ?_
          exact ih5 b5 (x2 + 1) _ _ _ hv hP hD hS (lv_sub hl [2, 3, 4, 1, 0] rfl)
        refine lv_if_ne (tgt := 29) hx hb dX9_isAlive_15 (by decide) (fun c13 => ?_) (fun c13 => ?_)
        · have hv := hv.1 c13
          refine lv_iconst (v := 1) hx hb dX9_isAlive_29 (by decide) ?_
          refine lv_goto (tgt := 34) hx hb dX9_isAlive_30 (by decide) ?_
          exact jn4 1 _ _ _ hv hP hS hl
        · have hv := hv.2 c13
          refine lv_aload_n hx hb dX9_isAlive_18 rfl (lv_at hl 0 rfl) ?_
          refine lv_iload hx hb dX9_isAlive_19 (lv_at hl 4 rfl) ?_
          refine lv_iload_n hx hb dX9_isAlive_21 rfl (lv_at hl 1 rfl) ?_
          refine lv_iload_n hx hb dX9_isAlive_22 rfl (lv_at hl 2 rfl) ?_
          obtain ⟨g6, g7, g8, g9, g10, hv⟩ := hv
          obtain ⟨hp, hv⟩ := hv
          refine k_read_i (w := wR cy ad) (va_runV (As := [.int x2, .int t_, .int season_]) (rest := []) ⟨hx, hb, hml, hown, hts⟩ (h_X9_doesRemember D cy ad A x2 t_ season_ g6 g7 g8 g9 g10 σ0 hp) (cwV 3 hts gX9_isAlive_X9_doesRemember rfl rfl rfl (by decide +kernel) ⟨le_R hRf (Nat.le_of_ble_eq_true rfl), le_R hRl (Nat.le_of_ble_eq_true rfl)⟩) ⟨(fun a U g mk q => ⟨q.1, q.2.blind⟩), va_recv hK hP (ci := 9) (q0 := 0) rfl (wR_0 cy ad σ0), (fun U hU hW => ⟨rfl, WdR.pre hP hK hD hN hU hW⟩)⟩ rfl rfl hl.1 rfl (lv_room (Nat.le_of_ble_eq_true rfl)) dX9_isAlive_23 ⟨le_R hRc (Nat.le_refl 0), le_R hRs (Nat.le_refl 0)⟩) hS (fun r11 H locs hr1 hP hS => ?_)
          have hv := hv r11 hr1
          refine lv_if_eq (tgt := 33) hx hb dX9_isAlive_26 (by decide) (fun c12 => ?_) (fun c12 => ?_)
          · have hv := hv.1 c12
            refine lv_iconst (v := 0) hx hb dX9_isAlive_33 (by decide) ?_
            exact jn4 0 _ _ _ hv hP hS hl
          · have hv := hv.2 c12
            refine lv_iconst (v := 1) hx hb dX9_isAlive_29 (by decide) ?_
            refine lv_goto (tgt := 34) hx hb dX9_isAlive_30 (by decide) ?_
            exact jn4 1 _ _ _ hv hP hS hl
  exact lp5 n5 0 0 _ _ _ hv hP hD hS (lv_sub hl [2, 3, 4, 1, 0] rfl)
set_option maxHeartbeats 4000000 in
set_option maxRecDepth 100000 in
theorem wk_X9_isKnownAt (l : Launch) (h_X9_doesRemember : Ct_X9_doesRemember l) (sp : Sp_X9_isKnownAt) : Ct_X9_isKnownAt l := by
  intro D cy ad A h_ t_ season_ ag rg Sg h1g t1g σ0  hpre
  refine Met.ofW (cc := cX9_isKnownAt) (maxL := 6) (ret := (some .boolean)) (by decide) rfl ?_
  intro p e s m args below meth c s₁ B hml hv0
  obtain ⟨rfl, hP, hK, hD, hN⟩ := hv0
  have hx := B.exec
  have hb := B.bytes
  have hr := B.returns
  have hts := atoms_spec (ws := wsX9_isKnownAt) B.pre
  have hown : s.vm.findClass RX9 = some m.cls := findClass_of_methodNamed B.named
  have hlocks := B.notSynchronized
  have hv := sp h_ t_ season_ ag rg Sg h1g t1g σ0 hpre
  have hl := lv_entry ([.ref (ad 0), .int h_, .int t_, .int season_]) (n := 6) (Nat.le_of_ble_eq_true rfl)
  rw [lg_entry_eq]
  generalize (lg_sl ([.ref (ad 0), .int h_, .int t_, .int season_]) ++ List.replicate (6 - (lg_sl ([.ref (ad 0), .int h_, .int t_, .int season_])).length) Slot.unset).toArray = ls at hl ⊢
  have hl : lv_has ls 6 [(0, .ref (ad 0)), (1, .int h_), (2, .int t_), (3, .int season_)] := hl
  refine W_gen (fun R Z H locs hR hZ hH hlo => ?_)
  have hRf : R.frames = 2 := by rw [hR]; rfl
  have hRl : R.locals = 45 := by rw [hR]; rfl
  have hRc : R.cells = 0 := by rw [hR]; rfl
  have hRs : R.slots = 0 := by rw [hR]; rfl
  have hS : va_S A s.heap H locs := by rw [hH, hlo]; exact va_S.rf
  rw [← hH] at hP
  obtain ⟨Q, hQ⟩ : ∃ q : Int32 → Prop, q = (fun r => post_X9_isKnownAt h_ t_ season_ ag rg Sg h1g t1g σ0 r) := ⟨_, rfl⟩
  rw [← hQ] at hv
  have hinX9 : ∀ w ∈ wsX90, w ∈ wsX9_isKnownAt := by decide +kernel
  refine lv_iconst (v := 0) hx hb dX9_isKnownAt_0 (by decide) ?_
  refine lv_istore (lv' := [(4, .int 0), (0, .ref (ad 0)), (1, .int h_), (2, .int t_), (3, .int season_)]) hx hb dX9_isKnownAt_1 hl (by decide) rfl (fun ls hl => ?_)
  refine lv_iconst (v := 0) hx hb dX9_isKnownAt_3 (by decide) ?_
  refine lv_istore (lv' := [(5, .int 0), (4, .int 0), (0, .ref (ad 0)), (1, .int h_), (2, .int t_), (3, .int season_)]) hx hb dX9_isKnownAt_4 hl (by decide) rfl (fun ls hl => ?_)
  obtain ⟨n6, hv⟩ := hv
  have lp6 : ∀ (nn6 : Nat) (x1 : Int32) (x2 : Int32) (H : Heap) (locs : List Loc) (ls : Array Slot), vl_X9_isKnownAt_6 h_ t_ season_ σ0 Q nn6 x1 x2 → va_P D vwCl (wR cy ad σ0) H → va_D A (wR cy ad σ0) → va_S A s.heap H locs → lv_has ls 6 [(0, .ref (ad 0)), (1, .int h_), (2, .int t_), (3, .int season_), (4, .int x1), (5, .int x2)] → W p l e R s m ([.ref (ad 0), .int h_, .int t_, .int season_] : List Value).toArray  below meth c H locs 0 0 Z (F0 m 6 ls []) := by
    intro nn6
    induction nn6 with
    | zero => intro x1 x2 H locs ls hv; exact absurd hv id
    | succ mm6 ih6 =>
      intro x1 x2 H locs ls hv hP hD hS hl
      refine lv_iload hx hb dX9_isKnownAt_6 (lv_at hl 5 rfl) ?_
      refine lv_aload_n hx hb dX9_isKnownAt_8 rfl (lv_at hl 0 rfl) ?_
      refine va_get (ci := 9) (v := .int (rdI σ0 1)) (C := RX9) (T := TX9) (N := 38) hx hb hts hinX9 hown hK hP 0 (wR_0 cy ad σ0) rfl 1 (by decide) (hts (.fieldLink RX9 102 "TaleBansModel" "persons" "I") (List.mem_of_getElem? (i := 1) rfl)) (fun x h => h) rfl dX9_isKnownAt_9 ?_
      refine lv_icmp_ge (tgt := 55) hx hb dX9_isKnownAt_12 (by decide) (fun c15 => ?_) (fun c15 => ?_)
      · have hv := hv.1 c15
        refine lv_iload hx hb dX9_isKnownAt_55 (lv_at hl 4 rfl) ?_
        obtain ⟨h01, hv⟩ := hv
        rw [hZ]; rw [hQ] at hv
        exact W.zret (v := x1) hx hb hr (nar_b h01) (fun t ht hW => ⟨⟨x1, (), rfl, hv, (P_of ht hP)⟩, hS.F ht⟩) hS.2.2 dX9_isKnownAt_57
      · have hv := hv.2 c15
        refine lv_iload hx hb dX9_isKnownAt_15 (lv_at hl 4 rfl) ?_
        obtain ⟨P3, hv, hvr⟩ := hv
        have jn4 : ∀ (b5 : Int32) (H : Heap) (locs : List Loc) (ls : Array Slot), P3 b5 → va_P D vwCl (wR cy ad σ0) H → va_S A s.heap H locs → lv_has ls 6 [(0, .ref (ad 0)), (1, .int h_), (2, .int t_), (3, .int season_), (4, .int x1), (5, .int x2)] → W p l e R s m ([.ref (ad 0), .int h_, .int t_, .int season_] : List Value).toArray below meth c H locs 0 0 Z (F0 m 47 ls [.int b5]) := by
          intro b5 H locs ls hv hP hS hl
          have hv := hvr b5 hv
          refine lv_istore (lv' := [(4, .int b5), (0, .ref (ad 0)), (1, .int h_), (2, .int t_), (3, .int season_), (5, .int x2)]) hx hb dX9_isKnownAt_47 hl (by decide) rfl (fun ls hl => ?_)
          refine lv_iinc (v := (x2 + 1)) (lv' := [(5, .int (x2 + 1)), (4, .int b5), (0, .ref (ad 0)), (1, .int h_), (2, .int t_), (3, .int season_)]) hx hb dX9_isKnownAt_49 hl (k := 5) rfl rfl (by decide) rfl (fun ls hl => ?_)
          refine lv_goto (tgt := 6) hx hb dX9_isKnownAt_52 (by decide) ?_
          exact ih6 b5 (x2 + 1) _ _ _ hv hP hD hS (lv_sub hl [2, 3, 4, 5, 1, 0] rfl)
        refine lv_if_ne (tgt := 42) hx hb dX9_isKnownAt_17 (by decide) (fun c14 => ?_) (fun c14 => ?_)
        · have hv := hv.1 c14
          refine lv_iconst (v := 1) hx hb dX9_isKnownAt_42 (by decide) ?_
          refine lv_goto (tgt := 47) hx hb dX9_isKnownAt_43 (by decide) ?_
          exact jn4 1 _ _ _ hv hP hS hl
        · have hv := hv.2 c14
          refine lv_aload_n hx hb dX9_isKnownAt_20 rfl (lv_at hl 0 rfl) ?_
          refine va_get (ci := 9) (v := .ref (ad (14))) (C := RX9) (T := TX9) (N := 38) hx hb hts hinX9 hown hK hP 0 (wR_0 cy ad σ0) rfl 21 (by decide) (hts (.fieldLink RX9 50 "TaleBansModel" "isAt" "[I") (List.mem_of_getElem? (i := 2) rfl)) (fun x h => h) rfl dX9_isKnownAt_21 ?_
          refine lv_iload hx hb dX9_isKnownAt_24 (lv_at hl 5 rfl) ?_
          obtain ⟨hi, hv⟩ := hv
          refine va_iald hx hb hK hP 14 0 (wR_14 cy ad σ0) rfl hi dX9_isKnownAt_26 ?_
          refine lv_iload_n hx hb dX9_isKnownAt_27 rfl (lv_at hl 1 rfl) ?_
          refine lv_icmp_ne (tgt := 46) hx hb dX9_isKnownAt_28 (by decide) (fun c13 => ?_) (fun c13 => ?_)
          · have hv := hv.1 c13
            refine lv_iconst (v := 0) hx hb dX9_isKnownAt_46 (by decide) ?_
            exact jn4 0 _ _ _ hv hP hS hl
          · have hv := hv.2 c13
            refine lv_aload_n hx hb dX9_isKnownAt_31 rfl (lv_at hl 0 rfl) ?_
            refine lv_iload hx hb dX9_isKnownAt_32 (lv_at hl 5 rfl) ?_
            refine lv_iload_n hx hb dX9_isKnownAt_34 rfl (lv_at hl 2 rfl) ?_
            refine lv_iload_n hx hb dX9_isKnownAt_35 rfl (lv_at hl 3 rfl) ?_
            obtain ⟨g6, g7, g8, g9, g10, hv⟩ := hv
            obtain ⟨hp, hv⟩ := hv
            refine k_read_i (w := wR cy ad) (va_runV (As := [.int x2, .int t_, .int season_]) (rest := []) ⟨hx, hb, hml, hown, hts⟩ (h_X9_doesRemember D cy ad A x2 t_ season_ g6 g7 g8 g9 g10 σ0 hp) (cwV 3 hts gX9_isKnownAt_X9_doesRemember rfl rfl rfl (by decide +kernel) ⟨le_R hRf (Nat.le_of_ble_eq_true rfl), le_R hRl (Nat.le_of_ble_eq_true rfl)⟩) ⟨(fun a U g mk q => ⟨q.1, q.2.blind⟩), va_recv hK hP (ci := 9) (q0 := 0) rfl (wR_0 cy ad σ0), (fun U hU hW => ⟨rfl, WdR.pre hP hK hD hN hU hW⟩)⟩ rfl rfl hl.1 rfl (lv_room (Nat.le_of_ble_eq_true rfl)) dX9_isKnownAt_36 ⟨le_R hRc (Nat.le_refl 0), le_R hRs (Nat.le_refl 0)⟩) hS (fun r11 H locs hr1 hP hS => ?_)
            have hv := hv r11 hr1
            refine lv_if_eq (tgt := 46) hx hb dX9_isKnownAt_39 (by decide) (fun c12 => ?_) (fun c12 => ?_)
            · have hv := hv.1 c12
              refine lv_iconst (v := 0) hx hb dX9_isKnownAt_46 (by decide) ?_
              exact jn4 0 _ _ _ hv hP hS hl
            · have hv := hv.2 c12
              refine lv_iconst (v := 1) hx hb dX9_isKnownAt_42 (by decide) ?_
              refine lv_goto (tgt := 47) hx hb dX9_isKnownAt_43 (by decide) ?_
              exact jn4 1 _ _ _ hv hP hS hl
  exact lp6 n6 0 0 _ _ _ hv hP hD hS (lv_sub hl [2, 3, 4, 5, 1, 0] rfl)
set_option maxHeartbeats 4000000 in
set_option maxRecDepth 100000 in
theorem wk_X9_isRather (l : Launch) (sp : Sp_X9_isRather) : Ct_X9_isRather l := by
  intro D cy ad A h_ t_ b_ ag rg Sg h1g t1g b1g σ0  hpre
  refine Met.ofW (cc := cX9_isRather) (maxL := 5) (ret := (some .boolean)) (by decide) rfl ?_
  intro p e s m args below meth c s₁ B hml hv0
  obtain ⟨rfl, hP, hK, hD, hN⟩ := hv0
  have hx := B.exec
  have hb := B.bytes
  have hr := B.returns
  have hts := atoms_spec (ws := wsX9_isRather) B.pre
  have hown : s.vm.findClass RX9 = some m.cls := findClass_of_methodNamed B.named
  have hlocks := B.notSynchronized
  have hv := sp h_ t_ b_ ag rg Sg h1g t1g b1g σ0 hpre
  have hl := lv_entry ([.ref (ad 0), .int h_, .int t_, .int b_]) (n := 5) (Nat.le_of_ble_eq_true rfl)
  rw [lg_entry_eq]
  generalize (lg_sl ([.ref (ad 0), .int h_, .int t_, .int b_]) ++ List.replicate (5 - (lg_sl ([.ref (ad 0), .int h_, .int t_, .int b_])).length) Slot.unset).toArray = ls at hl ⊢
  have hl : lv_has ls 5 [(0, .ref (ad 0)), (1, .int h_), (2, .int t_), (3, .int b_)] := hl
  refine W_gen (fun R Z H locs hR hZ hH hlo => ?_)
  have hRf : R.frames = 0 := by rw [hR]; rfl
  have hRl : R.locals = 0 := by rw [hR]; rfl
  have hRc : R.cells = 0 := by rw [hR]; rfl
  have hRs : R.slots = 0 := by rw [hR]; rfl
  have hS : va_S A s.heap H locs := by rw [hH, hlo]; exact va_S.rf
  rw [← hH] at hP
  obtain ⟨Q, hQ⟩ : ∃ q : Int32 → Prop, q = (fun r => post_X9_isRather h_ t_ b_ ag rg Sg h1g t1g b1g σ0 r) := ⟨_, rfl⟩
  rw [← hQ] at hv
  have hinX9 : ∀ w ∈ wsX90, w ∈ wsX9_isRather := by decide +kernel
  refine lv_aload_n hx hb dX9_isRather_0 rfl (lv_at hl 0 rfl) ?_
  refine va_get (ci := 9) (v := .int (rdI σ0 3)) (C := RX9) (T := TX9) (N := 38) hx hb hts hinX9 hown hK hP 0 (wR_0 cy ad σ0) rfl 6 (by decide) (hts (.fieldLink RX9 161 "TaleBansModel" "lawNow" "I") (List.mem_of_getElem? (i := 1) rfl)) (fun x h => h) rfl dX9_isRather_1 ?_
  refine lv_iconst (v := 2) hx hb dX9_isRather_4 (by decide) ?_
  refine lv_icmp_ge (tgt := 39) hx hb dX9_isRather_5 (by decide) (fun c9 => ?_) (fun c9 => ?_)
  · have hv := hv.1 c9
    refine lv_aload_n hx hb dX9_isRather_39 rfl (lv_at hl 0 rfl) ?_
    refine va_get (ci := 9) (v := .ref (ad (16))) (C := RX9) (T := TX9) (N := 38) hx hb hts hinX9 hown hK hP 0 (wR_0 cy ad σ0) rfl 23 (by decide) (hts (.fieldLink RX9 56 "TaleBansModel" "toldIn" "[I") (List.mem_of_getElem? (i := 2) rfl)) (fun x h => h) rfl dX9_isRather_40 ?_
    refine lv_bipush (v := 6) hx hb dX9_isRather_43 (by decide) ?_
    refine lv_iload_n hx hb dX9_isRather_45 rfl (lv_at hl 1 rfl) ?_
    refine lv_imul hx hb dX9_isRather_46 ?_
    refine lv_iload_n hx hb dX9_isRather_47 rfl (lv_at hl 3 rfl) ?_
    refine lv_iadd hx hb dX9_isRather_48 ?_
    obtain ⟨hi, hv⟩ := hv
    refine va_iald hx hb hK hP 16 0 (wR_16 cy ad σ0) rfl hi dX9_isRather_49 ?_
    refine lv_aload_n hx hb dX9_isRather_50 rfl (lv_at hl 0 rfl) ?_
    refine va_get (ci := 9) (v := .ref (ad (16))) (C := RX9) (T := TX9) (N := 38) hx hb hts hinX9 hown hK hP 0 (wR_0 cy ad σ0) rfl 23 (by decide) (hts (.fieldLink RX9 56 "TaleBansModel" "toldIn" "[I") (List.mem_of_getElem? (i := 2) rfl)) (fun x h => h) rfl dX9_isRather_51 ?_
    refine lv_bipush (v := 6) hx hb dX9_isRather_54 (by decide) ?_
    refine lv_iload_n hx hb dX9_isRather_56 rfl (lv_at hl 1 rfl) ?_
    refine lv_imul hx hb dX9_isRather_57 ?_
    refine lv_iload_n hx hb dX9_isRather_58 rfl (lv_at hl 2 rfl) ?_
    refine lv_iadd hx hb dX9_isRather_59 ?_
    obtain ⟨hi, hv⟩ := hv
    refine va_iald hx hb hK hP 16 0 (wR_16 cy ad σ0) rfl hi dX9_isRather_60 ?_
    refine lv_isub hx hb dX9_isRather_61 ?_
    refine lv_topi (fun x1 h5 => ?_)
    have hv := hv x1 h5
    refine lv_istore (lv' := [(4, .int x1), (0, .ref (ad 0)), (1, .int h_), (2, .int t_), (3, .int b_)]) hx hb dX9_isRather_62 hl (by decide) rfl (fun ls hl => ?_)
    refine lv_iload hx hb dX9_isRather_64 (lv_at hl 0 rfl) ?_
    refine lv_if_gt (tgt := 79) hx hb dX9_isRather_66 (by decide) (fun c4 => ?_) (fun c4 => ?_)
    · have hv := hv.1 c4
      refine lv_iconst (v := 1) hx hb dX9_isRather_79 (by decide) ?_
      refine lv_goto (tgt := 84) hx hb dX9_isRather_80 (by decide) ?_
      rw [hZ]; rw [hQ] at hv
      exact W.zret (v := 1) hx hb hr rfl (fun t ht hW => ⟨⟨1, (), rfl, hv, (P_of ht hP)⟩, hS.F ht⟩) hS.2.2 dX9_isRather_84
    · have hv := hv.2 c4
      refine lv_iload hx hb dX9_isRather_69 (lv_at hl 0 rfl) ?_
      refine lv_if_ne (tgt := 83) hx hb dX9_isRather_71 (by decide) (fun c3 => ?_) (fun c3 => ?_)
      · have hv := hv.1 c3
        refine lv_iconst (v := 0) hx hb dX9_isRather_83 (by decide) ?_
        rw [hZ]; rw [hQ] at hv
        exact W.zret (v := 0) hx hb hr rfl (fun t ht hW => ⟨⟨0, (), rfl, hv, (P_of ht hP)⟩, hS.F ht⟩) hS.2.2 dX9_isRather_84
      · have hv := hv.2 c3
        refine lv_iload_n hx hb dX9_isRather_74 rfl (lv_at hl 3 rfl) ?_
        refine lv_iload_n hx hb dX9_isRather_75 rfl (lv_at hl 4 rfl) ?_
        refine lv_icmp_ge (tgt := 83) hx hb dX9_isRather_76 (by decide) (fun c2 => ?_) (fun c2 => ?_)
        · have hv := hv.1 c2
          refine lv_iconst (v := 0) hx hb dX9_isRather_83 (by decide) ?_
          rw [hZ]; rw [hQ] at hv
          exact W.zret (v := 0) hx hb hr rfl (fun t ht hW => ⟨⟨0, (), rfl, hv, (P_of ht hP)⟩, hS.F ht⟩) hS.2.2 dX9_isRather_84
        · have hv := hv.2 c2
          refine lv_iconst (v := 1) hx hb dX9_isRather_79 (by decide) ?_
          refine lv_goto (tgt := 84) hx hb dX9_isRather_80 (by decide) ?_
          rw [hZ]; rw [hQ] at hv
          exact W.zret (v := 1) hx hb hr rfl (fun t ht hW => ⟨⟨1, (), rfl, hv, (P_of ht hP)⟩, hS.F ht⟩) hS.2.2 dX9_isRather_84
  · have hv := hv.2 c9
    refine lv_aload_n hx hb dX9_isRather_8 rfl (lv_at hl 0 rfl) ?_
    refine va_get (ci := 9) (v := .int (rdI σ0 3)) (C := RX9) (T := TX9) (N := 38) hx hb hts hinX9 hown hK hP 0 (wR_0 cy ad σ0) rfl 6 (by decide) (hts (.fieldLink RX9 161 "TaleBansModel" "lawNow" "I") (List.mem_of_getElem? (i := 1) rfl)) (fun x h => h) rfl dX9_isRather_9 ?_
    refine lv_if_ne (tgt := 28) hx hb dX9_isRather_12 (by decide) (fun c8 => ?_) (fun c8 => ?_)
    · have hv := hv.1 c8
      refine lv_iload_n hx hb dX9_isRather_28 rfl (lv_at hl 2 rfl) ?_
      refine lv_iload_n hx hb dX9_isRather_29 rfl (lv_at hl 3 rfl) ?_
      refine lv_icmp_ge (tgt := 37) hx hb dX9_isRather_30 (by decide) (fun c6 => ?_) (fun c6 => ?_)
      · have hv := hv.1 c6
        refine lv_iconst (v := 0) hx hb dX9_isRather_37 (by decide) ?_
        rw [hZ]; rw [hQ] at hv
        exact W.zret (v := 0) hx hb hr rfl (fun t ht hW => ⟨⟨0, (), rfl, hv, (P_of ht hP)⟩, hS.F ht⟩) hS.2.2 dX9_isRather_38
      · have hv := hv.2 c6
        refine lv_iconst (v := 1) hx hb dX9_isRather_33 (by decide) ?_
        refine lv_goto (tgt := 38) hx hb dX9_isRather_34 (by decide) ?_
        rw [hZ]; rw [hQ] at hv
        exact W.zret (v := 1) hx hb hr rfl (fun t ht hW => ⟨⟨1, (), rfl, hv, (P_of ht hP)⟩, hS.F ht⟩) hS.2.2 dX9_isRather_38
    · have hv := hv.2 c8
      refine lv_iload_n hx hb dX9_isRather_15 rfl (lv_at hl 2 rfl) ?_
      refine lv_iload_n hx hb dX9_isRather_16 rfl (lv_at hl 3 rfl) ?_
      refine lv_icmp_le (tgt := 24) hx hb dX9_isRather_17 (by decide) (fun c7 => ?_) (fun c7 => ?_)
      · have hv := hv.1 c7
        refine lv_iconst (v := 0) hx hb dX9_isRather_24 (by decide) ?_
        refine lv_goto (tgt := 38) hx hb dX9_isRather_25 (by decide) ?_
        rw [hZ]; rw [hQ] at hv
        exact W.zret (v := 0) hx hb hr rfl (fun t ht hW => ⟨⟨0, (), rfl, hv, (P_of ht hP)⟩, hS.F ht⟩) hS.2.2 dX9_isRather_38
      · have hv := hv.2 c7
        refine lv_iconst (v := 1) hx hb dX9_isRather_20 (by decide) ?_
        refine lv_goto (tgt := 38) hx hb dX9_isRather_21 (by decide) ?_
        rw [hZ]; rw [hQ] at hv
        exact W.zret (v := 1) hx hb hr rfl (fun t ht hW => ⟨⟨1, (), rfl, hv, (P_of ht hP)⟩, hS.F ht⟩) hS.2.2 dX9_isRather_38
set_option maxHeartbeats 4000000 in
set_option maxRecDepth 100000 in
theorem wk_X9_tellAt (l : Launch) (h_X9_isIn : Ct_X9_isIn l) (h_X9_isKnownAt : Ct_X9_isKnownAt l) (h_X9_isRather : Ct_X9_isRather l) (sp : Sp_X9_tellAt) : Ct_X9_tellAt l := by
  intro D cy ad A h_ season_ ag rg Sg h1g σ0  hpre
  refine Met.ofW (cc := cX9_tellAt) (maxL := 5) (ret := none) (by decide) rfl ?_
  intro p e s m args below meth c s₁ B hml hv0
  obtain ⟨rfl, hP, hK, hD, hN⟩ := hv0
  have hx := B.exec
  have hb := B.bytes
  have hr := B.returns
  have hts := atoms_spec (ws := wsX9_tellAt) B.pre
  have hown : s.vm.findClass RX9 = some m.cls := findClass_of_methodNamed B.named
  have hlocks := B.notSynchronized
  have hv := sp h_ season_ ag rg Sg h1g σ0 hpre
  have hl := lv_entry ([.ref (ad 0), .int h_, .int season_]) (n := 5) (Nat.le_of_ble_eq_true rfl)
  rw [lg_entry_eq]
  generalize (lg_sl ([.ref (ad 0), .int h_, .int season_]) ++ List.replicate (5 - (lg_sl ([.ref (ad 0), .int h_, .int season_])).length) Slot.unset).toArray = ls at hl ⊢
  have hl : lv_has ls 5 [(0, .ref (ad 0)), (1, .int h_), (2, .int season_)] := hl
  refine W_gen (fun R Z H locs hR hZ hH hlo => ?_)
  have hRf : R.frames = 3 := by rw [hR]; rfl
  have hRl : R.locals = 70 := by rw [hR]; rfl
  have hRc : R.cells = 0 := by rw [hR]; rfl
  have hRs : R.slots = 0 := by rw [hR]; rfl
  have hS : va_S A s.heap H locs := by rw [hH, hlo]; exact va_S.rf
  rw [← hH] at hP
  obtain ⟨Q, hQ⟩ : ∃ q : S_ → Prop, q = (post_X9_tellAt h_ season_ ag rg Sg h1g σ0) := ⟨_, rfl⟩
  rw [← hQ] at hv
  have hinX9 : ∀ w ∈ wsX90, w ∈ wsX9_tellAt := by decide +kernel
  refine lv_bipush (v := (-9)) hx hb dX9_tellAt_0 (by decide) ?_
  refine lv_istore_n (lv' := [(3, .int (-9)), (0, .ref (ad 0)), (1, .int h_), (2, .int season_)]) hx hb dX9_tellAt_2 rfl hl (by decide) rfl (fun ls hl => ?_)
  refine lv_iconst (v := 0) hx hb dX9_tellAt_3 (by decide) ?_
  refine lv_istore (lv' := [(4, .int 0), (3, .int (-9)), (0, .ref (ad 0)), (1, .int h_), (2, .int season_)]) hx hb dX9_tellAt_4 hl (by decide) rfl (fun ls hl => ?_)
  obtain ⟨n6, hv⟩ := hv
  have lp6 : ∀ (nn6 : Nat) (x1 : Int32) (x2 : Int32) (H : Heap) (locs : List Loc) (ls : Array Slot), vl_X9_tellAt_6 h_ season_ σ0 Q nn6 x1 x2 → va_P D vwCl (wR cy ad σ0) H → va_D A (wR cy ad σ0) → va_S A s.heap H locs → lv_has ls 5 [(0, .ref (ad 0)), (1, .int h_), (2, .int season_), (3, .int x1), (4, .int x2)] → W p l e R s m ([.ref (ad 0), .int h_, .int season_] : List Value).toArray  below meth c H locs 0 0 Z (F0 m 6 ls []) := by
    intro nn6
    induction nn6 with
    | zero => intro x1 x2 H locs ls hv; exact absurd hv id
    | succ mm6 ih6 =>
      intro x1 x2 H locs ls hv hP hD hS hl
      refine lv_iload hx hb dX9_tellAt_6 (lv_at hl 4 rfl) ?_
      refine lv_aload_n hx hb dX9_tellAt_8 rfl (lv_at hl 0 rfl) ?_
      refine va_get (ci := 9) (v := .int (rdI σ0 6)) (C := RX9) (T := TX9) (N := 38) hx hb hts hinX9 hown hK hP 0 (wR_0 cy ad σ0) rfl 12 (by decide) (hts (.fieldLink RX9 109 "TaleBansModel" "tales" "I") (List.mem_of_getElem? (i := 1) rfl)) (fun x h => h) rfl dX9_tellAt_9 ?_
      refine lv_icmp_ge (tgt := 50) hx hb dX9_tellAt_12 (by decide) (fun c34 => ?_) (fun c34 => ?_)
      · have hv := hv.1 c34
        refine lv_aload_n hx hb dX9_tellAt_50 rfl (lv_at hl 0 rfl) ?_
        refine va_get (ci := 9) (v := .ref (ad (17))) (C := RX9) (T := TX9) (N := 38) hx hb hts hinX9 hown hK hP 0 (wR_0 cy ad σ0) rfl 24 (by decide) (hts (.fieldLink RX9 59 "TaleBansModel" "toldNow" "[I") (List.mem_of_getElem? (i := 2) rfl)) (fun x h => h) rfl dX9_tellAt_51 ?_
        refine lv_iload_n hx hb dX9_tellAt_54 rfl (lv_at hl 1 rfl) ?_
        refine lv_iload_n hx hb dX9_tellAt_55 rfl (lv_at hl 3 rfl) ?_
        obtain ⟨hi, hv⟩ := hv
        refine va_iast hx hb hK hP hD hS 17 0 (wR_17 cy ad σ0) rfl hi dX9_tellAt_56 (fun H locs hP hD hS => ?_)
        obtain ⟨σ3, e4⟩ : ∃ y : S_, y = wr2 σ0 17 (Int32.toNatClampNeg h_) x1 := ⟨_, rfl⟩
        have hP : va_P D vwCl (wR cy ad σ3) H := by rw [e4]; exact hP
        have hD : va_D A (wR cy ad σ3) := by rw [e4]; exact hD
        have hv := hv σ3 e4
        refine lv_iload_n hx hb dX9_tellAt_57 rfl (lv_at hl 3 rfl) ?_
        refine lv_if_lt (tgt := 142) hx hb dX9_tellAt_58 (by decide) (fun c17 => ?_) (fun c17 => ?_)
        · have hv := hv.1 c17
          rw [hZ]; rw [hQ] at hv
          exact W.vret hx hb hr (fun t ht hW => ⟨⟨σ3, rfl, hv, ⟨P_of ht hP, hD⟩⟩, hS.F ht⟩) hS.2.2 dX9_tellAt_142
        · have hv := hv.2 c17
          refine lv_aload_n hx hb dX9_tellAt_61 rfl (lv_at hl 0 rfl) ?_
          refine va_get (ci := 9) (v := .ref (ad (16))) (C := RX9) (T := TX9) (N := 38) hx hb hts hinX9 hown hK hP 0 (wR_0 cy ad σ3) rfl 23 (by decide) (hts (.fieldLink RX9 56 "TaleBansModel" "toldIn" "[I") (List.mem_of_getElem? (i := 3) rfl)) (fun x h => h) rfl dX9_tellAt_62 ?_
          refine lv_bipush (v := 6) hx hb dX9_tellAt_65 (by decide) ?_
          refine lv_iload_n hx hb dX9_tellAt_67 rfl (lv_at hl 1 rfl) ?_
          refine lv_imul hx hb dX9_tellAt_68 ?_
          refine lv_iload_n hx hb dX9_tellAt_69 rfl (lv_at hl 3 rfl) ?_
          refine lv_iadd hx hb dX9_tellAt_70 ?_
          refine lv_iload_n hx hb dX9_tellAt_71 rfl (lv_at hl 2 rfl) ?_
          obtain ⟨hi, hv⟩ := hv
          refine va_iast hx hb hK hP hD hS 16 0 (wR_16 cy ad σ3) rfl hi dX9_tellAt_72 (fun H locs hP hD hS => ?_)
          obtain ⟨σ5, e6⟩ : ∃ y : S_, y = wr2 σ3 16 (Int32.toNatClampNeg ((6 * h_) + x1)) season_ := ⟨_, rfl⟩
          have hP : va_P D vwCl (wR cy ad σ5) H := by rw [e6]; exact hP
          have hD : va_D A (wR cy ad σ5) := by rw [e6]; exact hD
          have hv := hv σ5 e6
          refine lv_iconst (v := 0) hx hb dX9_tellAt_73 (by decide) ?_
          refine lv_istore (lv' := [(4, .int 0), (0, .ref (ad 0)), (1, .int h_), (2, .int season_), (3, .int x1)]) hx hb dX9_tellAt_74 hl (by decide) rfl (fun ls hl => ?_)
          obtain ⟨n76, hv⟩ := hv
          have lp76 : ∀ (nn76 : Nat) (x7 : Int32) (σ8 : S_) (H : Heap) (locs : List Loc) (ls : Array Slot), vl_X9_tellAt_76 h_ season_ x1 Q nn76 x7 σ8 → va_P D vwCl (wR cy ad σ8) H → va_D A (wR cy ad σ8) → va_S A s.heap H locs → lv_has ls 5 [(0, .ref (ad 0)), (1, .int h_), (2, .int season_), (3, .int x1), (4, .int x7)] → W p l e R s m ([.ref (ad 0), .int h_, .int season_] : List Value).toArray  below meth c H locs 0 0 Z (F0 m 76 ls []) := by
            intro nn76
            induction nn76 with
            | zero => intro x7 σ8 H locs ls hv; exact absurd hv id
            | succ mm76 ih76 =>
              intro x7 σ8 H locs ls hv hP hD hS hl
              refine lv_iload hx hb dX9_tellAt_76 (lv_at hl 4 rfl) ?_
              refine lv_aload_n hx hb dX9_tellAt_78 rfl (lv_at hl 0 rfl) ?_
              refine va_get (ci := 9) (v := .int (rdI σ8 1)) (C := RX9) (T := TX9) (N := 38) hx hb hts hinX9 hown hK hP 0 (wR_0 cy ad σ8) rfl 1 (by decide) (hts (.fieldLink RX9 102 "TaleBansModel" "persons" "I") (List.mem_of_getElem? (i := 4) rfl)) (fun x h => h) rfl dX9_tellAt_79 ?_
              refine lv_icmp_ge (tgt := 142) hx hb dX9_tellAt_82 (by decide) (fun c16 => ?_) (fun c16 => ?_)
              · have hv := hv.1 c16
                rw [hZ]; rw [hQ] at hv
                exact W.vret hx hb hr (fun t ht hW => ⟨⟨σ8, rfl, hv, ⟨P_of ht hP, hD⟩⟩, hS.F ht⟩) hS.2.2 dX9_tellAt_142
              · have hv := hv.2 c16
                refine lv_aload_n hx hb dX9_tellAt_85 rfl (lv_at hl 0 rfl) ?_
                refine va_get (ci := 9) (v := .ref (ad (15))) (C := RX9) (T := TX9) (N := 38) hx hb hts hinX9 hown hK hP 0 (wR_0 cy ad σ8) rfl 22 (by decide) (hts (.fieldLink RX9 53 "TaleBansModel" "heardIn" "[I") (List.mem_of_getElem? (i := 5) rfl)) (fun x h => h) rfl dX9_tellAt_86 ?_
                refine lv_bipush (v := 6) hx hb dX9_tellAt_89 (by decide) ?_
                refine lv_iload hx hb dX9_tellAt_91 (lv_at hl 4 rfl) ?_
                refine lv_imul hx hb dX9_tellAt_93 ?_
                refine lv_iload_n hx hb dX9_tellAt_94 rfl (lv_at hl 3 rfl) ?_
                refine lv_iadd hx hb dX9_tellAt_95 ?_
                refine lv_aload_n hx hb dX9_tellAt_96 rfl (lv_at hl 0 rfl) ?_
                refine va_get (ci := 9) (v := .ref (ad (14))) (C := RX9) (T := TX9) (N := 38) hx hb hts hinX9 hown hK hP 0 (wR_0 cy ad σ8) rfl 21 (by decide) (hts (.fieldLink RX9 50 "TaleBansModel" "isAt" "[I") (List.mem_of_getElem? (i := 6) rfl)) (fun x h => h) rfl dX9_tellAt_97 ?_
                refine lv_iload hx hb dX9_tellAt_100 (lv_at hl 4 rfl) ?_
                obtain ⟨hi, hv⟩ := hv
                refine va_iald hx hb hK hP 14 0 (wR_14 cy ad σ8) rfl hi dX9_tellAt_102 ?_
                refine lv_iload_n hx hb dX9_tellAt_103 rfl (lv_at hl 1 rfl) ?_
                obtain ⟨P9, hv, hvr⟩ := hv
                have jn10 : ∀ (b11 : Int32) (H : Heap) (locs : List Loc) (ls : Array Slot), P9 b11 → va_P D vwCl (wR cy ad σ8) H → va_S A s.heap H locs → lv_has ls 5 [(0, .ref (ad 0)), (1, .int h_), (2, .int season_), (3, .int x1), (4, .int x7)] → W p l e R s m ([.ref (ad 0), .int h_, .int season_] : List Value).toArray below meth c H locs 0 0 Z (F0 m 135 ls [.int b11, .int ((6 * x7) + x1), .ref (ad (15))]) := by
                  intro b11 H locs ls hv hP hS hl
                  have hv := hvr b11 hv
                  obtain ⟨hi, hv⟩ := hv
                  refine va_iast hx hb hK hP hD hS 15 0 (wR_15 cy ad σ8) rfl hi dX9_tellAt_135 (fun H locs hP hD hS => ?_)
                  obtain ⟨σ14, e15⟩ : ∃ y : S_, y = wr2 σ8 15 (Int32.toNatClampNeg ((6 * x7) + x1)) b11 := ⟨_, rfl⟩
                  have hP : va_P D vwCl (wR cy ad σ14) H := by rw [e15]; exact hP
                  have hD : va_D A (wR cy ad σ14) := by rw [e15]; exact hD
                  have hv := hv σ14 e15
                  refine lv_iinc (v := (x7 + 1)) (lv' := [(4, .int (x7 + 1)), (0, .ref (ad 0)), (1, .int h_), (2, .int season_), (3, .int x1)]) hx hb dX9_tellAt_136 hl (k := 4) rfl rfl (by decide) rfl (fun ls hl => ?_)
                  refine lv_goto (tgt := 76) hx hb dX9_tellAt_139 (by decide) ?_
                  exact ih76 (x7 + 1) σ14 _ _ _ hv hP hD hS (lv_sub hl [1, 2, 3, 4, 0] rfl)
                refine lv_icmp_ne (tgt := 123) hx hb dX9_tellAt_104 (by decide) (fun c13 => ?_) (fun c13 => ?_)
                · have hv := hv.1 c13
                  refine lv_aload_n hx hb dX9_tellAt_123 rfl (lv_at hl 0 rfl) ?_
                  refine va_get (ci := 9) (v := .ref (ad (15))) (C := RX9) (T := TX9) (N := 38) hx hb hts hinX9 hown hK hP 0 (wR_0 cy ad σ8) rfl 22 (by decide) (hts (.fieldLink RX9 53 "TaleBansModel" "heardIn" "[I") (List.mem_of_getElem? (i := 5) rfl)) (fun x h => h) rfl dX9_tellAt_124 ?_
                  refine lv_bipush (v := 6) hx hb dX9_tellAt_127 (by decide) ?_
                  refine lv_iload hx hb dX9_tellAt_129 (lv_at hl 4 rfl) ?_
                  refine lv_imul hx hb dX9_tellAt_131 ?_
                  refine lv_iload_n hx hb dX9_tellAt_132 rfl (lv_at hl 3 rfl) ?_
                  refine lv_iadd hx hb dX9_tellAt_133 ?_
                  obtain ⟨hi, hv⟩ := hv
                  refine va_iald hx hb hK hP 15 0 (wR_15 cy ad σ8) rfl hi dX9_tellAt_134 ?_
                  exact jn10 (rdA σ8 15 (Int32.toNatClampNeg ((6 * x7) + x1))) _ _ _ hv hP hS hl
                · have hv := hv.2 c13
                  refine lv_aload_n hx hb dX9_tellAt_107 rfl (lv_at hl 0 rfl) ?_
                  refine va_get (ci := 9) (v := .int (rdI σ8 2)) (C := RX9) (T := TX9) (N := 38) hx hb hts hinX9 hown hK hP 0 (wR_0 cy ad σ8) rfl 5 (by decide) (hts (.fieldLink RX9 158 "TaleBansModel" "paidNow" "I") (List.mem_of_getElem? (i := 7) rfl)) (fun x h => h) rfl dX9_tellAt_108 ?_
                  refine lv_iload hx hb dX9_tellAt_111 (lv_at hl 4 rfl) ?_
                  refine k_pure_i (va_runS (As := [.int (rdI σ8 2), .int x7]) (rest := [.int ((6 * x7) + x1), .ref (ad (15))]) ⟨hx, hb, hml, hown, hts⟩ (h_X9_isIn (rdI σ8 2) x7) (va_cwS 2 hts gX9_tellAt_X9_isIn rfl rfl rfl (by decide +kernel) ⟨le_R hRf (Nat.le_of_ble_eq_true rfl), le_R hRl (Nat.le_of_ble_eq_true rfl)⟩) ⟨(fun a U g mk q => ⟨q.1, trivial⟩), (fun U hU hW => ⟨rfl, trivial⟩)⟩ rfl rfl hl.1 rfl (lv_room (Nat.le_of_ble_eq_true rfl)) dX9_tellAt_113 ⟨le_R hRc (Nat.le_refl 0), le_R hRs (Nat.le_refl 0)⟩) hS hP (fun r H locs hr1 hP hS => ?_)
                  subst hr1
                  refine lv_if_ne (tgt := 123) hx hb dX9_tellAt_116 (by decide) (fun c12 => ?_) (fun c12 => ?_)
                  · have hv := hv.1 c12
                    refine lv_aload_n hx hb dX9_tellAt_123 rfl (lv_at hl 0 rfl) ?_
                    refine va_get (ci := 9) (v := .ref (ad (15))) (C := RX9) (T := TX9) (N := 38) hx hb hts hinX9 hown hK hP 0 (wR_0 cy ad σ8) rfl 22 (by decide) (hts (.fieldLink RX9 53 "TaleBansModel" "heardIn" "[I") (List.mem_of_getElem? (i := 5) rfl)) (fun x h => h) rfl dX9_tellAt_124 ?_
                    refine lv_bipush (v := 6) hx hb dX9_tellAt_127 (by decide) ?_
                    refine lv_iload hx hb dX9_tellAt_129 (lv_at hl 4 rfl) ?_
                    refine lv_imul hx hb dX9_tellAt_131 ?_
                    refine lv_iload_n hx hb dX9_tellAt_132 rfl (lv_at hl 3 rfl) ?_
                    refine lv_iadd hx hb dX9_tellAt_133 ?_
                    obtain ⟨hi, hv⟩ := hv
                    refine va_iald hx hb hK hP 15 0 (wR_15 cy ad σ8) rfl hi dX9_tellAt_134 ?_
                    exact jn10 (rdA σ8 15 (Int32.toNatClampNeg ((6 * x7) + x1))) _ _ _ hv hP hS hl
                  · have hv := hv.2 c12
                    refine lv_iload_n hx hb dX9_tellAt_119 rfl (lv_at hl 2 rfl) ?_
                    refine lv_goto (tgt := 135) hx hb dX9_tellAt_120 (by decide) ?_
                    exact jn10 season_ _ _ _ hv hP hS hl
          exact lp76 n76 0 σ5 _ _ _ hv hP hD hS (lv_sub hl [1, 2, 3, 4, 0] rfl)
      · have hv := hv.2 c34
        refine lv_aload_n hx hb dX9_tellAt_15 rfl (lv_at hl 0 rfl) ?_
        refine lv_iload_n hx hb dX9_tellAt_16 rfl (lv_at hl 1 rfl) ?_
        refine lv_iload hx hb dX9_tellAt_17 (lv_at hl 4 rfl) ?_
        refine lv_iload_n hx hb dX9_tellAt_19 rfl (lv_at hl 2 rfl) ?_
        obtain ⟨g18, g19, g20, g21, g22, hv⟩ := hv
        obtain ⟨hp, hv⟩ := hv
        refine k_read_i (w := wR cy ad) (va_runV (As := [.int h_, .int x2, .int season_]) (rest := []) ⟨hx, hb, hml, hown, hts⟩ (h_X9_isKnownAt D cy ad A h_ x2 season_ g18 g19 g20 g21 g22 σ0 hp) (cwV 3 hts gX9_tellAt_X9_isKnownAt rfl rfl rfl (by decide +kernel) ⟨le_R hRf (Nat.le_of_ble_eq_true rfl), le_R hRl (Nat.le_of_ble_eq_true rfl)⟩) ⟨(fun a U g mk q => ⟨q.1, q.2.blind⟩), va_recv hK hP (ci := 9) (q0 := 0) rfl (wR_0 cy ad σ0), (fun U hU hW => ⟨rfl, WdR.pre hP hK hD hN hU hW⟩)⟩ rfl rfl hl.1 rfl (lv_room (Nat.le_of_ble_eq_true rfl)) dX9_tellAt_20 ⟨le_R hRc (Nat.le_refl 0), le_R hRs (Nat.le_refl 0)⟩) hS (fun r23 H locs hr1 hP hS => ?_)
        have hv := hv r23 hr1
        refine lv_if_eq (tgt := 44) hx hb dX9_tellAt_23 (by decide) (fun c33 => ?_) (fun c33 => ?_)
        · have hv := hv.1 c33
          refine lv_iinc (v := (x2 + 1)) (lv' := [(4, .int (x2 + 1)), (0, .ref (ad 0)), (1, .int h_), (2, .int season_), (3, .int x1)]) hx hb dX9_tellAt_44 hl (k := 4) rfl rfl (by decide) rfl (fun ls hl => ?_)
          refine lv_goto (tgt := 6) hx hb dX9_tellAt_47 (by decide) ?_
          exact ih6 x1 (x2 + 1) _ _ _ hv hP hD hS (lv_sub hl [1, 2, 3, 4, 0] rfl)
        · have hv := hv.2 c33
          refine lv_iload_n hx hb dX9_tellAt_26 rfl (lv_at hl 3 rfl) ?_
          refine lv_if_lt (tgt := 41) hx hb dX9_tellAt_27 (by decide) (fun c32 => ?_) (fun c32 => ?_)
          · have hv := hv.1 c32
            refine lv_iload hx hb dX9_tellAt_41 (lv_at hl 4 rfl) ?_
            refine lv_istore_n (lv' := [(3, .int x2), (0, .ref (ad 0)), (1, .int h_), (2, .int season_), (4, .int x2)]) hx hb dX9_tellAt_43 rfl hl (by decide) rfl (fun ls hl => ?_)
            refine lv_iinc (v := (x2 + 1)) (lv' := [(4, .int (x2 + 1)), (3, .int x2), (0, .ref (ad 0)), (1, .int h_), (2, .int season_)]) hx hb dX9_tellAt_44 hl (k := 4) rfl rfl (by decide) rfl (fun ls hl => ?_)
            refine lv_goto (tgt := 6) hx hb dX9_tellAt_47 (by decide) ?_
            exact ih6 x2 (x2 + 1) _ _ _ hv hP hD hS (lv_sub hl [2, 3, 4, 1, 0] rfl)
          · have hv := hv.2 c32
            refine lv_aload_n hx hb dX9_tellAt_30 rfl (lv_at hl 0 rfl) ?_
            refine lv_iload_n hx hb dX9_tellAt_31 rfl (lv_at hl 1 rfl) ?_
            refine lv_iload hx hb dX9_tellAt_32 (lv_at hl 4 rfl) ?_
            refine lv_iload_n hx hb dX9_tellAt_34 rfl (lv_at hl 3 rfl) ?_
            obtain ⟨g24, g25, g26, g27, g28, g29, hv⟩ := hv
            obtain ⟨hp, hv⟩ := hv
            refine k_read_i (w := wR cy ad) (va_runV (As := [.int h_, .int x2, .int x1]) (rest := []) ⟨hx, hb, hml, hown, hts⟩ (h_X9_isRather D cy ad A h_ x2 x1 g24 g25 g26 g27 g28 g29 σ0 hp) (cwV 3 hts gX9_tellAt_X9_isRather rfl rfl rfl (by decide +kernel) ⟨le_R hRf (Nat.le_of_ble_eq_true rfl), le_R hRl (Nat.le_of_ble_eq_true rfl)⟩) ⟨(fun a U g mk q => ⟨q.1, q.2.blind⟩), va_recv hK hP (ci := 9) (q0 := 0) rfl (wR_0 cy ad σ0), (fun U hU hW => ⟨rfl, WdR.pre hP hK hD hN hU hW⟩)⟩ rfl rfl hl.1 rfl (lv_room (Nat.le_of_ble_eq_true rfl)) dX9_tellAt_35 ⟨le_R hRc (Nat.le_refl 0), le_R hRs (Nat.le_refl 0)⟩) hS (fun r30 H locs hr1 hP hS => ?_)
            have hv := hv r30 hr1
            refine lv_if_eq (tgt := 44) hx hb dX9_tellAt_38 (by decide) (fun c31 => ?_) (fun c31 => ?_)
            · have hv := hv.1 c31
              refine lv_iinc (v := (x2 + 1)) (lv' := [(4, .int (x2 + 1)), (0, .ref (ad 0)), (1, .int h_), (2, .int season_), (3, .int x1)]) hx hb dX9_tellAt_44 hl (k := 4) rfl rfl (by decide) rfl (fun ls hl => ?_)
              refine lv_goto (tgt := 6) hx hb dX9_tellAt_47 (by decide) ?_
              exact ih6 x1 (x2 + 1) _ _ _ hv hP hD hS (lv_sub hl [1, 2, 3, 4, 0] rfl)
            · have hv := hv.2 c31
              refine lv_iload hx hb dX9_tellAt_41 (lv_at hl 4 rfl) ?_
              refine lv_istore_n (lv' := [(3, .int x2), (0, .ref (ad 0)), (1, .int h_), (2, .int season_), (4, .int x2)]) hx hb dX9_tellAt_43 rfl hl (by decide) rfl (fun ls hl => ?_)
              refine lv_iinc (v := (x2 + 1)) (lv' := [(4, .int (x2 + 1)), (3, .int x2), (0, .ref (ad 0)), (1, .int h_), (2, .int season_)]) hx hb dX9_tellAt_44 hl (k := 4) rfl rfl (by decide) rfl (fun ls hl => ?_)
              refine lv_goto (tgt := 6) hx hb dX9_tellAt_47 (by decide) ?_
              exact ih6 x2 (x2 + 1) _ _ _ hv hP hD hS (lv_sub hl [2, 3, 4, 1, 0] rfl)
  exact lp6 n6 (-9) 0 _ _ _ hv hP hD hS (lv_sub hl [2, 3, 4, 1, 0] rfl)
set_option maxHeartbeats 4000000 in
set_option maxRecDepth 100000 in
theorem wk_X9_goSeason (l : Launch) (h_X9_tellAt : Ct_X9_tellAt l) (sp : Sp_X9_goSeason) : Ct_X9_goSeason l := by
  intro D cy ad A season_ ag rg Sg σ0  hpre
  refine Met.ofW (cc := cX9_goSeason) (maxL := 4) (ret := none) (by decide) rfl ?_
  intro p e s m args below meth c s₁ B hml hv0
  obtain ⟨rfl, hP, hK, hD, hN⟩ := hv0
  have hx := B.exec
  have hb := B.bytes
  have hr := B.returns
  have hts := atoms_spec (ws := wsX9_goSeason) B.pre
  have hown : s.vm.findClass RX9 = some m.cls := findClass_of_methodNamed B.named
  have hlocks := B.notSynchronized
  have hv := sp season_ ag rg Sg σ0 hpre
  have hl := lv_entry ([.ref (ad 0), .int season_]) (n := 4) (Nat.le_of_ble_eq_true rfl)
  rw [lg_entry_eq]
  generalize (lg_sl ([.ref (ad 0), .int season_]) ++ List.replicate (4 - (lg_sl ([.ref (ad 0), .int season_])).length) Slot.unset).toArray = ls at hl ⊢
  have hl : lv_has ls 4 [(0, .ref (ad 0)), (1, .int season_)] := hl
  refine W_gen (fun R Z H locs hR hZ hH hlo => ?_)
  have hRf : R.frames = 4 := by rw [hR]; rfl
  have hRl : R.locals = 94 := by rw [hR]; rfl
  have hRc : R.cells = 0 := by rw [hR]; rfl
  have hRs : R.slots = 0 := by rw [hR]; rfl
  have hS : va_S A s.heap H locs := by rw [hH, hlo]; exact va_S.rf
  rw [← hH] at hP
  obtain ⟨Q, hQ⟩ : ∃ q : S_ → Prop, q = (post_X9_goSeason season_ ag rg Sg σ0) := ⟨_, rfl⟩
  rw [← hQ] at hv
  have hinX9 : ∀ w ∈ wsX90, w ∈ wsX9_goSeason := by decide +kernel
  refine lv_iconst (v := 0) hx hb dX9_goSeason_0 (by decide) ?_
  refine lv_istore_n (lv' := [(2, .int 0), (0, .ref (ad 0)), (1, .int season_)]) hx hb dX9_goSeason_1 rfl hl (by decide) rfl (fun ls hl => ?_)
  obtain ⟨n2, hv⟩ := hv
  have lp2 : ∀ (nn2 : Nat) (x1 : Int32) (σ2 : S_) (H : Heap) (locs : List Loc) (ls : Array Slot), vl_X9_goSeason_2 season_ Q nn2 x1 σ2 → va_P D vwCl (wR cy ad σ2) H → va_D A (wR cy ad σ2) → va_S A s.heap H locs → lv_has ls 4 [(0, .ref (ad 0)), (1, .int season_), (2, .int x1)] → W p l e R s m ([.ref (ad 0), .int season_] : List Value).toArray  below meth c H locs 0 0 Z (F0 m 2 ls []) := by
    intro nn2
    induction nn2 with
    | zero => intro x1 σ2 H locs ls hv; exact absurd hv id
    | succ mm2 ih2 =>
      intro x1 σ2 H locs ls hv hP hD hS hl
      refine lv_iload_n hx hb dX9_goSeason_2 rfl (lv_at hl 2 rfl) ?_
      refine lv_aload_n hx hb dX9_goSeason_3 rfl (lv_at hl 0 rfl) ?_
      refine va_get (ci := 9) (v := .int (rdI σ2 7)) (C := RX9) (T := TX9) (N := 38) hx hb hts hinX9 hown hK hP 0 (wR_0 cy ad σ2) rfl 17 (by decide) (hts (.fieldLink RX9 164 "TaleBansModel" "moves" "I") (List.mem_of_getElem? (i := 1) rfl)) (fun x h => h) rfl dX9_goSeason_4 ?_
      refine lv_icmp_ge (tgt := 57) hx hb dX9_goSeason_7 (by decide) (fun c26 => ?_) (fun c26 => ?_)
      · have hv := hv.1 c26
        refine lv_iconst (v := 0) hx hb dX9_goSeason_57 (by decide) ?_
        refine lv_istore_n (lv' := [(2, .int 0), (0, .ref (ad 0)), (1, .int season_)]) hx hb dX9_goSeason_58 rfl hl (by decide) rfl (fun ls hl => ?_)
        obtain ⟨n59, hv⟩ := hv
        have lp59 : ∀ (nn59 : Nat) (x3 : Int32) (σ4 : S_) (H : Heap) (locs : List Loc) (ls : Array Slot), vl_X9_goSeason_59 season_ Q nn59 x3 σ4 → va_P D vwCl (wR cy ad σ4) H → va_D A (wR cy ad σ4) → va_S A s.heap H locs → lv_has ls 4 [(0, .ref (ad 0)), (1, .int season_), (2, .int x3)] → W p l e R s m ([.ref (ad 0), .int season_] : List Value).toArray  below meth c H locs 0 0 Z (F0 m 59 ls []) := by
          intro nn59
          induction nn59 with
          | zero => intro x3 σ4 H locs ls hv; exact absurd hv id
          | succ mm59 ih59 =>
            intro x3 σ4 H locs ls hv hP hD hS hl
            refine lv_iload_n hx hb dX9_goSeason_59 rfl (lv_at hl 2 rfl) ?_
            refine lv_aload_n hx hb dX9_goSeason_60 rfl (lv_at hl 0 rfl) ?_
            refine va_get (ci := 9) (v := .int (rdI σ4 6)) (C := RX9) (T := TX9) (N := 38) hx hb hts hinX9 hown hK hP 0 (wR_0 cy ad σ4) rfl 12 (by decide) (hts (.fieldLink RX9 109 "TaleBansModel" "tales" "I") (List.mem_of_getElem? (i := 6) rfl)) (fun x h => h) rfl dX9_goSeason_61 ?_
            refine lv_icmp_ge (tgt := 111) hx hb dX9_goSeason_64 (by decide) (fun c19 => ?_) (fun c19 => ?_)
            · have hv := hv.1 c19
              refine lv_iconst (v := 0) hx hb dX9_goSeason_111 (by decide) ?_
              refine lv_istore_n (lv' := [(2, .int 0), (0, .ref (ad 0)), (1, .int season_)]) hx hb dX9_goSeason_112 rfl hl (by decide) rfl (fun ls hl => ?_)
              obtain ⟨n113, hv⟩ := hv
              have lp113 : ∀ (nn113 : Nat) (x5 : Int32) (σ6 : S_) (H : Heap) (locs : List Loc) (ls : Array Slot), vl_X9_goSeason_113 season_ Q nn113 x5 σ6 → va_P D vwCl (wR cy ad σ6) H → va_D A (wR cy ad σ6) → va_S A s.heap H locs → lv_has ls 4 [(0, .ref (ad 0)), (1, .int season_), (2, .int x5)] → W p l e R s m ([.ref (ad 0), .int season_] : List Value).toArray  below meth c H locs 0 0 Z (F0 m 113 ls []) := by
                intro nn113
                induction nn113 with
                | zero => intro x5 σ6 H locs ls hv; exact absurd hv id
                | succ mm113 ih113 =>
                  intro x5 σ6 H locs ls hv hP hD hS hl
                  refine lv_iload_n hx hb dX9_goSeason_113 rfl (lv_at hl 2 rfl) ?_
                  refine lv_iconst (v := 3) hx hb dX9_goSeason_114 (by decide) ?_
                  refine lv_icmp_ge (tgt := 130) hx hb dX9_goSeason_115 (by decide) (fun c12 => ?_) (fun c12 => ?_)
                  · have hv := hv.1 c12
                    rw [hZ]; rw [hQ] at hv
                    exact W.vret hx hb hr (fun t ht hW => ⟨⟨σ6, rfl, hv, ⟨P_of ht hP, hD⟩⟩, hS.F ht⟩) hS.2.2 dX9_goSeason_130
                  · have hv := hv.2 c12
                    refine lv_aload_n hx hb dX9_goSeason_118 rfl (lv_at hl 0 rfl) ?_
                    refine lv_iload_n hx hb dX9_goSeason_119 rfl (lv_at hl 2 rfl) ?_
                    refine lv_iload_n hx hb dX9_goSeason_120 rfl (lv_at hl 1 rfl) ?_
                    obtain ⟨g7, g8, g9, g10, hv⟩ := hv
                    obtain ⟨hp, hv⟩ := hv
                    refine k_rel_v (w := wR cy ad) (va_runV (As := [.int x5, .int season_]) (rest := []) ⟨hx, hb, hml, hown, hts⟩ (h_X9_tellAt D cy ad A x5 season_ g7 g8 g9 g10 σ6 hp) (cwV 2 hts gX9_goSeason_X9_tellAt rfl rfl rfl (by decide +kernel) ⟨le_R hRf (Nat.le_of_ble_eq_true rfl), le_R hRl (Nat.le_of_ble_eq_true rfl)⟩) ⟨(fun a U g mk q => ⟨q.1, q.2.blind⟩), va_recv hK hP (ci := 9) (q0 := 0) rfl (wR_0 cy ad σ6), (fun U hU hW => ⟨rfl, WdR.pre hP hK hD hN hU hW⟩)⟩ rfl rfl hl.1 rfl (lv_room (Nat.le_of_ble_eq_true rfl)) dX9_goSeason_121 ⟨le_R hRc (Nat.le_refl 0), le_R hRs (Nat.le_refl 0)⟩) hS (fun σ11 H locs hr1 hP hD hS => ?_)
                    have hv := hv σ11 hr1
                    refine lv_iinc (v := (x5 + 1)) (lv' := [(2, .int (x5 + 1)), (0, .ref (ad 0)), (1, .int season_)]) hx hb dX9_goSeason_124 hl (k := 2) rfl rfl (by decide) rfl (fun ls hl => ?_)
                    refine lv_goto (tgt := 113) hx hb dX9_goSeason_127 (by decide) ?_
                    exact ih113 (x5 + 1) σ11 _ _ _ hv hP hD hS (lv_sub hl [1, 2, 0] rfl)
              exact lp113 n113 0 σ4 _ _ _ hv hP hD hS (lv_sub hl [1, 2, 0] rfl)
            · have hv := hv.2 c19
              refine lv_bipush (v := 6) hx hb dX9_goSeason_67 (by decide) ?_
              refine lv_aload_n hx hb dX9_goSeason_69 rfl (lv_at hl 0 rfl) ?_
              refine va_get (ci := 9) (v := .ref (ad (8))) (C := RX9) (T := TX9) (N := 38) hx hb hts hinX9 hown hK hP 0 (wR_0 cy ad σ4) rfl 14 (by decide) (hts (.fieldLink RX9 31 "TaleBansModel" "taleTo" "[I") (List.mem_of_getElem? (i := 7) rfl)) (fun x h => h) rfl dX9_goSeason_70 ?_
              refine lv_iload_n hx hb dX9_goSeason_73 rfl (lv_at hl 2 rfl) ?_
              obtain ⟨hi, hv⟩ := hv
              refine va_iald hx hb hK hP 8 0 (wR_8 cy ad σ4) rfl hi dX9_goSeason_74 ?_
              refine lv_imul hx hb dX9_goSeason_75 ?_
              refine lv_iload_n hx hb dX9_goSeason_76 rfl (lv_at hl 2 rfl) ?_
              refine lv_iadd hx hb dX9_goSeason_77 ?_
              refine lv_istore_n (lv' := [(3, .int ((6 * (rdA σ4 8 (Int32.toNatClampNeg x3))) + x3)), (0, .ref (ad 0)), (1, .int season_), (2, .int x3)]) hx hb dX9_goSeason_78 rfl hl (by decide) rfl (fun ls hl => ?_)
              refine lv_aload_n hx hb dX9_goSeason_79 rfl (lv_at hl 1 rfl) ?_
              refine va_get (ci := 9) (v := .ref (ad (15))) (C := RX9) (T := TX9) (N := 38) hx hb hts hinX9 hown hK hP 0 (wR_0 cy ad σ4) rfl 22 (by decide) (hts (.fieldLink RX9 53 "TaleBansModel" "heardIn" "[I") (List.mem_of_getElem? (i := 8) rfl)) (fun x h => h) rfl dX9_goSeason_80 ?_
              refine lv_iload_n hx hb dX9_goSeason_83 rfl (lv_at hl 0 rfl) ?_
              refine lv_aload_n hx hb dX9_goSeason_84 rfl (lv_at hl 1 rfl) ?_
              refine va_get (ci := 9) (v := .ref (ad (9))) (C := RX9) (T := TX9) (N := 38) hx hb hts hinX9 hown hK hP 0 (wR_0 cy ad σ4) rfl 15 (by decide) (hts (.fieldLink RX9 34 "TaleBansModel" "taleIn" "[I") (List.mem_of_getElem? (i := 9) rfl)) (fun x h => h) rfl dX9_goSeason_85 ?_
              refine lv_iload_n hx hb dX9_goSeason_88 rfl (lv_at hl 3 rfl) ?_
              obtain ⟨hi, hv⟩ := hv
              refine va_iald hx hb hK hP 9 0 (wR_9 cy ad σ4) rfl hi dX9_goSeason_89 ?_
              refine lv_iload_n hx hb dX9_goSeason_90 rfl (lv_at hl 2 rfl) ?_
              obtain ⟨P13, hv, hvr⟩ := hv
              have jn14 : ∀ (b15 : Int32) (H : Heap) (locs : List Loc) (ls : Array Slot), P13 b15 → va_P D vwCl (wR cy ad σ4) H → va_S A s.heap H locs → lv_has ls 4 [(3, .int ((6 * (rdA σ4 8 (Int32.toNatClampNeg x3))) + x3)), (0, .ref (ad 0)), (1, .int season_), (2, .int x3)] → W p l e R s m ([.ref (ad 0), .int season_] : List Value).toArray below meth c H locs 0 0 Z (F0 m 104 ls [.int b15, .int ((6 * (rdA σ4 8 (Int32.toNatClampNeg x3))) + x3), .ref (ad (15))]) := by
                intro b15 H locs ls hv hP hS hl
                have hv := hvr b15 hv
                obtain ⟨hi, hv⟩ := hv
                refine va_iast hx hb hK hP hD hS 15 0 (wR_15 cy ad σ4) rfl hi dX9_goSeason_104 (fun H locs hP hD hS => ?_)
                obtain ⟨σ17, e18⟩ : ∃ y : S_, y = wr2 σ4 15 (Int32.toNatClampNeg ((6 * (rdA σ4 8 (Int32.toNatClampNeg x3))) + x3)) b15 := ⟨_, rfl⟩
                have hP : va_P D vwCl (wR cy ad σ17) H := by rw [e18]; exact hP
                have hD : va_D A (wR cy ad σ17) := by rw [e18]; exact hD
                have hv := hv σ17 e18
                refine lv_iinc (v := (x3 + 1)) (lv' := [(2, .int (x3 + 1)), (3, .int ((6 * (rdA σ4 8 (Int32.toNatClampNeg x3))) + x3)), (0, .ref (ad 0)), (1, .int season_)]) hx hb dX9_goSeason_105 hl (k := 3) rfl rfl (by decide) rfl (fun ls hl => ?_)
                refine lv_goto (tgt := 59) hx hb dX9_goSeason_108 (by decide) ?_
                exact ih59 (x3 + 1) σ17 _ _ _ hv hP hD hS (lv_sub hl [2, 3, 0] rfl)
              refine lv_icmp_ne (tgt := 98) hx hb dX9_goSeason_91 (by decide) (fun c16 => ?_) (fun c16 => ?_)
              · have hv := hv.1 c16
                refine lv_aload_n hx hb dX9_goSeason_98 rfl (lv_at hl 1 rfl) ?_
                refine va_get (ci := 9) (v := .ref (ad (15))) (C := RX9) (T := TX9) (N := 38) hx hb hts hinX9 hown hK hP 0 (wR_0 cy ad σ4) rfl 22 (by decide) (hts (.fieldLink RX9 53 "TaleBansModel" "heardIn" "[I") (List.mem_of_getElem? (i := 8) rfl)) (fun x h => h) rfl dX9_goSeason_99 ?_
                refine lv_iload_n hx hb dX9_goSeason_102 rfl (lv_at hl 0 rfl) ?_
                obtain ⟨hi, hv⟩ := hv
                refine va_iald hx hb hK hP 15 0 (wR_15 cy ad σ4) rfl hi dX9_goSeason_103 ?_
                exact jn14 (rdA σ4 15 (Int32.toNatClampNeg ((6 * (rdA σ4 8 (Int32.toNatClampNeg x3))) + x3))) _ _ _ hv hP hS hl
              · have hv := hv.2 c16
                refine lv_iload_n hx hb dX9_goSeason_94 rfl (lv_at hl 2 rfl) ?_
                refine lv_goto (tgt := 104) hx hb dX9_goSeason_95 (by decide) ?_
                exact jn14 season_ _ _ _ hv hP hS hl
        exact lp59 n59 0 σ2 _ _ _ hv hP hD hS (lv_sub hl [1, 2, 0] rfl)
      · have hv := hv.2 c26
        refine lv_aload_n hx hb dX9_goSeason_10 rfl (lv_at hl 0 rfl) ?_
        refine va_get (ci := 9) (v := .ref (ad (14))) (C := RX9) (T := TX9) (N := 38) hx hb hts hinX9 hown hK hP 0 (wR_0 cy ad σ2) rfl 21 (by decide) (hts (.fieldLink RX9 50 "TaleBansModel" "isAt" "[I") (List.mem_of_getElem? (i := 2) rfl)) (fun x h => h) rfl dX9_goSeason_11 ?_
        refine lv_aload_n hx hb dX9_goSeason_14 rfl (lv_at hl 0 rfl) ?_
        refine va_get (ci := 9) (v := .ref (ad (11))) (C := RX9) (T := TX9) (N := 38) hx hb hts hinX9 hown hK hP 0 (wR_0 cy ad σ2) rfl 18 (by decide) (hts (.fieldLink RX9 41 "TaleBansModel" "moveOf" "[I") (List.mem_of_getElem? (i := 3) rfl)) (fun x h => h) rfl dX9_goSeason_15 ?_
        refine lv_iload_n hx hb dX9_goSeason_18 rfl (lv_at hl 2 rfl) ?_
        obtain ⟨hi, hv⟩ := hv
        refine va_iald hx hb hK hP 11 0 (wR_11 cy ad σ2) rfl hi dX9_goSeason_19 ?_
        refine lv_aload_n hx hb dX9_goSeason_20 rfl (lv_at hl 0 rfl) ?_
        refine va_get (ci := 9) (v := .ref (ad (13))) (C := RX9) (T := TX9) (N := 38) hx hb hts hinX9 hown hK hP 0 (wR_0 cy ad σ2) rfl 20 (by decide) (hts (.fieldLink RX9 47 "TaleBansModel" "moveIn" "[I") (List.mem_of_getElem? (i := 4) rfl)) (fun x h => h) rfl dX9_goSeason_21 ?_
        refine lv_iload_n hx hb dX9_goSeason_24 rfl (lv_at hl 2 rfl) ?_
        obtain ⟨hi, hv⟩ := hv
        refine va_iald hx hb hK hP 13 0 (wR_13 cy ad σ2) rfl hi dX9_goSeason_25 ?_
        refine lv_iload_n hx hb dX9_goSeason_26 rfl (lv_at hl 1 rfl) ?_
        obtain ⟨P20, hv, hvr⟩ := hv
        have jn21 : ∀ (b22 : Int32) (H : Heap) (locs : List Loc) (ls : Array Slot), P20 b22 → va_P D vwCl (wR cy ad σ2) H → va_S A s.heap H locs → lv_has ls 4 [(0, .ref (ad 0)), (1, .int season_), (2, .int x1)] → W p l e R s m ([.ref (ad 0), .int season_] : List Value).toArray below meth c H locs 0 0 Z (F0 m 50 ls [.int b22, .int (rdA σ2 11 (Int32.toNatClampNeg x1)), .ref (ad (14))]) := by
          intro b22 H locs ls hv hP hS hl
          have hv := hvr b22 hv
          obtain ⟨hi, hv⟩ := hv
          refine va_iast hx hb hK hP hD hS 14 0 (wR_14 cy ad σ2) rfl hi dX9_goSeason_50 (fun H locs hP hD hS => ?_)
          obtain ⟨σ24, e25⟩ : ∃ y : S_, y = wr2 σ2 14 (Int32.toNatClampNeg (rdA σ2 11 (Int32.toNatClampNeg x1))) b22 := ⟨_, rfl⟩
          have hP : va_P D vwCl (wR cy ad σ24) H := by rw [e25]; exact hP
          have hD : va_D A (wR cy ad σ24) := by rw [e25]; exact hD
          have hv := hv σ24 e25
          refine lv_iinc (v := (x1 + 1)) (lv' := [(2, .int (x1 + 1)), (0, .ref (ad 0)), (1, .int season_)]) hx hb dX9_goSeason_51 hl (k := 2) rfl rfl (by decide) rfl (fun ls hl => ?_)
          refine lv_goto (tgt := 2) hx hb dX9_goSeason_54 (by decide) ?_
          exact ih2 (x1 + 1) σ24 _ _ _ hv hP hD hS (lv_sub hl [1, 2, 0] rfl)
        refine lv_icmp_ne (tgt := 39) hx hb dX9_goSeason_27 (by decide) (fun c23 => ?_) (fun c23 => ?_)
        · have hv := hv.1 c23
          refine lv_aload_n hx hb dX9_goSeason_39 rfl (lv_at hl 0 rfl) ?_
          refine va_get (ci := 9) (v := .ref (ad (14))) (C := RX9) (T := TX9) (N := 38) hx hb hts hinX9 hown hK hP 0 (wR_0 cy ad σ2) rfl 21 (by decide) (hts (.fieldLink RX9 50 "TaleBansModel" "isAt" "[I") (List.mem_of_getElem? (i := 2) rfl)) (fun x h => h) rfl dX9_goSeason_40 ?_
          refine lv_aload_n hx hb dX9_goSeason_43 rfl (lv_at hl 0 rfl) ?_
          refine va_get (ci := 9) (v := .ref (ad (11))) (C := RX9) (T := TX9) (N := 38) hx hb hts hinX9 hown hK hP 0 (wR_0 cy ad σ2) rfl 18 (by decide) (hts (.fieldLink RX9 41 "TaleBansModel" "moveOf" "[I") (List.mem_of_getElem? (i := 3) rfl)) (fun x h => h) rfl dX9_goSeason_44 ?_
          refine lv_iload_n hx hb dX9_goSeason_47 rfl (lv_at hl 2 rfl) ?_
          obtain ⟨hi, hv⟩ := hv
          refine va_iald hx hb hK hP 11 0 (wR_11 cy ad σ2) rfl hi dX9_goSeason_48 ?_
          obtain ⟨hi, hv⟩ := hv
          refine va_iald hx hb hK hP 14 0 (wR_14 cy ad σ2) rfl hi dX9_goSeason_49 ?_
          exact jn21 (rdA σ2 14 (Int32.toNatClampNeg (rdA σ2 11 (Int32.toNatClampNeg x1)))) _ _ _ hv hP hS hl
        · have hv := hv.2 c23
          refine lv_aload_n hx hb dX9_goSeason_30 rfl (lv_at hl 0 rfl) ?_
          refine va_get (ci := 9) (v := .ref (ad (12))) (C := RX9) (T := TX9) (N := 38) hx hb hts hinX9 hown hK hP 0 (wR_0 cy ad σ2) rfl 19 (by decide) (hts (.fieldLink RX9 44 "TaleBansModel" "moveTo" "[I") (List.mem_of_getElem? (i := 5) rfl)) (fun x h => h) rfl dX9_goSeason_31 ?_
          refine lv_iload_n hx hb dX9_goSeason_34 rfl (lv_at hl 2 rfl) ?_
          obtain ⟨hi, hv⟩ := hv
          refine va_iald hx hb hK hP 12 0 (wR_12 cy ad σ2) rfl hi dX9_goSeason_35 ?_
          refine lv_goto (tgt := 50) hx hb dX9_goSeason_36 (by decide) ?_
          exact jn21 (rdA σ2 12 (Int32.toNatClampNeg x1)) _ _ _ hv hP hS hl
  exact lp2 n2 0 σ0 _ _ _ hv hP hD hS (lv_sub hl [1, 2, 0] rfl)
set_option maxHeartbeats 4000000 in
set_option maxRecDepth 100000 in
theorem wk_X9_goTo (l : Launch) (h_X9_begin : Ct_X9_begin l) (h_X9_goSeason : Ct_X9_goSeason l) (sp : Sp_X9_goTo) : Ct_X9_goTo l := by
  intro D cy ad A season_ ag s1g σ0  hpre
  refine Met.ofW (cc := cX9_goTo) (maxL := 3) (ret := none) (by decide) rfl ?_
  intro p e s m args below meth c s₁ B hml hv0
  obtain ⟨rfl, hP, hK, hD, hN⟩ := hv0
  have hx := B.exec
  have hb := B.bytes
  have hr := B.returns
  have hts := atoms_spec (ws := wsX9_goTo) B.pre
  have hown : s.vm.findClass RX9 = some m.cls := findClass_of_methodNamed B.named
  have hlocks := B.notSynchronized
  have hv := sp season_ ag s1g σ0 hpre
  have hl := lv_entry ([.ref (ad 0), .int season_]) (n := 3) (Nat.le_of_ble_eq_true rfl)
  rw [lg_entry_eq]
  generalize (lg_sl ([.ref (ad 0), .int season_]) ++ List.replicate (3 - (lg_sl ([.ref (ad 0), .int season_])).length) Slot.unset).toArray = ls at hl ⊢
  have hl : lv_has ls 3 [(0, .ref (ad 0)), (1, .int season_)] := hl
  refine W_gen (fun R Z H locs hR hZ hH hlo => ?_)
  have hRf : R.frames = 5 := by rw [hR]; rfl
  have hRl : R.locals = 117 := by rw [hR]; rfl
  have hRc : R.cells = 0 := by rw [hR]; rfl
  have hRs : R.slots = 0 := by rw [hR]; rfl
  have hS : va_S A s.heap H locs := by rw [hH, hlo]; exact va_S.rf
  rw [← hH] at hP
  obtain ⟨Q, hQ⟩ : ∃ q : S_ → Prop, q = (post_X9_goTo season_ ag s1g σ0) := ⟨_, rfl⟩
  rw [← hQ] at hv
  refine lv_aload_n hx hb dX9_goTo_0 rfl (lv_at hl 0 rfl) ?_
  obtain ⟨g1, hv⟩ := hv
  obtain ⟨hp, hv⟩ := hv
  refine k_rel_v (w := wR cy ad) (va_runV (As := []) (rest := []) ⟨hx, hb, hml, hown, hts⟩ (h_X9_begin D cy ad A g1 σ0 hp) (cwV 0 hts gX9_goTo_X9_begin rfl rfl rfl (by decide +kernel) ⟨le_R hRf (Nat.le_of_ble_eq_true rfl), le_R hRl (Nat.le_of_ble_eq_true rfl)⟩) ⟨(fun a U g mk q => ⟨q.1, q.2.blind⟩), va_recv hK hP (ci := 9) (q0 := 0) rfl (wR_0 cy ad σ0), (fun U hU hW => ⟨rfl, WdR.pre hP hK hD hN hU hW⟩)⟩ rfl rfl hl.1 rfl (lv_room (Nat.le_of_ble_eq_true rfl)) dX9_goTo_1 ⟨le_R hRc (Nat.le_refl 0), le_R hRs (Nat.le_refl 0)⟩) hS (fun σ2 H locs hr1 hP hD hS => ?_)
  have hv := hv σ2 hr1
  refine lv_iconst (v := 0) hx hb dX9_goTo_4 (by decide) ?_
  refine lv_istore_n (lv' := [(2, .int 0), (0, .ref (ad 0)), (1, .int season_)]) hx hb dX9_goTo_5 rfl hl (by decide) rfl (fun ls hl => ?_)
  obtain ⟨n6, hv⟩ := hv
  have lp6 : ∀ (nn6 : Nat) (x3 : Int32) (σ4 : S_) (H : Heap) (locs : List Loc) (ls : Array Slot), vl_X9_goTo_6 season_ Q nn6 x3 σ4 → va_P D vwCl (wR cy ad σ4) H → va_D A (wR cy ad σ4) → va_S A s.heap H locs → lv_has ls 3 [(0, .ref (ad 0)), (1, .int season_), (2, .int x3)] → W p l e R s m ([.ref (ad 0), .int season_] : List Value).toArray  below meth c H locs 0 0 Z (F0 m 6 ls []) := by
    intro nn6
    induction nn6 with
    | zero => intro x3 σ4 H locs ls hv; exact absurd hv id
    | succ mm6 ih6 =>
      intro x3 σ4 H locs ls hv hP hD hS hl
      refine lv_iload_n hx hb dX9_goTo_6 rfl (lv_at hl 2 rfl) ?_
      refine lv_iload_n hx hb dX9_goTo_7 rfl (lv_at hl 1 rfl) ?_
      refine lv_icmp_gt (tgt := 22) hx hb dX9_goTo_8 (by decide) (fun c9 => ?_) (fun c9 => ?_)
      · have hv := hv.1 c9
        rw [hZ]; rw [hQ] at hv
        exact W.vret hx hb hr (fun t ht hW => ⟨⟨σ4, rfl, hv, ⟨P_of ht hP, hD⟩⟩, hS.F ht⟩) hS.2.2 dX9_goTo_22
      · have hv := hv.2 c9
        refine lv_aload_n hx hb dX9_goTo_11 rfl (lv_at hl 0 rfl) ?_
        refine lv_iload_n hx hb dX9_goTo_12 rfl (lv_at hl 2 rfl) ?_
        obtain ⟨g5, g6, g7, hv⟩ := hv
        obtain ⟨hp, hv⟩ := hv
        refine k_rel_v (w := wR cy ad) (va_runV (As := [.int x3]) (rest := []) ⟨hx, hb, hml, hown, hts⟩ (h_X9_goSeason D cy ad A x3 g5 g6 g7 σ4 hp) (cwV 1 hts gX9_goTo_X9_goSeason rfl rfl rfl (by decide +kernel) ⟨le_R hRf (Nat.le_of_ble_eq_true rfl), le_R hRl (Nat.le_of_ble_eq_true rfl)⟩) ⟨(fun a U g mk q => ⟨q.1, q.2.blind⟩), va_recv hK hP (ci := 9) (q0 := 0) rfl (wR_0 cy ad σ4), (fun U hU hW => ⟨rfl, WdR.pre hP hK hD hN hU hW⟩)⟩ rfl rfl hl.1 rfl (lv_room (Nat.le_of_ble_eq_true rfl)) dX9_goTo_13 ⟨le_R hRc (Nat.le_refl 0), le_R hRs (Nat.le_refl 0)⟩) hS (fun σ8 H locs hr1 hP hD hS => ?_)
        have hv := hv σ8 hr1
        refine lv_iinc (v := (x3 + 1)) (lv' := [(2, .int (x3 + 1)), (0, .ref (ad 0)), (1, .int season_)]) hx hb dX9_goTo_16 hl (k := 2) rfl rfl (by decide) rfl (fun ls hl => ?_)
        refine lv_goto (tgt := 6) hx hb dX9_goTo_19 (by decide) ?_
        exact ih6 (x3 + 1) σ8 _ _ _ hv hP hD hS (lv_sub hl [1, 2, 0] rfl)
  exact lp6 n6 0 σ2 _ _ _ hv hP hD hS (lv_sub hl [1, 2, 0] rfl)
set_option maxHeartbeats 4000000 in
set_option maxRecDepth 100000 in
theorem wk_X9_forbiddenIn (l : Launch) (h_X9_isAlive : Ct_X9_isAlive l) (sp : Sp_X9_forbiddenIn) : Ct_X9_forbiddenIn l := by
  intro D cy ad A season_ ag rg Sg σ0  hpre
  refine Met.ofW (cc := cX9_forbiddenIn) (maxL := 5) (ret := (some .int)) (by decide) rfl ?_
  intro p e s m args below meth c s₁ B hml hv0
  obtain ⟨rfl, hP, hK, hD, hN⟩ := hv0
  have hx := B.exec
  have hb := B.bytes
  have hr := B.returns
  have hts := atoms_spec (ws := wsX9_forbiddenIn) B.pre
  have hown : s.vm.findClass RX9 = some m.cls := findClass_of_methodNamed B.named
  have hlocks := B.notSynchronized
  have hv := sp season_ ag rg Sg σ0 hpre
  have hl := lv_entry ([.ref (ad 0), .int season_]) (n := 5) (Nat.le_of_ble_eq_true rfl)
  rw [lg_entry_eq]
  generalize (lg_sl ([.ref (ad 0), .int season_]) ++ List.replicate (5 - (lg_sl ([.ref (ad 0), .int season_])).length) Slot.unset).toArray = ls at hl ⊢
  have hl : lv_has ls 5 [(0, .ref (ad 0)), (1, .int season_)] := hl
  refine W_gen (fun R Z H locs hR hZ hH hlo => ?_)
  have hRf : R.frames = 3 := by rw [hR]; rfl
  have hRl : R.locals = 69 := by rw [hR]; rfl
  have hRc : R.cells = 0 := by rw [hR]; rfl
  have hRs : R.slots = 0 := by rw [hR]; rfl
  have hS : va_S A s.heap H locs := by rw [hH, hlo]; exact va_S.rf
  rw [← hH] at hP
  obtain ⟨Q, hQ⟩ : ∃ q : Int32 → Prop, q = (fun r => post_X9_forbiddenIn season_ ag rg Sg σ0 r) := ⟨_, rfl⟩
  rw [← hQ] at hv
  have hinX9 : ∀ w ∈ wsX90, w ∈ wsX9_forbiddenIn := by decide +kernel
  refine lv_iconst (v := 0) hx hb dX9_forbiddenIn_0 (by decide) ?_
  refine lv_istore_n (lv' := [(2, .int 0), (0, .ref (ad 0)), (1, .int season_)]) hx hb dX9_forbiddenIn_1 rfl hl (by decide) rfl (fun ls hl => ?_)
  refine lv_iconst (v := 0) hx hb dX9_forbiddenIn_2 (by decide) ?_
  refine lv_istore_n (lv' := [(3, .int 0), (2, .int 0), (0, .ref (ad 0)), (1, .int season_)]) hx hb dX9_forbiddenIn_3 rfl hl (by decide) rfl (fun ls hl => ?_)
  obtain ⟨n4, hv⟩ := hv
  have lp4 : ∀ (nn4 : Nat) (x1 : Int32) (x2 : Int32) (H : Heap) (locs : List Loc) (ls : Array Slot), vl_X9_forbiddenIn_4 season_ σ0 Q nn4 x1 x2 → va_P D vwCl (wR cy ad σ0) H → va_D A (wR cy ad σ0) → va_S A s.heap H locs → lv_has ls 5 [(0, .ref (ad 0)), (1, .int season_), (2, .int x1), (3, .int x2)] → W p l e R s m ([.ref (ad 0), .int season_] : List Value).toArray  below meth c H locs 0 0 Z (F0 m 4 ls []) := by
    intro nn4
    induction nn4 with
    | zero => intro x1 x2 H locs ls hv; exact absurd hv id
    | succ mm4 ih4 =>
      intro x1 x2 H locs ls hv hP hD hS hl
      refine lv_iload_n hx hb dX9_forbiddenIn_4 rfl (lv_at hl 3 rfl) ?_
      refine lv_aload_n hx hb dX9_forbiddenIn_5 rfl (lv_at hl 0 rfl) ?_
      refine va_get (ci := 9) (v := .int (rdI σ0 6)) (C := RX9) (T := TX9) (N := 38) hx hb hts hinX9 hown hK hP 0 (wR_0 cy ad σ0) rfl 12 (by decide) (hts (.fieldLink RX9 109 "TaleBansModel" "tales" "I") (List.mem_of_getElem? (i := 1) rfl)) (fun x h => h) rfl dX9_forbiddenIn_6 ?_
      refine lv_icmp_ge (tgt := 72) hx hb dX9_forbiddenIn_9 (by decide) (fun c18 => ?_) (fun c18 => ?_)
      · have hv := hv.1 c18
        refine lv_iload_n hx hb dX9_forbiddenIn_72 rfl (lv_at hl 2 rfl) ?_
        rw [hZ]; rw [hQ] at hv
        exact W.iret (v := x1) hx hb hr (fun t ht hW => ⟨⟨x1, (), rfl, hv, (P_of ht hP)⟩, hS.F ht⟩) hS.2.2 dX9_forbiddenIn_73
      · have hv := hv.2 c18
        refine lv_aload_n hx hb dX9_forbiddenIn_12 rfl (lv_at hl 0 rfl) ?_
        refine va_get (ci := 9) (v := .ref (ad (10))) (C := RX9) (T := TX9) (N := 38) hx hb hts hinX9 hown hK hP 0 (wR_0 cy ad σ0) rfl 16 (by decide) (hts (.fieldLink RX9 37 "TaleBansModel" "isParody" "[Z") (List.mem_of_getElem? (i := 2) rfl)) (fun x h => h) rfl dX9_forbiddenIn_13 ?_
        refine lv_iload_n hx hb dX9_forbiddenIn_16 rfl (lv_at hl 3 rfl) ?_
        obtain ⟨hi, hv⟩ := hv
        refine va_zald hx hb hK hP 10 1 (wR_10 cy ad σ0) rfl hi dX9_forbiddenIn_17 ?_
        obtain ⟨P3, hv, hvr⟩ := hv
        have jn4 : ∀ (b5 : Int32) (H : Heap) (locs : List Loc) (ls : Array Slot), P3 b5 → va_P D vwCl (wR cy ad σ0) H → va_S A s.heap H locs → lv_has ls 5 [(0, .ref (ad 0)), (1, .int season_), (2, .int x1), (3, .int x2)] → W p l e R s m ([.ref (ad 0), .int season_] : List Value).toArray below meth c H locs 0 0 Z (F0 m 35 ls [.int b5]) := by
          intro b5 H locs ls hv hP hS hl
          have hv := hvr b5 hv
          refine lv_istore (lv' := [(4, .int b5), (0, .ref (ad 0)), (1, .int season_), (2, .int x1), (3, .int x2)]) hx hb dX9_forbiddenIn_35 hl (by decide) rfl (fun ls hl => ?_)
          refine lv_iload_n hx hb dX9_forbiddenIn_37 rfl (lv_at hl 3 rfl) ?_
          refine lv_iload hx hb dX9_forbiddenIn_38 (lv_at hl 0 rfl) ?_
          obtain ⟨P8, hv, hvr⟩ := hv
          have jn9 : ∀ (b10 : Int32) (H : Heap) (locs : List Loc) (ls : Array Slot), P8 b10 → va_P D vwCl (wR cy ad σ0) H → va_S A s.heap H locs → lv_has ls 5 [(4, .int b5), (0, .ref (ad 0)), (1, .int season_), (2, .int x1), (3, .int x2)] → W p l e R s m ([.ref (ad 0), .int season_] : List Value).toArray below meth c H locs 0 0 Z (F0 m 64 ls [.int b10, .int x1]) := by
            intro b10 H locs ls hv hP hS hl
            have hv := hvr b10 hv
            refine lv_ior hx hb dX9_forbiddenIn_64 ?_
            refine lv_istore_n (lv' := [(2, .int (x1 ||| b10)), (4, .int b5), (0, .ref (ad 0)), (1, .int season_), (3, .int x2)]) hx hb dX9_forbiddenIn_65 rfl hl (by decide) rfl (fun ls hl => ?_)
            refine lv_iinc (v := (x2 + 1)) (lv' := [(3, .int (x2 + 1)), (2, .int (x1 ||| b10)), (4, .int b5), (0, .ref (ad 0)), (1, .int season_)]) hx hb dX9_forbiddenIn_66 hl (k := 4) rfl rfl (by decide) rfl (fun ls hl => ?_)
            refine lv_goto (tgt := 4) hx hb dX9_forbiddenIn_69 (by decide) ?_
            exact ih4 (x1 ||| b10) (x2 + 1) _ _ _ hv hP hD hS (lv_sub hl [3, 4, 1, 0] rfl)
          refine lv_if_ne (tgt := 63) hx hb dX9_forbiddenIn_40 (by decide) (fun c17 => ?_) (fun c17 => ?_)
          · have hv := hv.1 c17
            refine lv_iconst (v := 0) hx hb dX9_forbiddenIn_63 (by decide) ?_
            exact jn9 0 _ _ _ hv hP hS hl
          · have hv := hv.2 c17
            refine lv_aload_n hx hb dX9_forbiddenIn_43 rfl (lv_at hl 1 rfl) ?_
            refine lv_iload_n hx hb dX9_forbiddenIn_44 rfl (lv_at hl 4 rfl) ?_
            refine lv_iload_n hx hb dX9_forbiddenIn_45 rfl (lv_at hl 2 rfl) ?_
            obtain ⟨g11, g12, g13, g14, hv⟩ := hv
            obtain ⟨hp, hv⟩ := hv
            refine k_read_i (w := wR cy ad) (va_runV (As := [.int x2, .int season_]) (rest := [.int x1]) ⟨hx, hb, hml, hown, hts⟩ (h_X9_isAlive D cy ad A x2 season_ g11 g12 g13 g14 σ0 hp) (cwV 2 hts gX9_forbiddenIn_X9_isAlive rfl rfl rfl (by decide +kernel) ⟨le_R hRf (Nat.le_of_ble_eq_true rfl), le_R hRl (Nat.le_of_ble_eq_true rfl)⟩) ⟨(fun a U g mk q => ⟨q.1, q.2.blind⟩), va_recv hK hP (ci := 9) (q0 := 0) rfl (wR_0 cy ad σ0), (fun U hU hW => ⟨rfl, WdR.pre hP hK hD hN hU hW⟩)⟩ rfl rfl hl.1 rfl (lv_room (Nat.le_of_ble_eq_true rfl)) dX9_forbiddenIn_46 ⟨le_R hRc (Nat.le_refl 0), le_R hRs (Nat.le_refl 0)⟩) hS (fun r15 H locs hr1 hP hS => ?_)
            have hv := hv r15 hr1
            refine lv_if_eq (tgt := 63) hx hb dX9_forbiddenIn_49 (by decide) (fun c16 => ?_) (fun c16 => ?_)
            · have hv := hv.1 c16
              refine lv_iconst (v := 0) hx hb dX9_forbiddenIn_63 (by decide) ?_
              exact jn9 0 _ _ _ hv hP hS hl
            · have hv := hv.2 c16
              refine lv_iconst (v := 1) hx hb dX9_forbiddenIn_52 (by decide) ?_
              refine lv_aload_n hx hb dX9_forbiddenIn_53 rfl (lv_at hl 1 rfl) ?_
              refine va_get (ci := 9) (v := .ref (ad (7))) (C := RX9) (T := TX9) (N := 38) hx hb hts hinX9 hown hK hP 0 (wR_0 cy ad σ0) rfl 13 (by decide) (hts (.fieldLink RX9 28 "TaleBansModel" "taleDeed" "[I") (List.mem_of_getElem? (i := 3) rfl)) (fun x h => h) rfl dX9_forbiddenIn_54 ?_
              refine lv_iload_n hx hb dX9_forbiddenIn_57 rfl (lv_at hl 4 rfl) ?_
              obtain ⟨hi, hv⟩ := hv
              refine va_iald hx hb hK hP 7 0 (wR_7 cy ad σ0) rfl hi dX9_forbiddenIn_58 ?_
              refine lv_ishl hx hb dX9_forbiddenIn_59 ?_
              refine lv_goto (tgt := 64) hx hb dX9_forbiddenIn_60 (by decide) ?_
              exact jn9 (1 <<< ((rdA σ0 7 (Int32.toNatClampNeg x2)) &&& 31)) _ _ _ hv hP hS hl
        refine lv_if_eq (tgt := 34) hx hb dX9_forbiddenIn_18 (by decide) (fun c7 => ?_) (fun c7 => ?_)
        · have hv := hv.1 c7
          refine lv_iconst (v := 0) hx hb dX9_forbiddenIn_34 (by decide) ?_
          exact jn4 0 _ _ _ hv hP hS hl
        · have hv := hv.2 c7
          refine lv_iload_n hx hb dX9_forbiddenIn_21 rfl (lv_at hl 1 rfl) ?_
          refine lv_bipush (v := 7) hx hb dX9_forbiddenIn_22 (by decide) ?_
          obtain ⟨hne, hv⟩ := hv
          refine lv_irem hx hb dX9_forbiddenIn_24 hne ?_
          refine lv_bipush (v := 6) hx hb dX9_forbiddenIn_25 (by decide) ?_
          refine lv_icmp_ne (tgt := 34) hx hb dX9_forbiddenIn_27 (by decide) (fun c6 => ?_) (fun c6 => ?_)
          · have hv := hv.1 c6
            refine lv_iconst (v := 0) hx hb dX9_forbiddenIn_34 (by decide) ?_
            exact jn4 0 _ _ _ hv hP hS hl
          · have hv := hv.2 c6
            refine lv_iconst (v := 1) hx hb dX9_forbiddenIn_30 (by decide) ?_
            refine lv_goto (tgt := 35) hx hb dX9_forbiddenIn_31 (by decide) ?_
            exact jn4 1 _ _ _ hv hP hS hl
  exact lp4 n4 0 0 _ _ _ hv hP hD hS (lv_sub hl [2, 3, 1, 0] rfl)
set_option maxHeartbeats 4000000 in
set_option maxRecDepth 100000 in
theorem wk_X9_isForbidden (l : Launch) (h_X9_forbiddenIn : Ct_X9_forbiddenIn l) (h_X9_goTo : Ct_X9_goTo l) (h_X9_isIn : Ct_X9_isIn l) (sp : Sp_X9_isForbidden) : Ct_X9_isForbidden l := by
  intro D cy ad A deed_ season_ ag d1g s1g σ0  hpre
  refine Met.ofW (cc := cX9_isForbidden) (maxL := 3) (ret := (some .boolean)) (by decide) rfl ?_
  intro p e s m args below meth c s₁ B hml hv0
  obtain ⟨rfl, hP, hK, hD, hN⟩ := hv0
  have hx := B.exec
  have hb := B.bytes
  have hr := B.returns
  have hts := atoms_spec (ws := wsX9_isForbidden) B.pre
  have hown : s.vm.findClass RX9 = some m.cls := findClass_of_methodNamed B.named
  have hlocks := B.notSynchronized
  have hv := sp deed_ season_ ag d1g s1g σ0 hpre
  have hl := lv_entry ([.ref (ad 0), .int deed_, .int season_]) (n := 3) (Nat.le_of_ble_eq_true rfl)
  rw [lg_entry_eq]
  generalize (lg_sl ([.ref (ad 0), .int deed_, .int season_]) ++ List.replicate (3 - (lg_sl ([.ref (ad 0), .int deed_, .int season_])).length) Slot.unset).toArray = ls at hl ⊢
  have hl : lv_has ls 3 [(0, .ref (ad 0)), (1, .int deed_), (2, .int season_)] := hl
  refine W_gen (fun R Z H locs hR hZ hH hlo => ?_)
  have hRf : R.frames = 6 := by rw [hR]; rfl
  have hRl : R.locals = 139 := by rw [hR]; rfl
  have hRc : R.cells = 0 := by rw [hR]; rfl
  have hRs : R.slots = 0 := by rw [hR]; rfl
  have hS : va_S A s.heap H locs := by rw [hH, hlo]; exact va_S.rf
  rw [← hH] at hP
  obtain ⟨Q, hQ⟩ : ∃ q : Int32 → S_ → Prop, q = (post_X9_isForbidden deed_ season_ ag d1g s1g σ0) := ⟨_, rfl⟩
  rw [← hQ] at hv
  refine lv_aload_n hx hb dX9_isForbidden_0 rfl (lv_at hl 0 rfl) ?_
  refine lv_iload_n hx hb dX9_isForbidden_1 rfl (lv_at hl 2 rfl) ?_
  obtain ⟨g1, g2, hv⟩ := hv
  obtain ⟨hp, hv⟩ := hv
  refine k_rel_v (w := wR cy ad) (va_runV (As := [.int season_]) (rest := []) ⟨hx, hb, hml, hown, hts⟩ (h_X9_goTo D cy ad A season_ g1 g2 σ0 hp) (cwV 1 hts gX9_isForbidden_X9_goTo rfl rfl rfl (by decide +kernel) ⟨le_R hRf (Nat.le_of_ble_eq_true rfl), le_R hRl (Nat.le_of_ble_eq_true rfl)⟩) ⟨(fun a U g mk q => ⟨q.1, q.2.blind⟩), va_recv hK hP (ci := 9) (q0 := 0) rfl (wR_0 cy ad σ0), (fun U hU hW => ⟨rfl, WdR.pre hP hK hD hN hU hW⟩)⟩ rfl rfl hl.1 rfl (lv_room (Nat.le_of_ble_eq_true rfl)) dX9_isForbidden_2 ⟨le_R hRc (Nat.le_refl 0), le_R hRs (Nat.le_refl 0)⟩) hS (fun σ3 H locs hr1 hP hD hS => ?_)
  have hv := hv σ3 hr1
  refine lv_aload_n hx hb dX9_isForbidden_5 rfl (lv_at hl 0 rfl) ?_
  refine lv_iload_n hx hb dX9_isForbidden_6 rfl (lv_at hl 2 rfl) ?_
  obtain ⟨g4, g5, g6, hv⟩ := hv
  obtain ⟨hp, hv⟩ := hv
  refine k_read_i (w := wR cy ad) (va_runV (As := [.int season_]) (rest := []) ⟨hx, hb, hml, hown, hts⟩ (h_X9_forbiddenIn D cy ad A season_ g4 g5 g6 σ3 hp) (cwV 1 hts gX9_isForbidden_X9_forbiddenIn rfl rfl rfl (by decide +kernel) ⟨le_R hRf (Nat.le_of_ble_eq_true rfl), le_R hRl (Nat.le_of_ble_eq_true rfl)⟩) ⟨(fun a U g mk q => ⟨q.1, q.2.blind⟩), va_recv hK hP (ci := 9) (q0 := 0) rfl (wR_0 cy ad σ3), (fun U hU hW => ⟨rfl, WdR.pre hP hK hD hN hU hW⟩)⟩ rfl rfl hl.1 rfl (lv_room (Nat.le_of_ble_eq_true rfl)) dX9_isForbidden_7 ⟨le_R hRc (Nat.le_refl 0), le_R hRs (Nat.le_refl 0)⟩) hS (fun r7 H locs hr1 hP hS => ?_)
  have hv := hv r7 hr1
  refine lv_iload_n hx hb dX9_isForbidden_10 rfl (lv_at hl 1 rfl) ?_
  refine k_pure_i (va_runS (As := [.int r7, .int deed_]) (rest := []) ⟨hx, hb, hml, hown, hts⟩ (h_X9_isIn r7 deed_) (va_cwS 2 hts gX9_isForbidden_X9_isIn rfl rfl rfl (by decide +kernel) ⟨le_R hRf (Nat.le_of_ble_eq_true rfl), le_R hRl (Nat.le_of_ble_eq_true rfl)⟩) ⟨(fun a U g mk q => ⟨q.1, trivial⟩), (fun U hU hW => ⟨rfl, trivial⟩)⟩ rfl rfl hl.1 rfl (lv_room (Nat.le_of_ble_eq_true rfl)) dX9_isForbidden_11 ⟨le_R hRc (Nat.le_refl 0), le_R hRs (Nat.le_refl 0)⟩) hS hP (fun r H locs hr1 hP hS => ?_)
  subst hr1
  obtain ⟨h01, hv⟩ := hv
  rw [hZ]; rw [hQ] at hv
  exact W.zret (v := (fn_X9_isIn r7 deed_)) hx hb hr (nar_b h01) (fun t ht hW => ⟨⟨(fn_X9_isIn r7 deed_), σ3, rfl, hv, ⟨P_of ht hP, hD⟩⟩, hS.F ht⟩) hS.2.2 dX9_isForbidden_14
set_option maxHeartbeats 4000000 in
set_option maxRecDepth 100000 in
theorem wk_X9_endOf (l : Launch) (h_X9_begin : Ct_X9_begin l) (h_X9_goSeason : Ct_X9_goSeason l) (h_X9_isAlive : Ct_X9_isAlive l) (sp : Sp_X9_endOf) : Ct_X9_endOf l := by
  intro D cy ad A t_ ag t1g σ0  hpre
  refine Met.ofW (cc := cX9_endOf) (maxL := 3) (ret := (some .int)) (by decide) rfl ?_
  intro p e s m args below meth c s₁ B hml hv0
  obtain ⟨rfl, hP, hK, hD, hN⟩ := hv0
  have hx := B.exec
  have hb := B.bytes
  have hr := B.returns
  have hts := atoms_spec (ws := wsX9_endOf) B.pre
  have hown : s.vm.findClass RX9 = some m.cls := findClass_of_methodNamed B.named
  have hlocks := B.notSynchronized
  have hv := sp t_ ag t1g σ0 hpre
  have hl := lv_entry ([.ref (ad 0), .int t_]) (n := 3) (Nat.le_of_ble_eq_true rfl)
  rw [lg_entry_eq]
  generalize (lg_sl ([.ref (ad 0), .int t_]) ++ List.replicate (3 - (lg_sl ([.ref (ad 0), .int t_])).length) Slot.unset).toArray = ls at hl ⊢
  have hl : lv_has ls 3 [(0, .ref (ad 0)), (1, .int t_)] := hl
  refine W_gen (fun R Z H locs hR hZ hH hlo => ?_)
  have hRf : R.frames = 5 := by rw [hR]; rfl
  have hRl : R.locals = 117 := by rw [hR]; rfl
  have hRc : R.cells = 0 := by rw [hR]; rfl
  have hRs : R.slots = 0 := by rw [hR]; rfl
  have hS : va_S A s.heap H locs := by rw [hH, hlo]; exact va_S.rf
  rw [← hH] at hP
  obtain ⟨Q, hQ⟩ : ∃ q : Int32 → S_ → Prop, q = (post_X9_endOf t_ ag t1g σ0) := ⟨_, rfl⟩
  rw [← hQ] at hv
  have hinX9 : ∀ w ∈ wsX90, w ∈ wsX9_endOf := by decide +kernel
  refine lv_aload_n hx hb dX9_endOf_0 rfl (lv_at hl 0 rfl) ?_
  obtain ⟨g1, hv⟩ := hv
  obtain ⟨hp, hv⟩ := hv
  refine k_rel_v (w := wR cy ad) (va_runV (As := []) (rest := []) ⟨hx, hb, hml, hown, hts⟩ (h_X9_begin D cy ad A g1 σ0 hp) (cwV 0 hts gX9_endOf_X9_begin rfl rfl rfl (by decide +kernel) ⟨le_R hRf (Nat.le_of_ble_eq_true rfl), le_R hRl (Nat.le_of_ble_eq_true rfl)⟩) ⟨(fun a U g mk q => ⟨q.1, q.2.blind⟩), va_recv hK hP (ci := 9) (q0 := 0) rfl (wR_0 cy ad σ0), (fun U hU hW => ⟨rfl, WdR.pre hP hK hD hN hU hW⟩)⟩ rfl rfl hl.1 rfl (lv_room (Nat.le_of_ble_eq_true rfl)) dX9_endOf_1 ⟨le_R hRc (Nat.le_refl 0), le_R hRs (Nat.le_refl 0)⟩) hS (fun σ2 H locs hr1 hP hD hS => ?_)
  have hv := hv σ2 hr1
  refine lv_iconst (v := 0) hx hb dX9_endOf_4 (by decide) ?_
  refine lv_istore_n (lv' := [(2, .int 0), (0, .ref (ad 0)), (1, .int t_)]) hx hb dX9_endOf_5 rfl hl (by decide) rfl (fun ls hl => ?_)
  obtain ⟨n6, hv⟩ := hv
  have lp6 : ∀ (nn6 : Nat) (x3 : Int32) (σ4 : S_) (H : Heap) (locs : List Loc) (ls : Array Slot), vl_X9_endOf_6 t_ Q nn6 x3 σ4 → va_P D vwCl (wR cy ad σ4) H → va_D A (wR cy ad σ4) → va_S A s.heap H locs → lv_has ls 3 [(0, .ref (ad 0)), (1, .int t_), (2, .int x3)] → W p l e R s m ([.ref (ad 0), .int t_] : List Value).toArray  below meth c H locs 0 0 Z (F0 m 6 ls []) := by
    intro nn6
    induction nn6 with
    | zero => intro x3 σ4 H locs ls hv; exact absurd hv id
    | succ mm6 ih6 =>
      intro x3 σ4 H locs ls hv hP hD hS hl
      refine lv_iload_n hx hb dX9_endOf_6 rfl (lv_at hl 2 rfl) ?_
      refine lv_bipush (v := 40) hx hb dX9_endOf_7 (by decide) ?_
      refine lv_icmp_ge (tgt := 44) hx hb dX9_endOf_9 (by decide) (fun c16 => ?_) (fun c16 => ?_)
      · have hv := hv.1 c16
        refine lv_bipush (v := 99) hx hb dX9_endOf_44 (by decide) ?_
        rw [hZ]; rw [hQ] at hv
        exact W.iret (v := 99) hx hb hr (fun t ht hW => ⟨⟨99, σ4, rfl, hv, ⟨P_of ht hP, hD⟩⟩, hS.F ht⟩) hS.2.2 dX9_endOf_46
      · have hv := hv.2 c16
        refine lv_aload_n hx hb dX9_endOf_12 rfl (lv_at hl 0 rfl) ?_
        refine lv_iload_n hx hb dX9_endOf_13 rfl (lv_at hl 2 rfl) ?_
        obtain ⟨g5, g6, g7, hv⟩ := hv
        obtain ⟨hp, hv⟩ := hv
        refine k_rel_v (w := wR cy ad) (va_runV (As := [.int x3]) (rest := []) ⟨hx, hb, hml, hown, hts⟩ (h_X9_goSeason D cy ad A x3 g5 g6 g7 σ4 hp) (cwV 1 hts gX9_endOf_X9_goSeason rfl rfl rfl (by decide +kernel) ⟨le_R hRf (Nat.le_of_ble_eq_true rfl), le_R hRl (Nat.le_of_ble_eq_true rfl)⟩) ⟨(fun a U g mk q => ⟨q.1, q.2.blind⟩), va_recv hK hP (ci := 9) (q0 := 0) rfl (wR_0 cy ad σ4), (fun U hU hW => ⟨rfl, WdR.pre hP hK hD hN hU hW⟩)⟩ rfl rfl hl.1 rfl (lv_room (Nat.le_of_ble_eq_true rfl)) dX9_endOf_14 ⟨le_R hRc (Nat.le_refl 0), le_R hRs (Nat.le_refl 0)⟩) hS (fun σ8 H locs hr1 hP hD hS => ?_)
        have hv := hv σ8 hr1
        refine lv_iload_n hx hb dX9_endOf_17 rfl (lv_at hl 2 rfl) ?_
        refine lv_aload_n hx hb dX9_endOf_18 rfl (lv_at hl 0 rfl) ?_
        refine va_get (ci := 9) (v := .ref (ad (9))) (C := RX9) (T := TX9) (N := 38) hx hb hts hinX9 hown hK hP 0 (wR_0 cy ad σ8) rfl 15 (by decide) (hts (.fieldLink RX9 34 "TaleBansModel" "taleIn" "[I") (List.mem_of_getElem? (i := 1) rfl)) (fun x h => h) rfl dX9_endOf_19 ?_
        refine lv_iload_n hx hb dX9_endOf_22 rfl (lv_at hl 1 rfl) ?_
        obtain ⟨hi, hv⟩ := hv
        refine va_iald hx hb hK hP 9 0 (wR_9 cy ad σ8) rfl hi dX9_endOf_23 ?_
        refine lv_icmp_le (tgt := 38) hx hb dX9_endOf_24 (by decide) (fun c15 => ?_) (fun c15 => ?_)
        · have hv := hv.1 c15
          refine lv_iinc (v := (x3 + 1)) (lv' := [(2, .int (x3 + 1)), (0, .ref (ad 0)), (1, .int t_)]) hx hb dX9_endOf_38 hl (k := 2) rfl rfl (by decide) rfl (fun ls hl => ?_)
          refine lv_goto (tgt := 6) hx hb dX9_endOf_41 (by decide) ?_
          exact ih6 (x3 + 1) σ8 _ _ _ hv hP hD hS (lv_sub hl [1, 2, 0] rfl)
        · have hv := hv.2 c15
          refine lv_aload_n hx hb dX9_endOf_27 rfl (lv_at hl 0 rfl) ?_
          refine lv_iload_n hx hb dX9_endOf_28 rfl (lv_at hl 1 rfl) ?_
          refine lv_iload_n hx hb dX9_endOf_29 rfl (lv_at hl 2 rfl) ?_
          obtain ⟨g9, g10, g11, g12, hv⟩ := hv
          obtain ⟨hp, hv⟩ := hv
          refine k_read_i (w := wR cy ad) (va_runV (As := [.int t_, .int x3]) (rest := []) ⟨hx, hb, hml, hown, hts⟩ (h_X9_isAlive D cy ad A t_ x3 g9 g10 g11 g12 σ8 hp) (cwV 2 hts gX9_endOf_X9_isAlive rfl rfl rfl (by decide +kernel) ⟨le_R hRf (Nat.le_of_ble_eq_true rfl), le_R hRl (Nat.le_of_ble_eq_true rfl)⟩) ⟨(fun a U g mk q => ⟨q.1, q.2.blind⟩), va_recv hK hP (ci := 9) (q0 := 0) rfl (wR_0 cy ad σ8), (fun U hU hW => ⟨rfl, WdR.pre hP hK hD hN hU hW⟩)⟩ rfl rfl hl.1 rfl (lv_room (Nat.le_of_ble_eq_true rfl)) dX9_endOf_30 ⟨le_R hRc (Nat.le_refl 0), le_R hRs (Nat.le_refl 0)⟩) hS (fun r13 H locs hr1 hP hS => ?_)
          have hv := hv r13 hr1
          refine lv_if_ne (tgt := 38) hx hb dX9_endOf_33 (by decide) (fun c14 => ?_) (fun c14 => ?_)
          · have hv := hv.1 c14
            refine lv_iinc (v := (x3 + 1)) (lv' := [(2, .int (x3 + 1)), (0, .ref (ad 0)), (1, .int t_)]) hx hb dX9_endOf_38 hl (k := 2) rfl rfl (by decide) rfl (fun ls hl => ?_)
            refine lv_goto (tgt := 6) hx hb dX9_endOf_41 (by decide) ?_
            exact ih6 (x3 + 1) σ8 _ _ _ hv hP hD hS (lv_sub hl [1, 2, 0] rfl)
          · have hv := hv.2 c14
            refine lv_iload_n hx hb dX9_endOf_36 rfl (lv_at hl 2 rfl) ?_
            rw [hZ]; rw [hQ] at hv
            exact W.iret (v := x3) hx hb hr (fun t ht hW => ⟨⟨x3, σ8, rfl, hv, ⟨P_of ht hP, hD⟩⟩, hS.F ht⟩) hS.2.2 dX9_endOf_37
  exact lp6 n6 0 σ2 _ _ _ hv hP hD hS (lv_sub hl [1, 2, 0] rfl)
set_option maxHeartbeats 4000000 in
set_option maxRecDepth 100000 in
theorem wk_X9_refusedFor (l : Launch) (h_X9_isSeason : Ct_X9_isSeason l) (h_X9_noDeed : Ct_X9_noDeed l) (sp : Sp_X9_refusedFor) : Ct_X9_refusedFor l := by
  intro D cy ad A deed_ season_  σ0  hpre
  refine Met.ofW (cc := cX9_refusedFor) (maxL := 3) (ret := (some .int)) (by decide) rfl ?_
  intro p e s m args below meth c s₁ B hml hv0
  obtain ⟨rfl, hP, hK, hD, hN⟩ := hv0
  have hx := B.exec
  have hb := B.bytes
  have hr := B.returns
  have hts := atoms_spec (ws := wsX9_refusedFor) B.pre
  have hown : s.vm.findClass RX9 = some m.cls := findClass_of_methodNamed B.named
  have hlocks := B.notSynchronized
  have hv := sp deed_ season_  σ0 hpre
  have hl := lv_entry ([.ref (ad 0), .int deed_, .int season_]) (n := 3) (Nat.le_of_ble_eq_true rfl)
  rw [lg_entry_eq]
  generalize (lg_sl ([.ref (ad 0), .int deed_, .int season_]) ++ List.replicate (3 - (lg_sl ([.ref (ad 0), .int deed_, .int season_])).length) Slot.unset).toArray = ls at hl ⊢
  have hl : lv_has ls 3 [(0, .ref (ad 0)), (1, .int deed_), (2, .int season_)] := hl
  refine W_gen (fun R Z H locs hR hZ hH hlo => ?_)
  have hRf : R.frames = 2 := by rw [hR]; rfl
  have hRl : R.locals = 45 := by rw [hR]; rfl
  have hRc : R.cells = 0 := by rw [hR]; rfl
  have hRs : R.slots = 0 := by rw [hR]; rfl
  have hS : va_S A s.heap H locs := by rw [hH, hlo]; exact va_S.rf
  rw [← hH] at hP
  obtain ⟨Q, hQ⟩ : ∃ q : Int32 → Prop, q = (fun r => r = fn_X9_refusedFor deed_ season_ σ0) := ⟨_, rfl⟩
  rw [← hQ] at hv
  have hinX9 : ∀ w ∈ wsX90, w ∈ wsX9_refusedFor := by decide +kernel
  refine lv_iload_n hx hb dX9_refusedFor_0 rfl (lv_at hl 1 rfl) ?_
  refine k_pure_i (va_runS (As := [.int deed_]) (rest := []) ⟨hx, hb, hml, hown, hts⟩ (h_X9_noDeed deed_) (va_cwS 1 hts gX9_refusedFor_X9_noDeed rfl rfl rfl (by decide +kernel) ⟨le_R hRf (Nat.le_of_ble_eq_true rfl), le_R hRl (Nat.le_of_ble_eq_true rfl)⟩) ⟨(fun a U g mk q => ⟨q.1, trivial⟩), (fun U hU hW => ⟨rfl, trivial⟩)⟩ rfl rfl hl.1 rfl (lv_room (Nat.le_of_ble_eq_true rfl)) dX9_refusedFor_1 ⟨le_R hRc (Nat.le_refl 0), le_R hRs (Nat.le_refl 0)⟩) hS hP (fun r H locs hr1 hP hS => ?_)
  subst hr1
  refine lv_if_eq (tgt := 9) hx hb dX9_refusedFor_4 (by decide) (fun c3 => ?_) (fun c3 => ?_)
  · have hv := hv.1 c3
    refine lv_iload_n hx hb dX9_refusedFor_9 rfl (lv_at hl 2 rfl) ?_
    refine k_pure_i (va_runS (As := [.int season_]) (rest := []) ⟨hx, hb, hml, hown, hts⟩ (h_X9_isSeason season_) (va_cwS 1 hts gX9_refusedFor_X9_isSeason rfl rfl rfl (by decide +kernel) ⟨le_R hRf (Nat.le_of_ble_eq_true rfl), le_R hRl (Nat.le_of_ble_eq_true rfl)⟩) ⟨(fun a U g mk q => ⟨q.1, trivial⟩), (fun U hU hW => ⟨rfl, trivial⟩)⟩ rfl rfl hl.1 rfl (lv_room (Nat.le_of_ble_eq_true rfl)) dX9_refusedFor_10 ⟨le_R hRc (Nat.le_refl 0), le_R hRs (Nat.le_refl 0)⟩) hS hP (fun r H locs hr1 hP hS => ?_)
    subst hr1
    refine lv_if_ne (tgt := 19) hx hb dX9_refusedFor_13 (by decide) (fun c2 => ?_) (fun c2 => ?_)
    · have hv := hv.1 c2
      refine lv_aload_n hx hb dX9_refusedFor_19 rfl (lv_at hl 0 rfl) ?_
      refine va_get (ci := 9) (v := .int (rdI σ0 1)) (C := RX9) (T := TX9) (N := 38) hx hb hts hinX9 hown hK hP 0 (wR_0 cy ad σ0) rfl 1 (by decide) (hts (.fieldLink RX9 102 "TaleBansModel" "persons" "I") (List.mem_of_getElem? (i := 1) rfl)) (fun x h => h) rfl dX9_refusedFor_20 ?_
      refine lv_if_ne (tgt := 31) hx hb dX9_refusedFor_23 (by decide) (fun c1 => ?_) (fun c1 => ?_)
      · have hv := hv.1 c1
        refine lv_iconst (v := 0) hx hb dX9_refusedFor_31 (by decide) ?_
        rw [hZ]; rw [hQ] at hv
        exact W.iret (v := 0) hx hb hr (fun t ht hW => ⟨⟨0, (), rfl, hv, (P_of ht hP)⟩, hS.F ht⟩) hS.2.2 dX9_refusedFor_32
      · have hv := hv.2 c1
        refine lv_bipush (v := (-3)) hx hb dX9_refusedFor_26 (by decide) ?_
        refine lv_goto (tgt := 32) hx hb dX9_refusedFor_28 (by decide) ?_
        rw [hZ]; rw [hQ] at hv
        exact W.iret (v := (-3)) hx hb hr (fun t ht hW => ⟨⟨(-3), (), rfl, hv, (P_of ht hP)⟩, hS.F ht⟩) hS.2.2 dX9_refusedFor_32
    · have hv := hv.2 c2
      refine lv_bipush (v := (-2)) hx hb dX9_refusedFor_16 (by decide) ?_
      rw [hZ]; rw [hQ] at hv
      exact W.iret (v := (-2)) hx hb hr (fun t ht hW => ⟨⟨(-2), (), rfl, hv, (P_of ht hP)⟩, hS.F ht⟩) hS.2.2 dX9_refusedFor_18
  · have hv := hv.2 c3
    refine lv_iconst (v := (-1)) hx hb dX9_refusedFor_7 (by decide) ?_
    rw [hZ]; rw [hQ] at hv
    exact W.iret (v := (-1)) hx hb hr (fun t ht hW => ⟨⟨(-1), (), rfl, hv, (P_of ht hP)⟩, hS.F ht⟩) hS.2.2 dX9_refusedFor_8
set_option maxHeartbeats 4000000 in
set_option maxRecDepth 100000 in
theorem wk_X9_areSo (l : Launch) (h_X9_begin : Ct_X9_begin l) (h_X9_doesRemember : Ct_X9_doesRemember l) (h_X9_goSeason : Ct_X9_goSeason l) (sp : Sp_X9_areSo) : Ct_X9_areSo l := by
  intro D cy ad A  ag σ0  hpre
  refine Met.ofW (cc := cX9_areSo) (maxL := 4) (ret := (some .boolean)) (by decide) rfl ?_
  intro p e s m args below meth c s₁ B hml hv0
  obtain ⟨rfl, hP, hK, hD, hN⟩ := hv0
  have hx := B.exec
  have hb := B.bytes
  have hr := B.returns
  have hts := atoms_spec (ws := wsX9_areSo) B.pre
  have hown : s.vm.findClass RX9 = some m.cls := findClass_of_methodNamed B.named
  have hlocks := B.notSynchronized
  have hv := sp  ag σ0 hpre
  have hl := lv_entry ([.ref (ad 0)]) (n := 4) (Nat.le_of_ble_eq_true rfl)
  rw [lg_entry_eq]
  generalize (lg_sl ([.ref (ad 0)]) ++ List.replicate (4 - (lg_sl ([.ref (ad 0)])).length) Slot.unset).toArray = ls at hl ⊢
  have hl : lv_has ls 4 [(0, .ref (ad 0))] := hl
  refine W_gen (fun R Z H locs hR hZ hH hlo => ?_)
  have hRf : R.frames = 5 := by rw [hR]; rfl
  have hRl : R.locals = 117 := by rw [hR]; rfl
  have hRc : R.cells = 0 := by rw [hR]; rfl
  have hRs : R.slots = 0 := by rw [hR]; rfl
  have hS : va_S A s.heap H locs := by rw [hH, hlo]; exact va_S.rf
  rw [← hH] at hP
  obtain ⟨Q, hQ⟩ : ∃ q : Int32 → S_ → Prop, q = (post_X9_areSo  ag σ0) := ⟨_, rfl⟩
  rw [← hQ] at hv
  have hinX9 : ∀ w ∈ wsX90, w ∈ wsX9_areSo := by decide +kernel
  refine lv_iconst (v := 1) hx hb dX9_areSo_0 (by decide) ?_
  refine lv_istore_n (lv' := [(1, .int 1), (0, .ref (ad 0))]) hx hb dX9_areSo_1 rfl hl (by decide) rfl (fun ls hl => ?_)
  refine lv_aload_n hx hb dX9_areSo_2 rfl (lv_at hl 1 rfl) ?_
  obtain ⟨g1, hv⟩ := hv
  obtain ⟨hp, hv⟩ := hv
  refine k_rel_v (w := wR cy ad) (va_runV (As := []) (rest := []) ⟨hx, hb, hml, hown, hts⟩ (h_X9_begin D cy ad A g1 σ0 hp) (cwV 0 hts gX9_areSo_X9_begin rfl rfl rfl (by decide +kernel) ⟨le_R hRf (Nat.le_of_ble_eq_true rfl), le_R hRl (Nat.le_of_ble_eq_true rfl)⟩) ⟨(fun a U g mk q => ⟨q.1, q.2.blind⟩), va_recv hK hP (ci := 9) (q0 := 0) rfl (wR_0 cy ad σ0), (fun U hU hW => ⟨rfl, WdR.pre hP hK hD hN hU hW⟩)⟩ rfl rfl hl.1 rfl (lv_room (Nat.le_of_ble_eq_true rfl)) dX9_areSo_3 ⟨le_R hRc (Nat.le_refl 0), le_R hRs (Nat.le_refl 0)⟩) hS (fun σ2 H locs hr1 hP hD hS => ?_)
  have hv := hv σ2 hr1
  refine lv_iconst (v := 0) hx hb dX9_areSo_6 (by decide) ?_
  refine lv_istore_n (lv' := [(2, .int 0), (1, .int 1), (0, .ref (ad 0))]) hx hb dX9_areSo_7 rfl hl (by decide) rfl (fun ls hl => ?_)
  obtain ⟨n8, hv⟩ := hv
  have lp8 : ∀ (nn8 : Nat) (x3 : Int32) (x4 : Int32) (σ5 : S_) (H : Heap) (locs : List Loc) (ls : Array Slot), vl_X9_areSo_8 Q nn8 x3 x4 σ5 → va_P D vwCl (wR cy ad σ5) H → va_D A (wR cy ad σ5) → va_S A s.heap H locs → lv_has ls 4 [(0, .ref (ad 0)), (1, .int x3), (2, .int x4)] → W p l e R s m ([.ref (ad 0)] : List Value).toArray  below meth c H locs 0 0 Z (F0 m 8 ls []) := by
    intro nn8
    induction nn8 with
    | zero => intro x3 x4 σ5 H locs ls hv; exact absurd hv id
    | succ mm8 ih8 =>
      intro x3 x4 σ5 H locs ls hv hP hD hS hl
      refine lv_iload_n hx hb dX9_areSo_8 rfl (lv_at hl 2 rfl) ?_
      refine lv_bipush (v := 40) hx hb dX9_areSo_9 (by decide) ?_
      refine lv_icmp_ge (tgt := 91) hx hb dX9_areSo_11 (by decide) (fun c26 => ?_) (fun c26 => ?_)
      · have hv := hv.1 c26
        refine lv_iload_n hx hb dX9_areSo_91 rfl (lv_at hl 1 rfl) ?_
        obtain ⟨h01, hv⟩ := hv
        rw [hZ]; rw [hQ] at hv
        exact W.zret (v := x3) hx hb hr (nar_b h01) (fun t ht hW => ⟨⟨x3, σ5, rfl, hv, ⟨P_of ht hP, hD⟩⟩, hS.F ht⟩) hS.2.2 dX9_areSo_92
      · have hv := hv.2 c26
        refine lv_iload_n hx hb dX9_areSo_14 rfl (lv_at hl 1 rfl) ?_
        refine lv_if_eq (tgt := 91) hx hb dX9_areSo_15 (by decide) (fun c25 => ?_) (fun c25 => ?_)
        · have hv := hv.1 c25
          refine lv_iload_n hx hb dX9_areSo_91 rfl (lv_at hl 1 rfl) ?_
          obtain ⟨h01, hv⟩ := hv
          rw [hZ]; rw [hQ] at hv
          exact W.zret (v := x3) hx hb hr (nar_b h01) (fun t ht hW => ⟨⟨x3, σ5, rfl, hv, ⟨P_of ht hP, hD⟩⟩, hS.F ht⟩) hS.2.2 dX9_areSo_92
        · have hv := hv.2 c25
          refine lv_aload_n hx hb dX9_areSo_18 rfl (lv_at hl 0 rfl) ?_
          refine lv_iload_n hx hb dX9_areSo_19 rfl (lv_at hl 2 rfl) ?_
          obtain ⟨g6, g7, g8, hv⟩ := hv
          obtain ⟨hp, hv⟩ := hv
          refine k_rel_v (w := wR cy ad) (va_runV (As := [.int x4]) (rest := []) ⟨hx, hb, hml, hown, hts⟩ (h_X9_goSeason D cy ad A x4 g6 g7 g8 σ5 hp) (cwV 1 hts gX9_areSo_X9_goSeason rfl rfl rfl (by decide +kernel) ⟨le_R hRf (Nat.le_of_ble_eq_true rfl), le_R hRl (Nat.le_of_ble_eq_true rfl)⟩) ⟨(fun a U g mk q => ⟨q.1, q.2.blind⟩), va_recv hK hP (ci := 9) (q0 := 0) rfl (wR_0 cy ad σ5), (fun U hU hW => ⟨rfl, WdR.pre hP hK hD hN hU hW⟩)⟩ rfl rfl hl.1 rfl (lv_room (Nat.le_of_ble_eq_true rfl)) dX9_areSo_20 ⟨le_R hRc (Nat.le_refl 0), le_R hRs (Nat.le_refl 0)⟩) hS (fun σ9 H locs hr1 hP hD hS => ?_)
          have hv := hv σ9 hr1
          refine lv_iconst (v := 0) hx hb dX9_areSo_23 (by decide) ?_
          refine lv_istore_n (lv' := [(3, .int 0), (0, .ref (ad 0)), (1, .int x3), (2, .int x4)]) hx hb dX9_areSo_24 rfl hl (by decide) rfl (fun ls hl => ?_)
          obtain ⟨n25, hv⟩ := hv
          have lp25 : ∀ (nn25 : Nat) (x10 : Int32) (x11 : Int32) (H : Heap) (locs : List Loc) (ls : Array Slot), vl_X9_areSo_25 x4 σ9 (vl_X9_areSo_8 Q mm8) nn25 x10 x11 → va_P D vwCl (wR cy ad σ9) H → va_D A (wR cy ad σ9) → va_S A s.heap H locs → lv_has ls 4 [(0, .ref (ad 0)), (1, .int x10), (2, .int x4), (3, .int x11)] → W p l e R s m ([.ref (ad 0)] : List Value).toArray  below meth c H locs 0 0 Z (F0 m 25 ls []) := by
            intro nn25
            induction nn25 with
            | zero => intro x10 x11 H locs ls hv; exact absurd hv id
            | succ mm25 ih25 =>
              intro x10 x11 H locs ls hv hP hD hS hl
              refine lv_iload_n hx hb dX9_areSo_25 rfl (lv_at hl 3 rfl) ?_
              refine lv_aload_n hx hb dX9_areSo_26 rfl (lv_at hl 0 rfl) ?_
              refine va_get (ci := 9) (v := .int (rdI σ9 9)) (C := RX9) (T := TX9) (N := 38) hx hb hts hinX9 hown hK hP 0 (wR_0 cy ad σ9) rfl 28 (by decide) (hts (.fieldLink RX9 170 "TaleBansModel" "readings" "I") (List.mem_of_getElem? (i := 1) rfl)) (fun x h => h) rfl dX9_areSo_27 ?_
              refine lv_icmp_ge (tgt := 85) hx hb dX9_areSo_30 (by decide) (fun c24 => ?_) (fun c24 => ?_)
              · have hv := hv.1 c24
                refine lv_iinc (v := (x4 + 1)) (lv' := [(2, .int (x4 + 1)), (0, .ref (ad 0)), (1, .int x10), (3, .int x11)]) hx hb dX9_areSo_85 hl (k := 2) rfl rfl (by decide) rfl (fun ls hl => ?_)
                refine lv_goto (tgt := 8) hx hb dX9_areSo_88 (by decide) ?_
                exact ih8 x10 (x4 + 1) σ9 _ _ _ hv hP hD hS (lv_sub hl [1, 2, 0] rfl)
              · have hv := hv.2 c24
                refine lv_iload_n hx hb dX9_areSo_33 rfl (lv_at hl 1 rfl) ?_
                obtain ⟨P12, hv, hvr⟩ := hv
                have jn13 : ∀ (b14 : Int32) (H : Heap) (locs : List Loc) (ls : Array Slot), P12 b14 → va_P D vwCl (wR cy ad σ9) H → va_S A s.heap H locs → lv_has ls 4 [(0, .ref (ad 0)), (1, .int x10), (2, .int x4), (3, .int x11)] → W p l e R s m ([.ref (ad 0)] : List Value).toArray below meth c H locs 0 0 Z (F0 m 78 ls [.int b14]) := by
                  intro b14 H locs ls hv hP hS hl
                  have hv := hvr b14 hv
                  refine lv_istore_n (lv' := [(1, .int b14), (0, .ref (ad 0)), (2, .int x4), (3, .int x11)]) hx hb dX9_areSo_78 rfl hl (by decide) rfl (fun ls hl => ?_)
                  refine lv_iinc (v := (x11 + 1)) (lv' := [(3, .int (x11 + 1)), (1, .int b14), (0, .ref (ad 0)), (2, .int x4)]) hx hb dX9_areSo_79 hl (k := 3) rfl rfl (by decide) rfl (fun ls hl => ?_)
                  refine lv_goto (tgt := 25) hx hb dX9_areSo_82 (by decide) ?_
                  exact ih25 b14 (x11 + 1) _ _ _ hv hP hD hS (lv_sub hl [2, 1, 3, 0] rfl)
                refine lv_if_eq (tgt := 77) hx hb dX9_areSo_34 (by decide) (fun c23 => ?_) (fun c23 => ?_)
                · have hv := hv.1 c23
                  refine lv_iconst (v := 0) hx hb dX9_areSo_77 (by decide) ?_
                  exact jn13 0 _ _ _ hv hP hS hl
                · have hv := hv.2 c23
                  refine lv_aload_n hx hb dX9_areSo_37 rfl (lv_at hl 0 rfl) ?_
                  refine va_get (ci := 9) (v := .ref (ad (22))) (C := RX9) (T := TX9) (N := 38) hx hb hts hinX9 hown hK hP 0 (wR_0 cy ad σ9) rfl 31 (by decide) (hts (.fieldLink RX9 74 "TaleBansModel" "readingIn" "[I") (List.mem_of_getElem? (i := 2) rfl)) (fun x h => h) rfl dX9_areSo_38 ?_
                  refine lv_iload_n hx hb dX9_areSo_41 rfl (lv_at hl 3 rfl) ?_
                  obtain ⟨hi, hv⟩ := hv
                  refine va_iald hx hb hK hP 22 0 (wR_22 cy ad σ9) rfl hi dX9_areSo_42 ?_
                  refine lv_iload_n hx hb dX9_areSo_43 rfl (lv_at hl 2 rfl) ?_
                  refine lv_icmp_ne (tgt := 73) hx hb dX9_areSo_44 (by decide) (fun c22 => ?_) (fun c22 => ?_)
                  · have hv := hv.1 c22
                    refine lv_iconst (v := 1) hx hb dX9_areSo_73 (by decide) ?_
                    refine lv_goto (tgt := 78) hx hb dX9_areSo_74 (by decide) ?_
                    exact jn13 1 _ _ _ hv hP hS hl
                  · have hv := hv.2 c22
                    refine lv_aload_n hx hb dX9_areSo_47 rfl (lv_at hl 0 rfl) ?_
                    refine lv_aload_n hx hb dX9_areSo_48 rfl (lv_at hl 0 rfl) ?_
                    refine va_get (ci := 9) (v := .ref (ad (20))) (C := RX9) (T := TX9) (N := 38) hx hb hts hinX9 hown hK hP 0 (wR_0 cy ad σ9) rfl 29 (by decide) (hts (.fieldLink RX9 68 "TaleBansModel" "readingOf" "[I") (List.mem_of_getElem? (i := 3) rfl)) (fun x h => h) rfl dX9_areSo_49 ?_
                    refine lv_iload_n hx hb dX9_areSo_52 rfl (lv_at hl 3 rfl) ?_
                    obtain ⟨hi, hv⟩ := hv
                    refine va_iald hx hb hK hP 20 0 (wR_20 cy ad σ9) rfl hi dX9_areSo_53 ?_
                    refine lv_aload_n hx hb dX9_areSo_54 rfl (lv_at hl 0 rfl) ?_
                    refine va_get (ci := 9) (v := .ref (ad (21))) (C := RX9) (T := TX9) (N := 38) hx hb hts hinX9 hown hK hP 0 (wR_0 cy ad σ9) rfl 30 (by decide) (hts (.fieldLink RX9 71 "TaleBansModel" "readingTale" "[I") (List.mem_of_getElem? (i := 4) rfl)) (fun x h => h) rfl dX9_areSo_55 ?_
                    refine lv_iload_n hx hb dX9_areSo_58 rfl (lv_at hl 3 rfl) ?_
                    obtain ⟨hi, hv⟩ := hv
                    refine va_iald hx hb hK hP 21 0 (wR_21 cy ad σ9) rfl hi dX9_areSo_59 ?_
                    refine lv_iload_n hx hb dX9_areSo_60 rfl (lv_at hl 2 rfl) ?_
                    obtain ⟨g15, g16, g17, g18, g19, hv⟩ := hv
                    obtain ⟨hp, hv⟩ := hv
                    refine k_read_i (w := wR cy ad) (va_runV (As := [.int (rdA σ9 20 (Int32.toNatClampNeg x11)), .int (rdA σ9 21 (Int32.toNatClampNeg x11)), .int x4]) (rest := []) ⟨hx, hb, hml, hown, hts⟩ (h_X9_doesRemember D cy ad A (rdA σ9 20 (Int32.toNatClampNeg x11)) (rdA σ9 21 (Int32.toNatClampNeg x11)) x4 g15 g16 g17 g18 g19 σ9 hp) (cwV 3 hts gX9_areSo_X9_doesRemember rfl rfl rfl (by decide +kernel) ⟨le_R hRf (Nat.le_of_ble_eq_true rfl), le_R hRl (Nat.le_of_ble_eq_true rfl)⟩) ⟨(fun a U g mk q => ⟨q.1, q.2.blind⟩), va_recv hK hP (ci := 9) (q0 := 0) rfl (wR_0 cy ad σ9), (fun U hU hW => ⟨rfl, WdR.pre hP hK hD hN hU hW⟩)⟩ rfl rfl hl.1 rfl (lv_room (Nat.le_of_ble_eq_true rfl)) dX9_areSo_61 ⟨le_R hRc (Nat.le_refl 0), le_R hRs (Nat.le_refl 0)⟩) hS (fun r20 H locs hr1 hP hS => ?_)
                    have hv := hv r20 hr1
                    refine lv_aload_n hx hb dX9_areSo_64 rfl (lv_at hl 0 rfl) ?_
                    refine va_get (ci := 9) (v := .ref (ad (23))) (C := RX9) (T := TX9) (N := 38) hx hb hts hinX9 hown hK hP 0 (wR_0 cy ad σ9) rfl 32 (by decide) (hts (.fieldLink RX9 77 "TaleBansModel" "readingDid" "[Z") (List.mem_of_getElem? (i := 5) rfl)) (fun x h => h) rfl dX9_areSo_65 ?_
                    refine lv_iload_n hx hb dX9_areSo_68 rfl (lv_at hl 3 rfl) ?_
                    obtain ⟨hi, hv⟩ := hv
                    refine va_zald hx hb hK hP 23 1 (wR_23 cy ad σ9) rfl hi dX9_areSo_69 ?_
                    refine lv_icmp_ne (tgt := 77) hx hb dX9_areSo_70 (by decide) (fun c21 => ?_) (fun c21 => ?_)
                    · have hv := hv.1 c21
                      refine lv_iconst (v := 0) hx hb dX9_areSo_77 (by decide) ?_
                      exact jn13 0 _ _ _ hv hP hS hl
                    · have hv := hv.2 c21
                      refine lv_iconst (v := 1) hx hb dX9_areSo_73 (by decide) ?_
                      refine lv_goto (tgt := 78) hx hb dX9_areSo_74 (by decide) ?_
                      exact jn13 1 _ _ _ hv hP hS hl
          exact lp25 n25 x3 0 _ _ _ hv hP hD hS (lv_sub hl [1, 2, 3, 0] rfl)
  exact lp8 n8 1 0 σ2 _ _ _ hv hP hD hS (lv_sub hl [2, 1, 0] rfl)
set_option maxHeartbeats 4000000 in
set_option maxRecDepth 100000 in
theorem wk_X9_noCell (l : Launch) (h_X9_in : Ct_X9_in l) (sp : Sp_X9_noCell) : Ct_X9_noCell l := by
  intro D cy ad A k_ i_ ag k1g σ0  hpre
  refine Met.ofW (cc := cX9_noCell) (maxL := 3) (ret := (some .int)) (by decide) rfl ?_
  intro p e s m args below meth c s₁ B hml hv0
  obtain ⟨rfl, hP, hK, hD, hN⟩ := hv0
  have hx := B.exec
  have hb := B.bytes
  have hr := B.returns
  have hts := atoms_spec (ws := wsX9_noCell) B.pre
  have hown : s.vm.findClass RX9 = some m.cls := findClass_of_methodNamed B.named
  have hlocks := B.notSynchronized
  have hv := sp k_ i_ ag k1g σ0 hpre
  have hl := lv_entry ([.ref (ad 0), .int k_, .int i_]) (n := 3) (Nat.le_of_ble_eq_true rfl)
  rw [lg_entry_eq]
  generalize (lg_sl ([.ref (ad 0), .int k_, .int i_]) ++ List.replicate (3 - (lg_sl ([.ref (ad 0), .int k_, .int i_])).length) Slot.unset).toArray = ls at hl ⊢
  have hl : lv_has ls 3 [(0, .ref (ad 0)), (1, .int k_), (2, .int i_)] := hl
  refine W_gen (fun R Z H locs hR hZ hH hlo => ?_)
  have hRf : R.frames = 1 := by rw [hR]; rfl
  have hRl : R.locals = 25 := by rw [hR]; rfl
  have hRc : R.cells = 0 := by rw [hR]; rfl
  have hRs : R.slots = 0 := by rw [hR]; rfl
  have hS : va_S A s.heap H locs := by rw [hH, hlo]; exact va_S.rf
  rw [← hH] at hP
  obtain ⟨Q, hQ⟩ : ∃ q : Int32 → Prop, q = (fun r => post_X9_noCell k_ i_ ag k1g σ0 r) := ⟨_, rfl⟩
  rw [← hQ] at hv
  have hinX9 : ∀ w ∈ wsX90, w ∈ wsX9_noCell := by decide +kernel
  refine lv_aload_n hx hb dX9_noCell_0 rfl (lv_at hl 0 rfl) ?_
  refine va_get (ci := 9) (v := .ref (ad (24))) (C := RX9) (T := TX9) (N := 38) hx hb hts hinX9 hown hK hP 0 (wR_0 cy ad σ0) rfl 33 (by decide) (hts (.fieldLink RX9 80 "TaleBansModel" "sheetSize" "[I") (List.mem_of_getElem? (i := 1) rfl)) (fun x h => h) rfl dX9_noCell_1 ?_
  refine lv_iload_n hx hb dX9_noCell_4 rfl (lv_at hl 1 rfl) ?_
  obtain ⟨hi, hv⟩ := hv
  refine va_iald hx hb hK hP 24 0 (wR_24 cy ad σ0) rfl hi dX9_noCell_5 ?_
  refine lv_if_ge (tgt := 13) hx hb dX9_noCell_6 (by decide) (fun c2 => ?_) (fun c2 => ?_)
  · have hv := hv.1 c2
    refine lv_iload_n hx hb dX9_noCell_13 rfl (lv_at hl 2 rfl) ?_
    refine lv_i2l hx hb dX9_noCell_14 rfl ?_
    refine lv_lconst (v := 0) hx hb dX9_noCell_15 rfl ?_
    refine lv_aload_n hx hb dX9_noCell_16 rfl (lv_at hl 0 rfl) ?_
    refine va_get (ci := 9) (v := .ref (ad (24))) (C := RX9) (T := TX9) (N := 38) hx hb hts hinX9 hown hK hP 0 (wR_0 cy ad σ0) rfl 33 (by decide) (hts (.fieldLink RX9 80 "TaleBansModel" "sheetSize" "[I") (List.mem_of_getElem? (i := 1) rfl)) (fun x h => h) rfl dX9_noCell_17 ?_
    refine lv_iload_n hx hb dX9_noCell_20 rfl (lv_at hl 1 rfl) ?_
    obtain ⟨hi, hv⟩ := hv
    refine va_iald hx hb hK hP 24 0 (wR_24 cy ad σ0) rfl hi dX9_noCell_21 ?_
    refine lv_i2l hx hb dX9_noCell_22 rfl ?_
    refine lv_lconst (v := 1) hx hb dX9_noCell_23 rfl ?_
    refine lv_lsub hx hb dX9_noCell_24 ?_
    refine k_pure_i (va_runS (As := [.long (Int32.toInt64 i_), .long 0, .long ((Int32.toInt64 (rdA σ0 24 (Int32.toNatClampNeg k_))) - 1)]) (rest := []) ⟨hx, hb, hml, hown, hts⟩ (h_X9_in (Int32.toInt64 i_) 0 ((Int32.toInt64 (rdA σ0 24 (Int32.toNatClampNeg k_))) - 1)) (va_cwS 3 hts gX9_noCell_X9_in rfl rfl rfl (by decide +kernel) ⟨le_R hRf (Nat.le_of_ble_eq_true rfl), le_R hRl (Nat.le_of_ble_eq_true rfl)⟩) ⟨(fun a U g mk q => ⟨q.1, trivial⟩), (fun U hU hW => ⟨rfl, trivial⟩)⟩ rfl rfl hl.1 rfl (lv_room (Nat.le_of_ble_eq_true rfl)) dX9_noCell_25 ⟨le_R hRc (Nat.le_refl 0), le_R hRs (Nat.le_refl 0)⟩) hS hP (fun r H locs hr1 hP hS => ?_)
    subst hr1
    refine lv_if_eq (tgt := 35) hx hb dX9_noCell_28 (by decide) (fun c1 => ?_) (fun c1 => ?_)
    · have hv := hv.1 c1
      refine lv_iconst (v := 3) hx hb dX9_noCell_35 (by decide) ?_
      rw [hZ]; rw [hQ] at hv
      exact W.iret (v := 3) hx hb hr (fun t ht hW => ⟨⟨3, (), rfl, hv, (P_of ht hP)⟩, hS.F ht⟩) hS.2.2 dX9_noCell_36
    · have hv := hv.2 c1
      refine lv_iconst (v := 0) hx hb dX9_noCell_31 (by decide) ?_
      refine lv_goto (tgt := 36) hx hb dX9_noCell_32 (by decide) ?_
      rw [hZ]; rw [hQ] at hv
      exact W.iret (v := 0) hx hb hr (fun t ht hW => ⟨⟨0, (), rfl, hv, (P_of ht hP)⟩, hS.F ht⟩) hS.2.2 dX9_noCell_36
  · have hv := hv.2 c2
    refine lv_iconst (v := 1) hx hb dX9_noCell_9 (by decide) ?_
    refine lv_goto (tgt := 36) hx hb dX9_noCell_10 (by decide) ?_
    rw [hZ]; rw [hQ] at hv
    exact W.iret (v := 1) hx hb hr (fun t ht hW => ⟨⟨1, (), rfl, hv, (P_of ht hP)⟩, hS.F ht⟩) hS.2.2 dX9_noCell_36
set_option maxHeartbeats 4000000 in
set_option maxRecDepth 100000 in
theorem wk_X9_traced (l : Launch) (sp : Sp_X9_traced) : Ct_X9_traced l := by
  intro D cy ad A b_  σ0  hpre
  refine Met.ofW (cc := cX9_traced) (maxL := 2) (ret := none) (by decide) rfl ?_
  intro p e s m args below meth c s₁ B hml hv0
  obtain ⟨rfl, hP, hK, hD, hN⟩ := hv0
  have hx := B.exec
  have hb := B.bytes
  have hr := B.returns
  have hts := atoms_spec (ws := wsX9_traced) B.pre
  have hown : s.vm.findClass RX9 = some m.cls := findClass_of_methodNamed B.named
  have hlocks := B.notSynchronized
  have hv := sp b_  σ0 hpre
  have hl := lv_entry ([.ref (ad 0), .int b_]) (n := 2) (Nat.le_of_ble_eq_true rfl)
  rw [lg_entry_eq]
  generalize (lg_sl ([.ref (ad 0), .int b_]) ++ List.replicate (2 - (lg_sl ([.ref (ad 0), .int b_])).length) Slot.unset).toArray = ls at hl ⊢
  have hl : lv_has ls 2 [(0, .ref (ad 0)), (1, .int b_)] := hl
  refine W_gen (fun R Z H locs hR hZ hH hlo => ?_)
  have hRf : R.frames = 0 := by rw [hR]; rfl
  have hRl : R.locals = 0 := by rw [hR]; rfl
  have hRc : R.cells = 0 := by rw [hR]; rfl
  have hRs : R.slots = 0 := by rw [hR]; rfl
  have hS : va_S A s.heap H locs := by rw [hH, hlo]; exact va_S.rf
  rw [← hH] at hP
  obtain ⟨Q, hQ⟩ : ∃ q : S_ → Prop, q = (post_X9_traced b_  σ0) := ⟨_, rfl⟩
  rw [← hQ] at hv
  have hinX9 : ∀ w ∈ wsX90, w ∈ wsX9_traced := by decide +kernel
  refine lv_aload_n hx hb dX9_traced_0 rfl (lv_at hl 0 rfl) ?_
  refine lv_bipush (v := 31) hx hb dX9_traced_1 (by decide) ?_
  refine lv_aload_n hx hb dX9_traced_3 rfl (lv_at hl 0 rfl) ?_
  refine va_get (ci := 9) (v := .int (rdI σ0 10)) (C := RX9) (T := TX9) (N := 38) hx hb hts hinX9 hown hK hP 0 (wR_0 cy ad σ0) rfl 37 (by decide) (hts (.fieldLink RX9 257 "TaleBansModel" "traceNow" "I") (List.mem_of_getElem? (i := 1) rfl)) (fun x h => h) rfl dX9_traced_4 ?_
  refine lv_imul hx hb dX9_traced_7 ?_
  refine lv_iload_n hx hb dX9_traced_8 rfl (lv_at hl 1 rfl) ?_
  refine lv_iadd hx hb dX9_traced_9 ?_
  refine va_put (ci := 9) (v := .int ((31 * (rdI σ0 10)) + b_)) (ty := .int) (C := RX9) (T := TX9) (N := 38) hx hb hts hinX9 tyX9 tyX9_ok nmX9 hown hK hP hD hS 0 (wR_0 cy ad σ0) rfl 37 (by decide) (hts (.fieldLink RX9 257 "TaleBansModel" "traceNow" "I") (List.mem_of_getElem? (i := 1) rfl)) (fun x h => h) rfl (by decide +kernel) rfl rfl (Nat.le_of_ble_eq_true rfl) dX9_traced_10 (fun H locs hP hD hS => ?_)
  obtain ⟨σ1, e2⟩ : ∃ y : S_, y = wrI σ0 10 ((31 * (rdI σ0 10)) + b_) := ⟨_, rfl⟩
  have hP : va_P D vwCl (wR cy ad σ1) H := by rw [e2]; exact hP
  have hD : va_D A (wR cy ad σ1) := by rw [e2]; exact hD
  have hv := hv σ1 e2
  rw [hZ]; rw [hQ] at hv
  exact W.vret hx hb hr (fun t ht hW => ⟨⟨σ1, rfl, hv, ⟨P_of ht hP, hD⟩⟩, hS.F ht⟩) hS.2.2 dX9_traced_13
