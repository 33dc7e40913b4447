set_option maxHeartbeats 4000000 in
set_option maxRecDepth 100000 in
theorem wk_X9_steppe (l : Launch) (h_X9_cellsBarred : Ct_X9_cellsBarred l) (h_X9_in : Ct_X9_in l) (h_X9_noSheet : Ct_X9_noSheet l) (h_X9_readsSteppe : Ct_X9_readsSteppe l) (h_X9_refused : Ct_X9_refused l) (sp : ∀ (sh_ : Int32) (lane_ : Int32) (i_ : Int32) (n_ : Int32) (ag : AS) (σ0 : S_), pre_X9_steppe sh_ lane_ i_ n_ ag σ0 → vc_X9_steppe sh_ lane_ i_ n_ σ0 (post_X9_steppe sh_ lane_ i_ n_ ag σ0)) : Ct_X9_steppe l := by
  intro D cy ad A sh_ lane_ i_ n_ ag σ0  hpre
  refine Met.ofW (cc := cX9_steppe) (maxL := 7) (ret := (some .int)) (by decide) rfl ?_
  intro p e s m args below meth c s₁ B hml hv0
  obtain ⟨rfl, hP, hK, hD, hN⟩ := hv0
  have hx := B.exec
  have hb := B.bytes
  have hr := B.returns
  have hts := atoms_spec (ws := wsX9_steppe) B.pre
  have hown : s.vm.findClass RX9 = some m.cls := findClass_of_methodNamed B.named
  have hlocks := B.notSynchronized
  have hv := sp sh_ lane_ i_ n_ ag σ0 hpre
  have hl := lv_entry ([.ref (ad 0), .int sh_, .int lane_, .int i_, .int n_]) (n := 7) (Nat.le_of_ble_eq_true rfl)
  rw [lg_entry_eq]
  generalize (lg_sl ([.ref (ad 0), .int sh_, .int lane_, .int i_, .int n_]) ++ List.replicate (7 - (lg_sl ([.ref (ad 0), .int sh_, .int lane_, .int i_, .int n_])).length) Slot.unset).toArray = ls at hl ⊢
  have hl : lv_has ls 7 [(0, .ref (ad 0)), (1, .int sh_), (2, .int lane_), (3, .int i_), (4, .int n_)] := hl
  refine W_gen (fun R Z H locs hR hZ hH hlo => ?_)
  have hRf : R.frames = 4 := by rw [hR]; rfl
  have hRl : R.locals = 99 := by rw [hR]; rfl
  have hRc : R.cells = 0 := by rw [hR]; rfl
  have hRs : R.slots = 0 := by rw [hR]; rfl
  have hS : va_S A s.heap H locs := by rw [hH, hlo]; exact va_S.rf
  rw [← hH] at hP
  obtain ⟨Q, hQ⟩ : ∃ q : Int32 → S_ → Prop, q = (post_X9_steppe sh_ lane_ i_ n_ ag σ0) := ⟨_, rfl⟩
  rw [← hQ] at hv
  have hinX9 : ∀ w ∈ wsX90, w ∈ wsX9_steppe := by decide +kernel
  refine lv_iload_n hx hb dX9_steppe_0 rfl (lv_at hl 1 rfl) ?_
  refine k_pure_i (va_runS (As := [.int sh_]) (rest := []) ⟨hx, hb, hml, hown, hts⟩ (h_X9_noSheet sh_) (va_cwS 1 hts gX9_steppe_X9_noSheet rfl rfl rfl (by decide +kernel) ⟨le_R hRf (Nat.le_of_ble_eq_true rfl), le_R hRl (Nat.le_of_ble_eq_true rfl)⟩) ⟨(fun a U g mk q => ⟨q.1, trivial⟩), (fun U hU hW => ⟨rfl, trivial⟩)⟩ rfl rfl hl.1 rfl (lv_room (Nat.le_of_ble_eq_true rfl)) dX9_steppe_1 ⟨le_R hRc (Nat.le_refl 0), le_R hRs (Nat.le_refl 0)⟩) hS hP (fun r H locs hr1 hP hS => ?_)
  subst hr1
  refine lv_if_eq (tgt := 13) hx hb dX9_steppe_4 (by decide) (fun c39 => ?_) (fun c39 => ?_)
  · have hv := hv.1 c39
    refine lv_iload_n hx hb dX9_steppe_13 rfl (lv_at hl 2 rfl) ?_
    refine lv_i2l hx hb dX9_steppe_14 rfl ?_
    refine lv_lconst (v := 0) hx hb dX9_steppe_15 rfl ?_
    refine lv_ldc2 (v := (2)) hx hb hown (hts (.constantLong RX9 114 (2)) (List.mem_of_getElem? (i := 1) rfl)) dX9_steppe_16 ?_
    refine k_pure_i (va_runS (As := [.long (Int32.toInt64 lane_), .long 0, .long (2)]) (rest := []) ⟨hx, hb, hml, hown, hts⟩ (h_X9_in (Int32.toInt64 lane_) 0 (2)) (va_cwS 3 hts gX9_steppe_X9_in rfl rfl rfl (by decide +kernel) ⟨le_R hRf (Nat.le_of_ble_eq_true rfl), le_R hRl (Nat.le_of_ble_eq_true rfl)⟩) ⟨(fun a U g mk q => ⟨q.1, trivial⟩), (fun U hU hW => ⟨rfl, trivial⟩)⟩ rfl rfl hl.1 rfl (lv_room (Nat.le_of_ble_eq_true rfl)) dX9_steppe_19 ⟨le_R hRc (Nat.le_refl 0), le_R hRs (Nat.le_refl 0)⟩) hS hP (fun r H locs hr1 hP hS => ?_)
    subst hr1
    refine lv_if_ne (tgt := 32) hx hb dX9_steppe_22 (by decide) (fun c36 => ?_) (fun c36 => ?_)
    · have hv := hv.1 c36
      refine lv_aload_n hx hb dX9_steppe_32 rfl (lv_at hl 0 rfl) ?_
      refine lv_iload_n hx hb dX9_steppe_33 rfl (lv_at hl 1 rfl) ?_
      refine lv_iload_n hx hb dX9_steppe_34 rfl (lv_at hl 2 rfl) ?_
      refine lv_iload_n hx hb dX9_steppe_35 rfl (lv_at hl 3 rfl) ?_
      refine lv_iload hx hb dX9_steppe_36 (lv_at hl 4 rfl) ?_
      refine lv_i2l hx hb dX9_steppe_38 rfl ?_
      obtain ⟨hp, hv⟩ := hv
      refine k_rel_i (w := wR cy ad) (va_runV (As := [.int sh_, .int lane_, .int i_, .long (Int32.toInt64 n_)]) (rest := []) ⟨hx, hb, hml, hown, hts⟩ (h_X9_cellsBarred D cy ad A sh_ lane_ i_ (Int32.toInt64 n_) σ0 hp) (cwV 4 hts gX9_steppe_X9_cellsBarred rfl rfl rfl (by decide +kernel) ⟨le_R hRf (Nat.le_of_ble_eq_true rfl), le_R hRl (Nat.le_of_ble_eq_true rfl)⟩) ⟨(fun a U g mk q => ⟨q.1, q.2.blind⟩), va_recv hK hP (ci := 9) (q0 := 0) rfl (wR_0 cy ad σ0), (fun U hU hW => ⟨rfl, WdR.pre hP hK hD hN hU hW⟩)⟩ rfl rfl hl.1 rfl (lv_room (Nat.le_of_ble_eq_true rfl)) dX9_steppe_39 ⟨le_R hRc (Nat.le_refl 0), le_R hRs (Nat.le_refl 0)⟩) hS (fun r2 σ1 H locs hr1 hP hD hS => ?_)
      have hv := hv r2 σ1 hr1
      refine lv_istore (lv' := [(5, .int r2), (0, .ref (ad 0)), (1, .int sh_), (2, .int lane_), (3, .int i_), (4, .int n_)]) hx hb dX9_steppe_42 hl (by decide) rfl (fun ls hl => ?_)
      refine lv_iload hx hb dX9_steppe_44 (lv_at hl 0 rfl) ?_
      refine lv_if_ge (tgt := 52) hx hb dX9_steppe_46 (by decide) (fun c33 => ?_) (fun c33 => ?_)
      · have hv := hv.1 c33
        refine lv_aload_n hx hb dX9_steppe_52 rfl (lv_at hl 1 rfl) ?_
        refine lv_bipush (v := 60) hx hb dX9_steppe_53 (by decide) ?_
        refine lv_iload_n hx hb dX9_steppe_55 rfl (lv_at hl 2 rfl) ?_
        refine lv_imul hx hb dX9_steppe_56 ?_
        refine lv_iload_n hx hb dX9_steppe_57 rfl (lv_at hl 4 rfl) ?_
        refine lv_iadd hx hb dX9_steppe_58 ?_
        refine lv_iload hx hb dX9_steppe_59 (lv_at hl 5 rfl) ?_
        obtain ⟨hp, hv⟩ := hv
        refine k_rel_i (w := wR cy ad) (va_runV (As := [.int ((60 * sh_) + i_), .int n_]) (rest := []) ⟨hx, hb, hml, hown, hts⟩ (h_X9_readsSteppe D cy ad A ((60 * sh_) + i_) n_ σ1 hp) (cwV 2 hts gX9_steppe_X9_readsSteppe rfl rfl rfl (by decide +kernel) ⟨le_R hRf (Nat.le_of_ble_eq_true rfl), le_R hRl (Nat.le_of_ble_eq_true rfl)⟩) ⟨(fun a U g mk q => ⟨q.1, q.2.blind⟩), va_recv hK hP (ci := 9) (q0 := 0) rfl (wR_0 cy ad σ1), (fun U hU hW => ⟨rfl, WdR.pre hP hK hD hN hU hW⟩)⟩ rfl rfl hl.1 rfl (lv_room (Nat.le_of_ble_eq_true rfl)) dX9_steppe_61 ⟨le_R hRc (Nat.le_refl 0), le_R hRs (Nat.le_refl 0)⟩) hS (fun r4 σ3 H locs hr1 hP hD hS => ?_)
        have hv := hv r4 σ3 hr1
        refine lv_if_ne (tgt := 79) hx hb dX9_steppe_64 (by decide) (fun c32 => ?_) (fun c32 => ?_)
        · have hv := hv.1 c32
          refine lv_aload_n hx hb dX9_steppe_79 rfl (lv_at hl 1 rfl) ?_
          refine lv_aload_n hx hb dX9_steppe_80 rfl (lv_at hl 1 rfl) ?_
          refine va_get (ci := 9) (v := .int (rdI σ3 5)) (C := RX9) (T := TX9) (N := 38) hx hb hts hinX9 hown hK hP 0 (wR_0 cy ad σ3) rfl 8 (by decide) (hts (.fieldLink RX9 125 "TaleBansModel" "readPersons" "I") (List.mem_of_getElem? (i := 3) rfl)) (fun x h => h) rfl dX9_steppe_81 ?_
          refine va_put (ci := 9) (v := .int (rdI σ3 5)) (ty := .int) (C := RX9) (T := TX9) (N := 38) hx hb hts hinX9 tyX9 tyX9_ok nmX9 hown hK hP hD hS 0 (wR_0 cy ad σ3) rfl 1 (by decide) (hts (.fieldLink RX9 102 "TaleBansModel" "persons" "I") (List.mem_of_getElem? (i := 4) rfl)) (fun x h => h) rfl (by decide +kernel) rfl rfl (Nat.le_of_ble_eq_true rfl) dX9_steppe_84 (fun H locs hP hD hS => ?_)
          obtain ⟨σ5, e6⟩ : ∃ y : S_, y = wrI σ3 1 (rdI σ3 5) := ⟨_, rfl⟩
          have hP : va_P D vwCl (wR cy ad σ5) H := by rw [e6]; exact hP
          have hD : va_D A (wR cy ad σ5) := by rw [e6]; exact hD
          have hv := hv σ5 e6
          refine lv_iconst (v := 0) hx hb dX9_steppe_87 (by decide) ?_
          refine lv_istore (lv' := [(6, .int 0), (5, .int r2), (0, .ref (ad 0)), (1, .int sh_), (2, .int lane_), (3, .int i_), (4, .int n_)]) hx hb dX9_steppe_88 hl (by decide) rfl (fun ls hl => ?_)
          obtain ⟨n90, hv⟩ := hv
          have lp90 : ∀ (nn90 : Nat) (x7 : Int32) (σ8 : S_) (H : Heap) (locs : List Loc) (ls : Array Slot), vl_X9_steppe_90 Q nn90 x7 σ8 → va_P D vwCl (wR cy ad σ8) H → va_D A (wR cy ad σ8) → va_S A s.heap H locs → lv_has ls 7 [(0, .ref (ad 0)), (6, .int x7)] → W p l e R s m ([.ref (ad 0), .int sh_, .int lane_, .int i_, .int n_] : List Value).toArray  below meth c H locs 0 0 Z (F0 m 90 ls []) := by
            intro nn90
            induction nn90 with
            | zero => intro x7 σ8 H locs ls hv; exact absurd hv id
            | succ mm90 ih90 =>
              intro x7 σ8 H locs ls hv hP hD hS hl
              refine lv_iload hx hb dX9_steppe_90 (lv_at hl 1 rfl) ?_
              refine lv_aload_n hx hb dX9_steppe_92 rfl (lv_at hl 0 rfl) ?_
              refine va_get (ci := 9) (v := .int (rdI σ8 1)) (C := RX9) (T := TX9) (N := 38) hx hb hts hinX9 hown hK hP 0 (wR_0 cy ad σ8) rfl 1 (by decide) (hts (.fieldLink RX9 102 "TaleBansModel" "persons" "I") (List.mem_of_getElem? (i := 4) rfl)) (fun x h => h) rfl dX9_steppe_93 ?_
              refine lv_icmp_ge (tgt := 147) hx hb dX9_steppe_96 (by decide) (fun c29 => ?_) (fun c29 => ?_)
              · have hv := hv.1 c29
                refine lv_aload_n hx hb dX9_steppe_147 rfl (lv_at hl 0 rfl) ?_
                refine lv_iconst (v := 0) hx hb dX9_steppe_148 (by decide) ?_
                refine va_put (ci := 9) (v := .int 0) (ty := .int) (C := RX9) (T := TX9) (N := 38) hx hb hts hinX9 tyX9 tyX9_ok nmX9 hown hK hP hD hS 0 (wR_0 cy ad σ8) rfl 5 (by decide) (hts (.fieldLink RX9 158 "TaleBansModel" "paidNow" "I") (List.mem_of_getElem? (i := 11) rfl)) (fun x h => h) rfl (by decide +kernel) rfl rfl (Nat.le_of_ble_eq_true rfl) dX9_steppe_149 (fun H locs hP hD hS => ?_)
                obtain ⟨σ9, e10⟩ : ∃ y : S_, y = wrI σ8 2 0 := ⟨_, rfl⟩
                have hP : va_P D vwCl (wR cy ad σ9) H := by rw [e10]; exact hP
                have hD : va_D A (wR cy ad σ9) := by rw [e10]; exact hD
                have hv := hv σ9 e10
                refine lv_aload_n hx hb dX9_steppe_152 rfl (lv_at hl 0 rfl) ?_
                refine lv_iconst (v := 0) hx hb dX9_steppe_153 (by decide) ?_
                refine va_put (ci := 9) (v := .int 0) (ty := .int) (C := RX9) (T := TX9) (N := 38) hx hb hts hinX9 tyX9 tyX9_ok nmX9 hown hK hP hD hS 0 (wR_0 cy ad σ9) rfl 6 (by decide) (hts (.fieldLink RX9 161 "TaleBansModel" "lawNow" "I") (List.mem_of_getElem? (i := 12) rfl)) (fun x h => h) rfl (by decide +kernel) rfl rfl (Nat.le_of_ble_eq_true rfl) dX9_steppe_154 (fun H locs hP hD hS => ?_)
                obtain ⟨σ11, e12⟩ : ∃ y : S_, y = wrI σ9 3 0 := ⟨_, rfl⟩
                have hP : va_P D vwCl (wR cy ad σ11) H := by rw [e12]; exact hP
                have hD : va_D A (wR cy ad σ11) := by rw [e12]; exact hD
                have hv := hv σ11 e12
                refine lv_aload_n hx hb dX9_steppe_157 rfl (lv_at hl 0 rfl) ?_
                refine lv_iconst (v := 0) hx hb dX9_steppe_158 (by decide) ?_
                refine va_put (ci := 9) (v := .int 0) (ty := .int) (C := RX9) (T := TX9) (N := 38) hx hb hts hinX9 tyX9 tyX9_ok nmX9 hown hK hP hD hS 0 (wR_0 cy ad σ11) rfl 12 (by decide) (hts (.fieldLink RX9 109 "TaleBansModel" "tales" "I") (List.mem_of_getElem? (i := 13) rfl)) (fun x h => h) rfl (by decide +kernel) rfl rfl (Nat.le_of_ble_eq_true rfl) dX9_steppe_159 (fun H locs hP hD hS => ?_)
                obtain ⟨σ13, e14⟩ : ∃ y : S_, y = wrI σ11 6 0 := ⟨_, rfl⟩
                have hP : va_P D vwCl (wR cy ad σ13) H := by rw [e14]; exact hP
                have hD : va_D A (wR cy ad σ13) := by rw [e14]; exact hD
                have hv := hv σ13 e14
                refine lv_aload_n hx hb dX9_steppe_162 rfl (lv_at hl 0 rfl) ?_
                refine lv_iconst (v := 0) hx hb dX9_steppe_163 (by decide) ?_
                refine va_put (ci := 9) (v := .int 0) (ty := .int) (C := RX9) (T := TX9) (N := 38) hx hb hts hinX9 tyX9 tyX9_ok nmX9 hown hK hP hD hS 0 (wR_0 cy ad σ13) rfl 17 (by decide) (hts (.fieldLink RX9 164 "TaleBansModel" "moves" "I") (List.mem_of_getElem? (i := 14) rfl)) (fun x h => h) rfl (by decide +kernel) rfl rfl (Nat.le_of_ble_eq_true rfl) dX9_steppe_164 (fun H locs hP hD hS => ?_)
                obtain ⟨σ15, e16⟩ : ∃ y : S_, y = wrI σ13 7 0 := ⟨_, rfl⟩
                have hP : va_P D vwCl (wR cy ad σ15) H := by rw [e16]; exact hP
                have hD : va_D A (wR cy ad σ15) := by rw [e16]; exact hD
                have hv := hv σ15 e16
                refine lv_aload_n hx hb dX9_steppe_167 rfl (lv_at hl 0 rfl) ?_
                refine lv_iconst (v := 0) hx hb dX9_steppe_168 (by decide) ?_
                refine va_put (ci := 9) (v := .int 0) (ty := .int) (C := RX9) (T := TX9) (N := 38) hx hb hts hinX9 tyX9 tyX9_ok nmX9 hown hK hP hD hS 0 (wR_0 cy ad σ15) rfl 25 (by decide) (hts (.fieldLink RX9 167 "TaleBansModel" "needs" "I") (List.mem_of_getElem? (i := 15) rfl)) (fun x h => h) rfl (by decide +kernel) rfl rfl (Nat.le_of_ble_eq_true rfl) dX9_steppe_169 (fun H locs hP hD hS => ?_)
                obtain ⟨σ17, e18⟩ : ∃ y : S_, y = wrI σ15 8 0 := ⟨_, rfl⟩
                have hP : va_P D vwCl (wR cy ad σ17) H := by rw [e18]; exact hP
                have hD : va_D A (wR cy ad σ17) := by rw [e18]; exact hD
                have hv := hv σ17 e18
                refine lv_aload_n hx hb dX9_steppe_172 rfl (lv_at hl 0 rfl) ?_
                refine lv_iconst (v := 0) hx hb dX9_steppe_173 (by decide) ?_
                refine va_put (ci := 9) (v := .int 0) (ty := .int) (C := RX9) (T := TX9) (N := 38) hx hb hts hinX9 tyX9 tyX9_ok nmX9 hown hK hP hD hS 0 (wR_0 cy ad σ17) rfl 28 (by decide) (hts (.fieldLink RX9 170 "TaleBansModel" "readings" "I") (List.mem_of_getElem? (i := 16) rfl)) (fun x h => h) rfl (by decide +kernel) rfl rfl (Nat.le_of_ble_eq_true rfl) dX9_steppe_174 (fun H locs hP hD hS => ?_)
                obtain ⟨σ19, e20⟩ : ∃ y : S_, y = wrI σ17 9 0 := ⟨_, rfl⟩
                have hP : va_P D vwCl (wR cy ad σ19) H := by rw [e20]; exact hP
                have hD : va_D A (wR cy ad σ19) := by rw [e20]; exact hD
                have hv := hv σ19 e20
                refine lv_aload_n hx hb dX9_steppe_177 rfl (lv_at hl 0 rfl) ?_
                refine lv_aload_n hx hb dX9_steppe_178 rfl (lv_at hl 0 rfl) ?_
                refine va_get (ci := 9) (v := .int (rdI σ19 1)) (C := RX9) (T := TX9) (N := 38) hx hb hts hinX9 hown hK hP 0 (wR_0 cy ad σ19) rfl 1 (by decide) (hts (.fieldLink RX9 102 "TaleBansModel" "persons" "I") (List.mem_of_getElem? (i := 4) rfl)) (fun x h => h) rfl dX9_steppe_179 ?_
                have hp := True.intro
                refine k_rel_i (w := wR cy ad) (va_runV (As := [.int (rdI σ19 1)]) (rest := []) ⟨hx, hb, hml, hown, hts⟩ (h_X9_refused D cy ad A (rdI σ19 1) σ19 hp) (cwV 1 hts gX9_steppe_X9_refused rfl rfl rfl (by decide +kernel) ⟨le_R hRf (Nat.le_of_ble_eq_true rfl), le_R hRl (Nat.le_of_ble_eq_true rfl)⟩) ⟨(fun a U g mk q => ⟨q.1, q.2.blind⟩), va_recv hK hP (ci := 9) (q0 := 0) rfl (wR_0 cy ad σ19), (fun U hU hW => ⟨rfl, WdR.pre hP hK hD hN hU hW⟩)⟩ rfl rfl hl.1 rfl (lv_room (Nat.le_of_ble_eq_true rfl)) dX9_steppe_182 ⟨le_R hRc (Nat.le_refl 0), le_R hRs (Nat.le_refl 0)⟩) hS (fun r22 σ21 H locs hr1 hP hD hS => ?_)
                have hv := hv r22 σ21 hr1
                rw [hZ]; rw [hQ] at hv
                exact W.iret (v := r22) hx hb hr (fun t ht hW => ⟨⟨r22, σ21, rfl, hv, ⟨P_of ht hP, hD⟩⟩, hS.F ht⟩) hS.2.2 dX9_steppe_185
              · have hv := hv.2 c29
                refine lv_aload_n hx hb dX9_steppe_99 rfl (lv_at hl 0 rfl) ?_
                refine va_get (ci := 9) (v := .ref (ad (1))) (C := RX9) (T := TX9) (N := 38) hx hb hts hinX9 hown hK hP 0 (wR_0 cy ad σ8) rfl 2 (by decide) (hts (.fieldLink RX9 7 "TaleBansModel" "kindOf" "[I") (List.mem_of_getElem? (i := 5) rfl)) (fun x h => h) rfl dX9_steppe_100 ?_
                refine lv_iload hx hb dX9_steppe_103 (lv_at hl 1 rfl) ?_
                refine lv_aload_n hx hb dX9_steppe_105 rfl (lv_at hl 0 rfl) ?_
                refine va_get (ci := 9) (v := .ref (ad (4))) (C := RX9) (T := TX9) (N := 38) hx hb hts hinX9 hown hK hP 0 (wR_0 cy ad σ8) rfl 9 (by decide) (hts (.fieldLink RX9 19 "TaleBansModel" "readKind" "[I") (List.mem_of_getElem? (i := 6) rfl)) (fun x h => h) rfl dX9_steppe_106 ?_
                refine lv_iload hx hb dX9_steppe_109 (lv_at hl 1 rfl) ?_
                obtain ⟨hi, hv⟩ := hv
                refine va_iald hx hb hK hP 4 0 (wR_4 cy ad σ8) rfl hi dX9_steppe_111 ?_
                obtain ⟨hi, hv⟩ := hv
                refine va_iast hx hb hK hP hD hS 1 0 (wR_1 cy ad σ8) rfl hi dX9_steppe_112 (fun H locs hP hD hS => ?_)
                obtain ⟨σ23, e24⟩ : ∃ y : S_, y = wr2 σ8 1 (Int32.toNatClampNeg x7) (rdA σ8 4 (Int32.toNatClampNeg x7)) := ⟨_, rfl⟩
                have hP : va_P D vwCl (wR cy ad σ23) H := by rw [e24]; exact hP
                have hD : va_D A (wR cy ad σ23) := by rw [e24]; exact hD
                have hv := hv σ23 e24
                refine lv_aload_n hx hb dX9_steppe_113 rfl (lv_at hl 0 rfl) ?_
                refine va_get (ci := 9) (v := .ref (ad (2))) (C := RX9) (T := TX9) (N := 38) hx hb hts hinX9 hown hK hP 0 (wR_0 cy ad σ23) rfl 3 (by decide) (hts (.fieldLink RX9 13 "TaleBansModel" "mindsOf" "[I") (List.mem_of_getElem? (i := 7) rfl)) (fun x h => h) rfl dX9_steppe_114 ?_
                refine lv_iload hx hb dX9_steppe_117 (lv_at hl 1 rfl) ?_
                refine lv_aload_n hx hb dX9_steppe_119 rfl (lv_at hl 0 rfl) ?_
                refine va_get (ci := 9) (v := .ref (ad (5))) (C := RX9) (T := TX9) (N := 38) hx hb hts hinX9 hown hK hP 0 (wR_0 cy ad σ23) rfl 10 (by decide) (hts (.fieldLink RX9 22 "TaleBansModel" "readMinds" "[I") (List.mem_of_getElem? (i := 8) rfl)) (fun x h => h) rfl dX9_steppe_120 ?_
                refine lv_iload hx hb dX9_steppe_123 (lv_at hl 1 rfl) ?_
                obtain ⟨hi, hv⟩ := hv
                refine va_iald hx hb hK hP 5 0 (wR_5 cy ad σ23) rfl hi dX9_steppe_125 ?_
                obtain ⟨hi, hv⟩ := hv
                refine va_iast hx hb hK hP hD hS 2 0 (wR_2 cy ad σ23) rfl hi dX9_steppe_126 (fun H locs hP hD hS => ?_)
                obtain ⟨σ25, e26⟩ : ∃ y : S_, y = wr2 σ23 2 (Int32.toNatClampNeg x7) (rdA σ23 5 (Int32.toNatClampNeg x7)) := ⟨_, rfl⟩
                have hP : va_P D vwCl (wR cy ad σ25) H := by rw [e26]; exact hP
                have hD : va_D A (wR cy ad σ25) := by rw [e26]; exact hD
                have hv := hv σ25 e26
                refine lv_aload_n hx hb dX9_steppe_127 rfl (lv_at hl 0 rfl) ?_
                refine va_get (ci := 9) (v := .ref (ad (3))) (C := RX9) (T := TX9) (N := 38) hx hb hts hinX9 hown hK hP 0 (wR_0 cy ad σ25) rfl 4 (by decide) (hts (.fieldLink RX9 16 "TaleBansModel" "hearthOf" "[I") (List.mem_of_getElem? (i := 9) rfl)) (fun x h => h) rfl dX9_steppe_128 ?_
                refine lv_iload hx hb dX9_steppe_131 (lv_at hl 1 rfl) ?_
                refine lv_aload_n hx hb dX9_steppe_133 rfl (lv_at hl 0 rfl) ?_
                refine va_get (ci := 9) (v := .ref (ad (6))) (C := RX9) (T := TX9) (N := 38) hx hb hts hinX9 hown hK hP 0 (wR_0 cy ad σ25) rfl 11 (by decide) (hts (.fieldLink RX9 25 "TaleBansModel" "readHearth" "[I") (List.mem_of_getElem? (i := 10) rfl)) (fun x h => h) rfl dX9_steppe_134 ?_
                refine lv_iload hx hb dX9_steppe_137 (lv_at hl 1 rfl) ?_
                obtain ⟨hi, hv⟩ := hv
                refine va_iald hx hb hK hP 6 0 (wR_6 cy ad σ25) rfl hi dX9_steppe_139 ?_
                obtain ⟨hi, hv⟩ := hv
                refine va_iast hx hb hK hP hD hS 3 0 (wR_3 cy ad σ25) rfl hi dX9_steppe_140 (fun H locs hP hD hS => ?_)
                obtain ⟨σ27, e28⟩ : ∃ y : S_, y = wr2 σ25 3 (Int32.toNatClampNeg x7) (rdA σ25 6 (Int32.toNatClampNeg x7)) := ⟨_, rfl⟩
                have hP : va_P D vwCl (wR cy ad σ27) H := by rw [e28]; exact hP
                have hD : va_D A (wR cy ad σ27) := by rw [e28]; exact hD
                have hv := hv σ27 e28
                refine lv_iinc (v := (x7 + 1)) (lv' := [(6, .int (x7 + 1)), (0, .ref (ad 0))]) hx hb dX9_steppe_141 hl (k := 1) rfl rfl (by decide) rfl (fun ls hl => ?_)
                refine lv_goto (tgt := 90) hx hb dX9_steppe_144 (by decide) ?_
                exact ih90 (x7 + 1) σ27 _ _ _ hv hP hD hS (lv_sub hl [1, 0] rfl)
          exact lp90 n90 0 σ5 _ _ _ hv hP hD hS (lv_sub hl [2, 0] rfl)
        · have hv := hv.2 c32
          refine lv_aload_n hx hb dX9_steppe_67 rfl (lv_at hl 1 rfl) ?_
          refine lv_bipush (v := (-100)) hx hb dX9_steppe_68 (by decide) ?_
          refine lv_aload_n hx hb dX9_steppe_70 rfl (lv_at hl 1 rfl) ?_
          refine va_get (ci := 9) (v := .int (rdI σ3 4)) (C := RX9) (T := TX9) (N := 38) hx hb hts hinX9 hown hK hP 0 (wR_0 cy ad σ3) rfl 7 (by decide) (hts (.fieldLink RX9 118 "TaleBansModel" "readAt" "I") (List.mem_of_getElem? (i := 2) rfl)) (fun x h => h) rfl dX9_steppe_71 ?_
          refine lv_isub hx hb dX9_steppe_74 ?_
          have hp := True.intro
          refine k_rel_i (w := wR cy ad) (va_runV (As := [.int ((-100) - (rdI σ3 4))]) (rest := []) ⟨hx, hb, hml, hown, hts⟩ (h_X9_refused D cy ad A ((-100) - (rdI σ3 4)) σ3 hp) (cwV 1 hts gX9_steppe_X9_refused rfl rfl rfl (by decide +kernel) ⟨le_R hRf (Nat.le_of_ble_eq_true rfl), le_R hRl (Nat.le_of_ble_eq_true rfl)⟩) ⟨(fun a U g mk q => ⟨q.1, q.2.blind⟩), va_recv hK hP (ci := 9) (q0 := 0) rfl (wR_0 cy ad σ3), (fun U hU hW => ⟨rfl, WdR.pre hP hK hD hN hU hW⟩)⟩ rfl rfl hl.1 rfl (lv_room (Nat.le_of_ble_eq_true rfl)) dX9_steppe_75 ⟨le_R hRc (Nat.le_refl 0), le_R hRs (Nat.le_refl 0)⟩) hS (fun r31 σ30 H locs hr1 hP hD hS => ?_)
          have hv := hv r31 σ30 hr1
          rw [hZ]; rw [hQ] at hv
          exact W.iret (v := r31) hx hb hr (fun t ht hW => ⟨⟨r31, σ30, rfl, hv, ⟨P_of ht hP, hD⟩⟩, hS.F ht⟩) hS.2.2 dX9_steppe_78
      · have hv := hv.2 c33
        refine lv_iload hx hb dX9_steppe_49 (lv_at hl 0 rfl) ?_
        rw [hZ]; rw [hQ] at hv
        exact W.iret (v := r2) hx hb hr (fun t ht hW => ⟨⟨r2, σ1, rfl, hv, ⟨P_of ht hP, hD⟩⟩, hS.F ht⟩) hS.2.2 dX9_steppe_51
    · have hv := hv.2 c36
      refine lv_aload_n hx hb dX9_steppe_25 rfl (lv_at hl 0 rfl) ?_
      refine lv_bipush (v := (-2)) hx hb dX9_steppe_26 (by decide) ?_
      have hp := True.intro
      refine k_rel_i (w := wR cy ad) (va_runV (As := [.int (-2)]) (rest := []) ⟨hx, hb, hml, hown, hts⟩ (h_X9_refused D cy ad A (-2) σ0 hp) (cwV 1 hts gX9_steppe_X9_refused rfl rfl rfl (by decide +kernel) ⟨le_R hRf (Nat.le_of_ble_eq_true rfl), le_R hRl (Nat.le_of_ble_eq_true rfl)⟩) ⟨(fun a U g mk q => ⟨q.1, q.2.blind⟩), va_recv hK hP (ci := 9) (q0 := 0) rfl (wR_0 cy ad σ0), (fun U hU hW => ⟨rfl, WdR.pre hP hK hD hN hU hW⟩)⟩ rfl rfl hl.1 rfl (lv_room (Nat.le_of_ble_eq_true rfl)) dX9_steppe_28 ⟨le_R hRc (Nat.le_refl 0), le_R hRs (Nat.le_refl 0)⟩) hS (fun r35 σ34 H locs hr1 hP hD hS => ?_)
      have hv := hv r35 σ34 hr1
      rw [hZ]; rw [hQ] at hv
      exact W.iret (v := r35) hx hb hr (fun t ht hW => ⟨⟨r35, σ34, rfl, hv, ⟨P_of ht hP, hD⟩⟩, hS.F ht⟩) hS.2.2 dX9_steppe_31
  · have hv := hv.2 c39
    refine lv_aload_n hx hb dX9_steppe_7 rfl (lv_at hl 0 rfl) ?_
    refine lv_iconst (v := (-1)) hx hb dX9_steppe_8 (by decide) ?_
    have hp := True.intro
    refine k_rel_i (w := wR cy ad) (va_runV (As := [.int (-1)]) (rest := []) ⟨hx, hb, hml, hown, hts⟩ (h_X9_refused D cy ad A (-1) σ0 hp) (cwV 1 hts gX9_steppe_X9_refused rfl rfl rfl (by decide +kernel) ⟨le_R hRf (Nat.le_of_ble_eq_true rfl), le_R hRl (Nat.le_of_ble_eq_true rfl)⟩) ⟨(fun a U g mk q => ⟨q.1, q.2.blind⟩), va_recv hK hP (ci := 9) (q0 := 0) rfl (wR_0 cy ad σ0), (fun U hU hW => ⟨rfl, WdR.pre hP hK hD hN hU hW⟩)⟩ rfl rfl hl.1 rfl (lv_room (Nat.le_of_ble_eq_true rfl)) dX9_steppe_9 ⟨le_R hRc (Nat.le_refl 0), le_R hRs (Nat.le_refl 0)⟩) hS (fun r38 σ37 H locs hr1 hP hD hS => ?_)
    have hv := hv r38 σ37 hr1
    rw [hZ]; rw [hQ] at hv
    exact W.iret (v := r38) hx hb hr (fun t ht hW => ⟨⟨r38, σ37, rfl, hv, ⟨P_of ht hP, hD⟩⟩, hS.F ht⟩) hS.2.2 dX9_steppe_12
set_option maxHeartbeats 4000000 in
set_option maxRecDepth 100000 in
theorem wk_X9_ofPerson (l : Launch) (h_X9_isIn : Ct_X9_isIn l) (h_X9_memoryOf : Ct_X9_memoryOf l) (h_X9_noPerson : Ct_X9_noPerson l) (sp : ∀ (p_ : Int32) (what_ : Int32) (ag : AS) (σ0 : S_), pre_X9_ofPerson p_ what_ ag σ0 → vc_X9_ofPerson p_ what_ σ0 (post_X9_ofPerson p_ what_ ag σ0)) : Ct_X9_ofPerson l := by
  intro D cy ad A p_ what_ ag σ0  hpre
  refine Met.ofW (cc := cX9_ofPerson) (maxL := 3) (ret := (some .int)) (by decide) rfl ?_
  intro p e s m args below meth c s₁ B hml hv0
  obtain ⟨rfl, hP, hK, hD, hN⟩ := hv0
  have hx := B.exec
  have hb := B.bytes
  have hr := B.returns
  have hts := atoms_spec (ws := wsX9_ofPerson) B.pre
  have hown : s.vm.findClass RX9 = some m.cls := findClass_of_methodNamed B.named
  have hlocks := B.notSynchronized
  have hv := sp p_ what_ ag σ0 hpre
  have hl := lv_entry ([.ref (ad 0), .int p_, .int what_]) (n := 3) (Nat.le_of_ble_eq_true rfl)
  rw [lg_entry_eq]
  generalize (lg_sl ([.ref (ad 0), .int p_, .int what_]) ++ List.replicate (3 - (lg_sl ([.ref (ad 0), .int p_, .int what_])).length) Slot.unset).toArray = ls at hl ⊢
  have hl : lv_has ls 3 [(0, .ref (ad 0)), (1, .int p_), (2, .int what_)] := hl
  refine W_gen (fun R Z H locs hR hZ hH hlo => ?_)
  have hRf : R.frames = 2 := by rw [hR]; rfl
  have hRl : R.locals = 46 := by rw [hR]; rfl
  have hRc : R.cells = 0 := by rw [hR]; rfl
  have hRs : R.slots = 0 := by rw [hR]; rfl
  have hS : va_S A s.heap H locs := by rw [hH, hlo]; exact va_S.rf
  rw [← hH] at hP
  obtain ⟨Q, hQ⟩ : ∃ q : Int32 → S_ → Prop, q = (post_X9_ofPerson p_ what_ ag σ0) := ⟨_, rfl⟩
  rw [← hQ] at hv
  have hinX9 : ∀ w ∈ wsX90, w ∈ wsX9_ofPerson := by decide +kernel
  refine lv_aload_n hx hb dX9_ofPerson_0 rfl (lv_at hl 0 rfl) ?_
  refine lv_iload_n hx hb dX9_ofPerson_1 rfl (lv_at hl 1 rfl) ?_
  have hp := True.intro
  refine k_read_i (w := wR cy ad) (va_runV (As := [.int p_]) (rest := []) ⟨hx, hb, hml, hown, hts⟩ (h_X9_noPerson D cy ad A p_ σ0 hp) (cwV 1 hts gX9_ofPerson_X9_noPerson rfl rfl rfl (by decide +kernel) ⟨le_R hRf (Nat.le_of_ble_eq_true rfl), le_R hRl (Nat.le_of_ble_eq_true rfl)⟩) ⟨(fun a U g mk q => ⟨q.1, q.2.blind⟩), va_recv hK hP (ci := 9) (q0 := 0) rfl (wR_0 cy ad σ0), (fun U hU hW => ⟨rfl, WdR.pre hP hK hD hN hU hW⟩)⟩ rfl rfl hl.1 rfl (lv_room (Nat.le_of_ble_eq_true rfl)) dX9_ofPerson_2 ⟨le_R hRc (Nat.le_refl 0), le_R hRs (Nat.le_refl 0)⟩) hS (fun r H locs hr1 hP hS => ?_)
  subst hr1
  refine lv_if_eq (tgt := 10) hx hb dX9_ofPerson_5 (by decide) (fun c11 => ?_) (fun c11 => ?_)
  · have hv := hv.1 c11
    refine lv_iload_n hx hb dX9_ofPerson_10 rfl (lv_at hl 2 rfl) ?_
    by_cases c2 : what_ = 0
    · have hv := hv.1 c2
      refine lv_tableIn (tgt := 44) hx hb dX9_ofPerson_11 (by rw [c2]; decide) (by rw [c2]; decide) (by first | (rw [c2]; done) | (rw [c2]; rfl)) (by decide) ?_
      refine lv_aload_n hx hb dX9_ofPerson_44 rfl (lv_at hl 0 rfl) ?_
      refine va_get (ci := 9) (v := .ref (ad (1))) (C := RX9) (T := TX9) (N := 38) hx hb hts hinX9 hown hK hP 0 (wR_0 cy ad σ0) rfl 2 (by decide) (hts (.fieldLink RX9 7 "TaleBansModel" "kindOf" "[I") (List.mem_of_getElem? (i := 1) rfl)) (fun x h => h) rfl dX9_ofPerson_45 ?_
      refine lv_iload_n hx hb dX9_ofPerson_48 rfl (lv_at hl 1 rfl) ?_
      obtain ⟨hi, hv⟩ := hv
      refine va_iald hx hb hK hP 1 0 (wR_1 cy ad σ0) rfl hi dX9_ofPerson_49 ?_
      rw [hZ]; rw [hQ] at hv
      exact W.iret (v := (rdA σ0 1 (Int32.toNatClampNeg p_))) hx hb hr (fun t ht hW => ⟨⟨(rdA σ0 1 (Int32.toNatClampNeg p_)), σ0, rfl, hv, ⟨P_of ht hP, hD⟩⟩, hS.F ht⟩) hS.2.2 dX9_ofPerson_50
    · have hv := hv.2 c2
      by_cases c3 : what_ = 1
      · have hv := hv.1 c3
        refine lv_tableIn (tgt := 51) hx hb dX9_ofPerson_11 (by rw [c3]; decide) (by rw [c3]; decide) (by first | (rw [c3]; done) | (rw [c3]; rfl)) (by decide) ?_
        refine lv_aload_n hx hb dX9_ofPerson_51 rfl (lv_at hl 0 rfl) ?_
        refine va_get (ci := 9) (v := .ref (ad (2))) (C := RX9) (T := TX9) (N := 38) hx hb hts hinX9 hown hK hP 0 (wR_0 cy ad σ0) rfl 3 (by decide) (hts (.fieldLink RX9 13 "TaleBansModel" "mindsOf" "[I") (List.mem_of_getElem? (i := 2) rfl)) (fun x h => h) rfl dX9_ofPerson_52 ?_
        refine lv_iload_n hx hb dX9_ofPerson_55 rfl (lv_at hl 1 rfl) ?_
        obtain ⟨hi, hv⟩ := hv
        refine va_iald hx hb hK hP 2 0 (wR_2 cy ad σ0) rfl hi dX9_ofPerson_56 ?_
        rw [hZ]; rw [hQ] at hv
        exact W.iret (v := (rdA σ0 2 (Int32.toNatClampNeg p_))) hx hb hr (fun t ht hW => ⟨⟨(rdA σ0 2 (Int32.toNatClampNeg p_)), σ0, rfl, hv, ⟨P_of ht hP, hD⟩⟩, hS.F ht⟩) hS.2.2 dX9_ofPerson_57
      · have hv := hv.2 c3
        by_cases c4 : what_ = 2
        · have hv := hv.1 c4
          refine lv_tableIn (tgt := 58) hx hb dX9_ofPerson_11 (by rw [c4]; decide) (by rw [c4]; decide) (by first | (rw [c4]; done) | (rw [c4]; rfl)) (by decide) ?_
          refine lv_aload_n hx hb dX9_ofPerson_58 rfl (lv_at hl 0 rfl) ?_
          refine va_get (ci := 9) (v := .ref (ad (3))) (C := RX9) (T := TX9) (N := 38) hx hb hts hinX9 hown hK hP 0 (wR_0 cy ad σ0) rfl 4 (by decide) (hts (.fieldLink RX9 16 "TaleBansModel" "hearthOf" "[I") (List.mem_of_getElem? (i := 3) rfl)) (fun x h => h) rfl dX9_ofPerson_59 ?_
          refine lv_iload_n hx hb dX9_ofPerson_62 rfl (lv_at hl 1 rfl) ?_
          obtain ⟨hi, hv⟩ := hv
          refine va_iald hx hb hK hP 3 0 (wR_3 cy ad σ0) rfl hi dX9_ofPerson_63 ?_
          rw [hZ]; rw [hQ] at hv
          exact W.iret (v := (rdA σ0 3 (Int32.toNatClampNeg p_))) hx hb hr (fun t ht hW => ⟨⟨(rdA σ0 3 (Int32.toNatClampNeg p_)), σ0, rfl, hv, ⟨P_of ht hP, hD⟩⟩, hS.F ht⟩) hS.2.2 dX9_ofPerson_64
        · have hv := hv.2 c4
          by_cases c8 : what_ = 3
          · have hv := hv.1 c8
            refine lv_tableIn (tgt := 65) hx hb dX9_ofPerson_11 (by rw [c8]; decide) (by rw [c8]; decide) (by first | (rw [c8]; done) | (rw [c8]; rfl)) (by decide) ?_
            refine lv_aload_n hx hb dX9_ofPerson_65 rfl (lv_at hl 0 rfl) ?_
            refine lv_iload_n hx hb dX9_ofPerson_66 rfl (lv_at hl 1 rfl) ?_
            obtain ⟨g5, g6, hv⟩ := hv
            obtain ⟨hp, hv⟩ := hv
            refine k_read_i (w := wR cy ad) (va_runV (As := [.int p_]) (rest := []) ⟨hx, hb, hml, hown, hts⟩ (h_X9_memoryOf D cy ad A p_ g5 g6 σ0 hp) (cwV 1 hts gX9_ofPerson_X9_memoryOf rfl rfl rfl (by decide +kernel) ⟨le_R hRf (Nat.le_of_ble_eq_true rfl), le_R hRl (Nat.le_of_ble_eq_true rfl)⟩) ⟨(fun a U g mk q => ⟨q.1, q.2.blind⟩), va_recv hK hP (ci := 9) (q0 := 0) rfl (wR_0 cy ad σ0), (fun U hU hW => ⟨rfl, WdR.pre hP hK hD hN hU hW⟩)⟩ rfl rfl hl.1 rfl (lv_room (Nat.le_of_ble_eq_true rfl)) dX9_ofPerson_67 ⟨le_R hRc (Nat.le_refl 0), le_R hRs (Nat.le_refl 0)⟩) hS (fun r7 H locs hr1 hP hS => ?_)
            have hv := hv r7 hr1
            rw [hZ]; rw [hQ] at hv
            exact W.iret (v := r7) hx hb hr (fun t ht hW => ⟨⟨r7, σ0, rfl, hv, ⟨P_of ht hP, hD⟩⟩, hS.F ht⟩) hS.2.2 dX9_ofPerson_70
          · have hv := hv.2 c8
            by_cases c10 : what_ = 4
            · have hv := hv.1 c10
              refine lv_tableIn (tgt := 71) hx hb dX9_ofPerson_11 (by rw [c10]; decide) (by rw [c10]; decide) (by first | (rw [c10]; done) | (rw [c10]; rfl)) (by decide) ?_
              refine lv_aload_n hx hb dX9_ofPerson_71 rfl (lv_at hl 0 rfl) ?_
              refine va_get (ci := 9) (v := .int (rdI σ0 2)) (C := RX9) (T := TX9) (N := 38) hx hb hts hinX9 hown hK hP 0 (wR_0 cy ad σ0) rfl 5 (by decide) (hts (.fieldLink RX9 158 "TaleBansModel" "paidNow" "I") (List.mem_of_getElem? (i := 4) rfl)) (fun x h => h) rfl dX9_ofPerson_72 ?_
              refine lv_iload_n hx hb dX9_ofPerson_75 rfl (lv_at hl 1 rfl) ?_
              refine k_pure_i (va_runS (As := [.int (rdI σ0 2), .int p_]) (rest := []) ⟨hx, hb, hml, hown, hts⟩ (h_X9_isIn (rdI σ0 2) p_) (va_cwS 2 hts gX9_ofPerson_X9_isIn rfl rfl rfl (by decide +kernel) ⟨le_R hRf (Nat.le_of_ble_eq_true rfl), le_R hRl (Nat.le_of_ble_eq_true rfl)⟩) ⟨(fun a U g mk q => ⟨q.1, trivial⟩), (fun U hU hW => ⟨rfl, trivial⟩)⟩ rfl rfl hl.1 rfl (lv_room (Nat.le_of_ble_eq_true rfl)) dX9_ofPerson_76 ⟨le_R hRc (Nat.le_refl 0), le_R hRs (Nat.le_refl 0)⟩) hS hP (fun r H locs hr1 hP hS => ?_)
              subst hr1
              refine lv_if_eq (tgt := 86) hx hb dX9_ofPerson_79 (by decide) (fun c9 => ?_) (fun c9 => ?_)
              · have hv := hv.1 c9
                refine lv_iconst (v := 0) hx hb dX9_ofPerson_86 (by decide) ?_
                rw [hZ]; rw [hQ] at hv
                exact W.iret (v := 0) hx hb hr (fun t ht hW => ⟨⟨0, σ0, rfl, hv, ⟨P_of ht hP, hD⟩⟩, hS.F ht⟩) hS.2.2 dX9_ofPerson_87
              · have hv := hv.2 c9
                refine lv_iconst (v := 1) hx hb dX9_ofPerson_82 (by decide) ?_
                refine lv_goto (tgt := 87) hx hb dX9_ofPerson_83 (by decide) ?_
                rw [hZ]; rw [hQ] at hv
                exact W.iret (v := 1) hx hb hr (fun t ht hW => ⟨⟨1, σ0, rfl, hv, ⟨P_of ht hP, hD⟩⟩, hS.F ht⟩) hS.2.2 dX9_ofPerson_87
            · have hv := hv.2 c10
              refine lv_tableOut (tgt := 88) hx hb dX9_ofPerson_11 (sw_out (lo := 0) (hi := 4) what_ (fun k h1 h2 hk => by
                have h3 : k = 0 ∨ k = 1 ∨ k = 2 ∨ k = 3 ∨ k = 4 := by omega
                rcases h3 with rfl | rfl | rfl | rfl | rfl
                · exact c2 (sw_k hk (by decide))
                · exact c3 (sw_k hk (by decide))
                · exact c4 (sw_k hk (by decide))
                · exact c8 (sw_k hk (by decide))
                · exact c10 (sw_k hk (by decide)))) (by decide) ?_
              refine lv_bipush (v := (-2)) hx hb dX9_ofPerson_88 (by decide) ?_
              rw [hZ]; rw [hQ] at hv
              exact W.iret (v := (-2)) hx hb hr (fun t ht hW => ⟨⟨(-2), σ0, rfl, hv, ⟨P_of ht hP, hD⟩⟩, hS.F ht⟩) hS.2.2 dX9_ofPerson_90
  · have hv := hv.2 c11
    refine lv_iconst (v := (-1)) hx hb dX9_ofPerson_8 (by decide) ?_
    rw [hZ]; rw [hQ] at hv
    exact W.iret (v := (-1)) hx hb hr (fun t ht hW => ⟨⟨(-1), σ0, rfl, hv, ⟨P_of ht hP, hD⟩⟩, hS.F ht⟩) hS.2.2 dX9_ofPerson_9
set_option maxHeartbeats 4000000 in
set_option maxRecDepth 100000 in
theorem wk_X9_tale (l : Launch) (h_X9_isSeason : Ct_X9_isSeason l) (h_X9_noDeed : Ct_X9_noDeed l) (h_X9_noPerson : Ct_X9_noPerson l) (sp : ∀ (deed_ : Int32) (p_ : Int32) (season_ : Int32) (ag : AS) (σ0 : S_), pre_X9_tale deed_ p_ season_ ag σ0 → vc_X9_tale deed_ p_ season_ σ0 (post_X9_tale deed_ p_ season_ ag σ0)) : Ct_X9_tale l := by
  intro D cy ad A deed_ p_ season_ ag σ0  hpre
  refine Met.ofW (cc := cX9_tale) (maxL := 4) (ret := (some .int)) (by decide) rfl ?_
  intro p e s m args below meth c s₁ B hml hv0
  obtain ⟨rfl, hP, hK, hD, hN⟩ := hv0
  have hx := B.exec
  have hb := B.bytes
  have hr := B.returns
  have hts := atoms_spec (ws := wsX9_tale) B.pre
  have hown : s.vm.findClass RX9 = some m.cls := findClass_of_methodNamed B.named
  have hlocks := B.notSynchronized
  have hv := sp deed_ p_ season_ ag σ0 hpre
  have hl := lv_entry ([.ref (ad 0), .int deed_, .int p_, .int season_]) (n := 4) (Nat.le_of_ble_eq_true rfl)
  rw [lg_entry_eq]
  generalize (lg_sl ([.ref (ad 0), .int deed_, .int p_, .int season_]) ++ List.replicate (4 - (lg_sl ([.ref (ad 0), .int deed_, .int p_, .int season_])).length) Slot.unset).toArray = ls at hl ⊢
  have hl : lv_has ls 4 [(0, .ref (ad 0)), (1, .int deed_), (2, .int p_), (3, .int season_)] := hl
  refine W_gen (fun R Z H locs hR hZ hH hlo => ?_)
  have hRf : R.frames = 2 := by rw [hR]; rfl
  have hRl : R.locals = 46 := by rw [hR]; rfl
  have hRc : R.cells = 0 := by rw [hR]; rfl
  have hRs : R.slots = 0 := by rw [hR]; rfl
  have hS : va_S A s.heap H locs := by rw [hH, hlo]; exact va_S.rf
  rw [← hH] at hP
  obtain ⟨Q, hQ⟩ : ∃ q : Int32 → S_ → Prop, q = (post_X9_tale deed_ p_ season_ ag σ0) := ⟨_, rfl⟩
  rw [← hQ] at hv
  have hinX9 : ∀ w ∈ wsX90, w ∈ wsX9_tale := by decide +kernel
  refine lv_iload_n hx hb dX9_tale_0 rfl (lv_at hl 1 rfl) ?_
  refine k_pure_i (va_runS (As := [.int deed_]) (rest := []) ⟨hx, hb, hml, hown, hts⟩ (h_X9_noDeed deed_) (va_cwS 1 hts gX9_tale_X9_noDeed rfl rfl rfl (by decide +kernel) ⟨le_R hRf (Nat.le_of_ble_eq_true rfl), le_R hRl (Nat.le_of_ble_eq_true rfl)⟩) ⟨(fun a U g mk q => ⟨q.1, trivial⟩), (fun U hU hW => ⟨rfl, trivial⟩)⟩ rfl rfl hl.1 rfl (lv_room (Nat.le_of_ble_eq_true rfl)) dX9_tale_1 ⟨le_R hRc (Nat.le_refl 0), le_R hRs (Nat.le_refl 0)⟩) hS hP (fun r H locs hr1 hP hS => ?_)
  subst hr1
  refine lv_if_ne (tgt := 15) hx hb dX9_tale_4 (by decide) (fun c14 => ?_) (fun c14 => ?_)
  · have hv := hv.1 c14
    refine lv_iconst (v := (-1)) hx hb dX9_tale_15 (by decide) ?_
    rw [hZ]; rw [hQ] at hv
    exact W.iret (v := (-1)) hx hb hr (fun t ht hW => ⟨⟨(-1), σ0, rfl, hv, ⟨P_of ht hP, hD⟩⟩, hS.F ht⟩) hS.2.2 dX9_tale_16
  · have hv := hv.2 c14
    refine lv_aload_n hx hb dX9_tale_7 rfl (lv_at hl 0 rfl) ?_
    refine lv_iload_n hx hb dX9_tale_8 rfl (lv_at hl 2 rfl) ?_
    have hp := True.intro
    refine k_read_i (w := wR cy ad) (va_runV (As := [.int p_]) (rest := []) ⟨hx, hb, hml, hown, hts⟩ (h_X9_noPerson D cy ad A p_ σ0 hp) (cwV 1 hts gX9_tale_X9_noPerson rfl rfl rfl (by decide +kernel) ⟨le_R hRf (Nat.le_of_ble_eq_true rfl), le_R hRl (Nat.le_of_ble_eq_true rfl)⟩) ⟨(fun a U g mk q => ⟨q.1, q.2.blind⟩), va_recv hK hP (ci := 9) (q0 := 0) rfl (wR_0 cy ad σ0), (fun U hU hW => ⟨rfl, WdR.pre hP hK hD hN hU hW⟩)⟩ rfl rfl hl.1 rfl (lv_room (Nat.le_of_ble_eq_true rfl)) dX9_tale_9 ⟨le_R hRc (Nat.le_refl 0), le_R hRs (Nat.le_refl 0)⟩) hS (fun r H locs hr1 hP hS => ?_)
    subst hr1
    refine lv_if_eq (tgt := 17) hx hb dX9_tale_12 (by decide) (fun c13 => ?_) (fun c13 => ?_)
    · have hv := hv.1 c13
      refine lv_iload_n hx hb dX9_tale_17 rfl (lv_at hl 3 rfl) ?_
      refine k_pure_i (va_runS (As := [.int season_]) (rest := []) ⟨hx, hb, hml, hown, hts⟩ (h_X9_isSeason season_) (va_cwS 1 hts gX9_tale_X9_isSeason rfl rfl rfl (by decide +kernel) ⟨le_R hRf (Nat.le_of_ble_eq_true rfl), le_R hRl (Nat.le_of_ble_eq_true rfl)⟩) ⟨(fun a U g mk q => ⟨q.1, trivial⟩), (fun U hU hW => ⟨rfl, trivial⟩)⟩ rfl rfl hl.1 rfl (lv_room (Nat.le_of_ble_eq_true rfl)) dX9_tale_18 ⟨le_R hRc (Nat.le_refl 0), le_R hRs (Nat.le_refl 0)⟩) hS hP (fun r H locs hr1 hP hS => ?_)
      subst hr1
      refine lv_if_ne (tgt := 27) hx hb dX9_tale_21 (by decide) (fun c12 => ?_) (fun c12 => ?_)
      · have hv := hv.1 c12
        refine lv_aload_n hx hb dX9_tale_27 rfl (lv_at hl 0 rfl) ?_
        refine va_get (ci := 9) (v := .int (rdI σ0 6)) (C := RX9) (T := TX9) (N := 38) hx hb hts hinX9 hown hK hP 0 (wR_0 cy ad σ0) rfl 12 (by decide) (hts (.fieldLink RX9 109 "TaleBansModel" "tales" "I") (List.mem_of_getElem? (i := 1) rfl)) (fun x h => h) rfl dX9_tale_28 ?_
        refine lv_bipush (v := 6) hx hb dX9_tale_31 (by decide) ?_
        refine lv_icmp_ne (tgt := 39) hx hb dX9_tale_33 (by decide) (fun c11 => ?_) (fun c11 => ?_)
        · have hv := hv.1 c11
          refine lv_aload_n hx hb dX9_tale_39 rfl (lv_at hl 0 rfl) ?_
          refine va_get (ci := 9) (v := .ref (ad (7))) (C := RX9) (T := TX9) (N := 38) hx hb hts hinX9 hown hK hP 0 (wR_0 cy ad σ0) rfl 13 (by decide) (hts (.fieldLink RX9 28 "TaleBansModel" "taleDeed" "[I") (List.mem_of_getElem? (i := 2) rfl)) (fun x h => h) rfl dX9_tale_40 ?_
          refine lv_aload_n hx hb dX9_tale_43 rfl (lv_at hl 0 rfl) ?_
          refine va_get (ci := 9) (v := .int (rdI σ0 6)) (C := RX9) (T := TX9) (N := 38) hx hb hts hinX9 hown hK hP 0 (wR_0 cy ad σ0) rfl 12 (by decide) (hts (.fieldLink RX9 109 "TaleBansModel" "tales" "I") (List.mem_of_getElem? (i := 1) rfl)) (fun x h => h) rfl dX9_tale_44 ?_
          refine lv_iload_n hx hb dX9_tale_47 rfl (lv_at hl 1 rfl) ?_
          obtain ⟨hi, hv⟩ := hv
          refine va_iast hx hb hK hP hD hS 7 0 (wR_7 cy ad σ0) rfl hi dX9_tale_48 (fun H locs hP hD hS => ?_)
          obtain ⟨σ1, e2⟩ : ∃ y : S_, y = wr2 σ0 7 (Int32.toNatClampNeg (rdI σ0 6)) deed_ := ⟨_, rfl⟩
          have hP : va_P D vwCl (wR cy ad σ1) H := by rw [e2]; exact hP
          have hD : va_D A (wR cy ad σ1) := by rw [e2]; exact hD
          have hv := hv σ1 e2
          refine lv_aload_n hx hb dX9_tale_49 rfl (lv_at hl 0 rfl) ?_
          refine va_get (ci := 9) (v := .ref (ad (8))) (C := RX9) (T := TX9) (N := 38) hx hb hts hinX9 hown hK hP 0 (wR_0 cy ad σ1) rfl 14 (by decide) (hts (.fieldLink RX9 31 "TaleBansModel" "taleTo" "[I") (List.mem_of_getElem? (i := 3) rfl)) (fun x h => h) rfl dX9_tale_50 ?_
          refine lv_aload_n hx hb dX9_tale_53 rfl (lv_at hl 0 rfl) ?_
          refine va_get (ci := 9) (v := .int (rdI σ1 6)) (C := RX9) (T := TX9) (N := 38) hx hb hts hinX9 hown hK hP 0 (wR_0 cy ad σ1) rfl 12 (by decide) (hts (.fieldLink RX9 109 "TaleBansModel" "tales" "I") (List.mem_of_getElem? (i := 1) rfl)) (fun x h => h) rfl dX9_tale_54 ?_
          refine lv_iload_n hx hb dX9_tale_57 rfl (lv_at hl 2 rfl) ?_
          obtain ⟨hi, hv⟩ := hv
          refine va_iast hx hb hK hP hD hS 8 0 (wR_8 cy ad σ1) rfl hi dX9_tale_58 (fun H locs hP hD hS => ?_)
          obtain ⟨σ3, e4⟩ : ∃ y : S_, y = wr2 σ1 8 (Int32.toNatClampNeg (rdI σ1 6)) p_ := ⟨_, rfl⟩
          have hP : va_P D vwCl (wR cy ad σ3) H := by rw [e4]; exact hP
          have hD : va_D A (wR cy ad σ3) := by rw [e4]; exact hD
          have hv := hv σ3 e4
          refine lv_aload_n hx hb dX9_tale_59 rfl (lv_at hl 0 rfl) ?_
          refine va_get (ci := 9) (v := .ref (ad (9))) (C := RX9) (T := TX9) (N := 38) hx hb hts hinX9 hown hK hP 0 (wR_0 cy ad σ3) rfl 15 (by decide) (hts (.fieldLink RX9 34 "TaleBansModel" "taleIn" "[I") (List.mem_of_getElem? (i := 4) rfl)) (fun x h => h) rfl dX9_tale_60 ?_
          refine lv_aload_n hx hb dX9_tale_63 rfl (lv_at hl 0 rfl) ?_
          refine va_get (ci := 9) (v := .int (rdI σ3 6)) (C := RX9) (T := TX9) (N := 38) hx hb hts hinX9 hown hK hP 0 (wR_0 cy ad σ3) rfl 12 (by decide) (hts (.fieldLink RX9 109 "TaleBansModel" "tales" "I") (List.mem_of_getElem? (i := 1) rfl)) (fun x h => h) rfl dX9_tale_64 ?_
          refine lv_iload_n hx hb dX9_tale_67 rfl (lv_at hl 3 rfl) ?_
          obtain ⟨hi, hv⟩ := hv
          refine va_iast hx hb hK hP hD hS 9 0 (wR_9 cy ad σ3) rfl hi dX9_tale_68 (fun H locs hP hD hS => ?_)
          obtain ⟨σ5, e6⟩ : ∃ y : S_, y = wr2 σ3 9 (Int32.toNatClampNeg (rdI σ3 6)) season_ := ⟨_, rfl⟩
          have hP : va_P D vwCl (wR cy ad σ5) H := by rw [e6]; exact hP
          have hD : va_D A (wR cy ad σ5) := by rw [e6]; exact hD
          have hv := hv σ5 e6
          refine lv_aload_n hx hb dX9_tale_69 rfl (lv_at hl 0 rfl) ?_
          refine va_get (ci := 9) (v := .ref (ad (10))) (C := RX9) (T := TX9) (N := 38) hx hb hts hinX9 hown hK hP 0 (wR_0 cy ad σ5) rfl 16 (by decide) (hts (.fieldLink RX9 37 "TaleBansModel" "isParody" "[Z") (List.mem_of_getElem? (i := 5) rfl)) (fun x h => h) rfl dX9_tale_70 ?_
          refine lv_aload_n hx hb dX9_tale_73 rfl (lv_at hl 0 rfl) ?_
          refine va_get (ci := 9) (v := .int (rdI σ5 6)) (C := RX9) (T := TX9) (N := 38) hx hb hts hinX9 hown hK hP 0 (wR_0 cy ad σ5) rfl 12 (by decide) (hts (.fieldLink RX9 109 "TaleBansModel" "tales" "I") (List.mem_of_getElem? (i := 1) rfl)) (fun x h => h) rfl dX9_tale_74 ?_
          refine lv_iconst (v := 0) hx hb dX9_tale_77 (by decide) ?_
          obtain ⟨hi, hv⟩ := hv
          refine va_zast hx hb hK hP hD hS 10 1 (wR_10 cy ad σ5) rfl hi dX9_tale_78 (fun H locs hP hD hS => ?_)
          obtain ⟨σ7, e8⟩ : ∃ y : S_, y = wr2 σ5 10 (Int32.toNatClampNeg (rdI σ5 6)) (vp_nar .boolean 0) := ⟨_, rfl⟩
          have hP : va_P D vwCl (wR cy ad σ7) H := by rw [e8]; exact hP
          have hD : va_D A (wR cy ad σ7) := by rw [e8]; exact hD
          have hv := hv σ7 e8
          refine lv_aload_n hx hb dX9_tale_79 rfl (lv_at hl 0 rfl) ?_
          refine lv_dup hx hb dX9_tale_80 rfl ?_
          refine va_get (ci := 9) (v := .int (rdI σ7 6)) (C := RX9) (T := TX9) (N := 38) hx hb hts hinX9 hown hK hP 0 (wR_0 cy ad σ7) rfl 12 (by decide) (hts (.fieldLink RX9 109 "TaleBansModel" "tales" "I") (List.mem_of_getElem? (i := 1) rfl)) (fun x h => h) rfl dX9_tale_81 ?_
          refine lv_iconst (v := 1) hx hb dX9_tale_84 (by decide) ?_
          refine lv_iadd hx hb dX9_tale_85 ?_
          refine va_put (ci := 9) (v := .int ((rdI σ7 6) + 1)) (ty := .int) (C := RX9) (T := TX9) (N := 38) hx hb hts hinX9 tyX9 tyX9_ok nmX9 hown hK hP hD hS 0 (wR_0 cy ad σ7) rfl 12 (by decide) (hts (.fieldLink RX9 109 "TaleBansModel" "tales" "I") (List.mem_of_getElem? (i := 1) rfl)) (fun x h => h) rfl (by decide +kernel) rfl rfl (Nat.le_of_ble_eq_true rfl) dX9_tale_86 (fun H locs hP hD hS => ?_)
          obtain ⟨σ9, e10⟩ : ∃ y : S_, y = wrI σ7 6 ((rdI σ7 6) + 1) := ⟨_, rfl⟩
          have hP : va_P D vwCl (wR cy ad σ9) H := by rw [e10]; exact hP
          have hD : va_D A (wR cy ad σ9) := by rw [e10]; exact hD
          have hv := hv σ9 e10
          refine lv_aload_n hx hb dX9_tale_89 rfl (lv_at hl 0 rfl) ?_
          refine va_get (ci := 9) (v := .int (rdI σ9 6)) (C := RX9) (T := TX9) (N := 38) hx hb hts hinX9 hown hK hP 0 (wR_0 cy ad σ9) rfl 12 (by decide) (hts (.fieldLink RX9 109 "TaleBansModel" "tales" "I") (List.mem_of_getElem? (i := 1) rfl)) (fun x h => h) rfl dX9_tale_90 ?_
          refine lv_iconst (v := 1) hx hb dX9_tale_93 (by decide) ?_
          refine lv_isub hx hb dX9_tale_94 ?_
          rw [hZ]; rw [hQ] at hv
          exact W.iret (v := ((rdI σ9 6) - 1)) hx hb hr (fun t ht hW => ⟨⟨((rdI σ9 6) - 1), σ9, rfl, hv, ⟨P_of ht hP, hD⟩⟩, hS.F ht⟩) hS.2.2 dX9_tale_95
        · have hv := hv.2 c11
          refine lv_bipush (v := (-4)) hx hb dX9_tale_36 (by decide) ?_
          rw [hZ]; rw [hQ] at hv
          exact W.iret (v := (-4)) hx hb hr (fun t ht hW => ⟨⟨(-4), σ0, rfl, hv, ⟨P_of ht hP, hD⟩⟩, hS.F ht⟩) hS.2.2 dX9_tale_38
      · have hv := hv.2 c12
        refine lv_bipush (v := (-2)) hx hb dX9_tale_24 (by decide) ?_
        rw [hZ]; rw [hQ] at hv
        exact W.iret (v := (-2)) hx hb hr (fun t ht hW => ⟨⟨(-2), σ0, rfl, hv, ⟨P_of ht hP, hD⟩⟩, hS.F ht⟩) hS.2.2 dX9_tale_26
    · have hv := hv.2 c13
      refine lv_iconst (v := (-1)) hx hb dX9_tale_15 (by decide) ?_
      rw [hZ]; rw [hQ] at hv
      exact W.iret (v := (-1)) hx hb hr (fun t ht hW => ⟨⟨(-1), σ0, rfl, hv, ⟨P_of ht hP, hD⟩⟩, hS.F ht⟩) hS.2.2 dX9_tale_16
set_option maxHeartbeats 4000000 in
set_option maxRecDepth 100000 in
theorem wk_X9_undo (l : Launch) (h_X9_in : Ct_X9_in l) (h_X9_noTale : Ct_X9_noTale l) (sp : ∀ (k_ : Int32) (ag : AS) (σ0 : S_), pre_X9_undo k_ ag σ0 → vc_X9_undo k_ σ0 (post_X9_undo k_ ag σ0)) : Ct_X9_undo l := by
  intro D cy ad A k_ ag σ0  hpre
  refine Met.ofW (cc := cX9_undo) (maxL := 4) (ret := (some .int)) (by decide) rfl ?_
  intro p e s m args below meth c s₁ B hml hv0
  obtain ⟨rfl, hP, hK, hD, hN⟩ := hv0
  have hx := B.exec
  have hb := B.bytes
  have hr := B.returns
  have hts := atoms_spec (ws := wsX9_undo) B.pre
  have hown : s.vm.findClass RX9 = some m.cls := findClass_of_methodNamed B.named
  have hlocks := B.notSynchronized
  have hv := sp k_ ag σ0 hpre
  have hl := lv_entry ([.ref (ad 0), .int k_]) (n := 4) (Nat.le_of_ble_eq_true rfl)
  rw [lg_entry_eq]
  generalize (lg_sl ([.ref (ad 0), .int k_]) ++ List.replicate (4 - (lg_sl ([.ref (ad 0), .int k_])).length) Slot.unset).toArray = ls at hl ⊢
  have hl : lv_has ls 4 [(0, .ref (ad 0)), (1, .int k_)] := hl
  refine W_gen (fun R Z H locs hR hZ hH hlo => ?_)
  have hRf : R.frames = 2 := by rw [hR]; rfl
  have hRl : R.locals = 46 := by rw [hR]; rfl
  have hRc : R.cells = 0 := by rw [hR]; rfl
  have hRs : R.slots = 0 := by rw [hR]; rfl
  have hS : va_S A s.heap H locs := by rw [hH, hlo]; exact va_S.rf
  rw [← hH] at hP
  obtain ⟨Q, hQ⟩ : ∃ q : Int32 → S_ → Prop, q = (post_X9_undo k_ ag σ0) := ⟨_, rfl⟩
  rw [← hQ] at hv
  have hinX9 : ∀ w ∈ wsX90, w ∈ wsX9_undo := by decide +kernel
  refine lv_iload_n hx hb dX9_undo_0 rfl (lv_at hl 1 rfl) ?_
  refine lv_i2l hx hb dX9_undo_1 rfl ?_
  refine lv_lconst (v := 0) hx hb dX9_undo_2 rfl ?_
  refine lv_aload_n hx hb dX9_undo_3 rfl (lv_at hl 0 rfl) ?_
  refine va_get (ci := 9) (v := .int (rdI σ0 6)) (C := RX9) (T := TX9) (N := 38) hx hb hts hinX9 hown hK hP 0 (wR_0 cy ad σ0) rfl 12 (by decide) (hts (.fieldLink RX9 109 "TaleBansModel" "tales" "I") (List.mem_of_getElem? (i := 1) rfl)) (fun x h => h) rfl dX9_undo_4 ?_
  refine lv_i2l hx hb dX9_undo_7 rfl ?_
  refine k_pure_i (va_runS (As := [.long (Int32.toInt64 k_), .long 0, .long (Int32.toInt64 (rdI σ0 6))]) (rest := []) ⟨hx, hb, hml, hown, hts⟩ (h_X9_in (Int32.toInt64 k_) 0 (Int32.toInt64 (rdI σ0 6))) (va_cwS 3 hts gX9_undo_X9_in rfl rfl rfl (by decide +kernel) ⟨le_R hRf (Nat.le_of_ble_eq_true rfl), le_R hRl (Nat.le_of_ble_eq_true rfl)⟩) ⟨(fun a U g mk q => ⟨q.1, trivial⟩), (fun U hU hW => ⟨rfl, trivial⟩)⟩ rfl rfl hl.1 rfl (lv_room (Nat.le_of_ble_eq_true rfl)) dX9_undo_8 ⟨le_R hRc (Nat.le_refl 0), le_R hRs (Nat.le_refl 0)⟩) hS hP (fun r H locs hr1 hP hS => ?_)
  subst hr1
  refine lv_if_ne (tgt := 17) hx hb dX9_undo_11 (by decide) (fun c18 => ?_) (fun c18 => ?_)
  · have hv := hv.1 c18
    refine lv_aload_n hx hb dX9_undo_17 rfl (lv_at hl 0 rfl) ?_
    refine lv_dup hx hb dX9_undo_18 rfl ?_
    refine va_get (ci := 9) (v := .int (rdI σ0 6)) (C := RX9) (T := TX9) (N := 38) hx hb hts hinX9 hown hK hP 0 (wR_0 cy ad σ0) rfl 12 (by decide) (hts (.fieldLink RX9 109 "TaleBansModel" "tales" "I") (List.mem_of_getElem? (i := 1) rfl)) (fun x h => h) rfl dX9_undo_19 ?_
    refine lv_iload_n hx hb dX9_undo_22 rfl (lv_at hl 1 rfl) ?_
    refine lv_isub hx hb dX9_undo_23 ?_
    refine va_put (ci := 9) (v := .int ((rdI σ0 6) - k_)) (ty := .int) (C := RX9) (T := TX9) (N := 38) hx hb hts hinX9 tyX9 tyX9_ok nmX9 hown hK hP hD hS 0 (wR_0 cy ad σ0) rfl 12 (by decide) (hts (.fieldLink RX9 109 "TaleBansModel" "tales" "I") (List.mem_of_getElem? (i := 1) rfl)) (fun x h => h) rfl (by decide +kernel) rfl rfl (Nat.le_of_ble_eq_true rfl) dX9_undo_24 (fun H locs hP hD hS => ?_)
    obtain ⟨σ1, e2⟩ : ∃ y : S_, y = wrI σ0 6 ((rdI σ0 6) - k_) := ⟨_, rfl⟩
    have hP : va_P D vwCl (wR cy ad σ1) H := by rw [e2]; exact hP
    have hD : va_D A (wR cy ad σ1) := by rw [e2]; exact hD
    have hv := hv σ1 e2
    refine lv_iconst (v := 0) hx hb dX9_undo_27 (by decide) ?_
    refine lv_istore_n (lv' := [(2, .int 0), (0, .ref (ad 0)), (1, .int k_)]) hx hb dX9_undo_28 rfl hl (by decide) rfl (fun ls hl => ?_)
    refine lv_iconst (v := 0) hx hb dX9_undo_29 (by decide) ?_
    refine lv_istore_n (lv' := [(3, .int 0), (2, .int 0), (0, .ref (ad 0)), (1, .int k_)]) hx hb dX9_undo_30 rfl hl (by decide) rfl (fun ls hl => ?_)
    obtain ⟨n31, hv⟩ := hv
    have lp31 : ∀ (nn31 : Nat) (x3 : Int32) (x4 : Int32) (σ5 : S_) (H : Heap) (locs : List Loc) (ls : Array Slot), vl_X9_undo_31 Q nn31 x3 x4 σ5 → va_P D vwCl (wR cy ad σ5) H → va_D A (wR cy ad σ5) → va_S A s.heap H locs → lv_has ls 4 [(0, .ref (ad 0)), (2, .int x3), (3, .int x4)] → W p l e R s m ([.ref (ad 0), .int k_] : List Value).toArray  below meth c H locs 0 0 Z (F0 m 31 ls []) := by
      intro nn31
      induction nn31 with
      | zero => intro x3 x4 σ5 H locs ls hv; exact absurd hv id
      | succ mm31 ih31 =>
        intro x3 x4 σ5 H locs ls hv hP hD hS hl
        refine lv_iload_n hx hb dX9_undo_31 rfl (lv_at hl 2 rfl) ?_
        refine lv_aload_n hx hb dX9_undo_32 rfl (lv_at hl 0 rfl) ?_
        refine va_get (ci := 9) (v := .int (rdI σ5 9)) (C := RX9) (T := TX9) (N := 38) hx hb hts hinX9 hown hK hP 0 (wR_0 cy ad σ5) rfl 28 (by decide) (hts (.fieldLink RX9 170 "TaleBansModel" "readings" "I") (List.mem_of_getElem? (i := 2) rfl)) (fun x h => h) rfl dX9_undo_33 ?_
        refine lv_icmp_ge (tgt := 109) hx hb dX9_undo_36 (by decide) (fun c17 => ?_) (fun c17 => ?_)
        · have hv := hv.1 c17
          refine lv_aload_n hx hb dX9_undo_109 rfl (lv_at hl 0 rfl) ?_
          refine lv_iload_n hx hb dX9_undo_110 rfl (lv_at hl 1 rfl) ?_
          refine va_put (ci := 9) (v := .int x3) (ty := .int) (C := RX9) (T := TX9) (N := 38) hx hb hts hinX9 tyX9 tyX9_ok nmX9 hown hK hP hD hS 0 (wR_0 cy ad σ5) rfl 28 (by decide) (hts (.fieldLink RX9 170 "TaleBansModel" "readings" "I") (List.mem_of_getElem? (i := 2) rfl)) (fun x h => h) rfl (by decide +kernel) rfl rfl (Nat.le_of_ble_eq_true rfl) dX9_undo_111 (fun H locs hP hD hS => ?_)
          obtain ⟨σ6, e7⟩ : ∃ y : S_, y = wrI σ5 9 x3 := ⟨_, rfl⟩
          have hP : va_P D vwCl (wR cy ad σ6) H := by rw [e7]; exact hP
          have hD : va_D A (wR cy ad σ6) := by rw [e7]; exact hD
          have hv := hv σ6 e7
          refine lv_aload_n hx hb dX9_undo_114 rfl (lv_at hl 0 rfl) ?_
          refine va_get (ci := 9) (v := .int (rdI σ6 6)) (C := RX9) (T := TX9) (N := 38) hx hb hts hinX9 hown hK hP 0 (wR_0 cy ad σ6) rfl 12 (by decide) (hts (.fieldLink RX9 109 "TaleBansModel" "tales" "I") (List.mem_of_getElem? (i := 1) rfl)) (fun x h => h) rfl dX9_undo_115 ?_
          rw [hZ]; rw [hQ] at hv
          exact W.iret (v := (rdI σ6 6)) hx hb hr (fun t ht hW => ⟨⟨(rdI σ6 6), σ6, rfl, hv, ⟨P_of ht hP, hD⟩⟩, hS.F ht⟩) hS.2.2 dX9_undo_118
        · have hv := hv.2 c17
          refine lv_aload_n hx hb dX9_undo_39 rfl (lv_at hl 0 rfl) ?_
          refine lv_aload_n hx hb dX9_undo_40 rfl (lv_at hl 0 rfl) ?_
          refine va_get (ci := 9) (v := .ref (ad (21))) (C := RX9) (T := TX9) (N := 38) hx hb hts hinX9 hown hK hP 0 (wR_0 cy ad σ5) rfl 30 (by decide) (hts (.fieldLink RX9 71 "TaleBansModel" "readingTale" "[I") (List.mem_of_getElem? (i := 3) rfl)) (fun x h => h) rfl dX9_undo_41 ?_
          refine lv_iload_n hx hb dX9_undo_44 rfl (lv_at hl 2 rfl) ?_
          obtain ⟨hi, hv⟩ := hv
          refine va_iald hx hb hK hP 21 0 (wR_21 cy ad σ5) rfl hi dX9_undo_45 ?_
          have hp := True.intro
          refine k_read_i (w := wR cy ad) (va_runV (As := [.int (rdA σ5 21 (Int32.toNatClampNeg x4))]) (rest := []) ⟨hx, hb, hml, hown, hts⟩ (h_X9_noTale D cy ad A (rdA σ5 21 (Int32.toNatClampNeg x4)) σ5 hp) (cwV 1 hts gX9_undo_X9_noTale rfl rfl rfl (by decide +kernel) ⟨le_R hRf (Nat.le_of_ble_eq_true rfl), le_R hRl (Nat.le_of_ble_eq_true rfl)⟩) ⟨(fun a U g mk q => ⟨q.1, q.2.blind⟩), va_recv hK hP (ci := 9) (q0 := 0) rfl (wR_0 cy ad σ5), (fun U hU hW => ⟨rfl, WdR.pre hP hK hD hN hU hW⟩)⟩ rfl rfl hl.1 rfl (lv_room (Nat.le_of_ble_eq_true rfl)) dX9_undo_46 ⟨le_R hRc (Nat.le_refl 0), le_R hRs (Nat.le_refl 0)⟩) hS (fun r H locs hr1 hP hS => ?_)
          subst hr1
          refine lv_if_ne (tgt := 103) hx hb dX9_undo_49 (by decide) (fun c16 => ?_) (fun c16 => ?_)
          · have hv := hv.1 c16
            refine lv_iinc (v := (x4 + 1)) (lv' := [(3, .int (x4 + 1)), (0, .ref (ad 0)), (2, .int x3)]) hx hb dX9_undo_103 hl (k := 2) rfl rfl (by decide) rfl (fun ls hl => ?_)
            refine lv_goto (tgt := 31) hx hb dX9_undo_106 (by decide) ?_
            exact ih31 x3 (x4 + 1) σ5 _ _ _ hv hP hD hS (lv_sub hl [1, 2, 0] rfl)
          · have hv := hv.2 c16
            refine lv_aload_n hx hb dX9_undo_52 rfl (lv_at hl 0 rfl) ?_
            refine va_get (ci := 9) (v := .ref (ad (20))) (C := RX9) (T := TX9) (N := 38) hx hb hts hinX9 hown hK hP 0 (wR_0 cy ad σ5) rfl 29 (by decide) (hts (.fieldLink RX9 68 "TaleBansModel" "readingOf" "[I") (List.mem_of_getElem? (i := 4) rfl)) (fun x h => h) rfl dX9_undo_53 ?_
            refine lv_iload_n hx hb dX9_undo_56 rfl (lv_at hl 1 rfl) ?_
            refine lv_aload_n hx hb dX9_undo_57 rfl (lv_at hl 0 rfl) ?_
            refine va_get (ci := 9) (v := .ref (ad (20))) (C := RX9) (T := TX9) (N := 38) hx hb hts hinX9 hown hK hP 0 (wR_0 cy ad σ5) rfl 29 (by decide) (hts (.fieldLink RX9 68 "TaleBansModel" "readingOf" "[I") (List.mem_of_getElem? (i := 4) rfl)) (fun x h => h) rfl dX9_undo_58 ?_
            refine lv_iload_n hx hb dX9_undo_61 rfl (lv_at hl 2 rfl) ?_
            obtain ⟨hi, hv⟩ := hv
            refine va_iald hx hb hK hP 20 0 (wR_20 cy ad σ5) rfl hi dX9_undo_62 ?_
            obtain ⟨hi, hv⟩ := hv
            refine va_iast hx hb hK hP hD hS 20 0 (wR_20 cy ad σ5) rfl hi dX9_undo_63 (fun H locs hP hD hS => ?_)
            obtain ⟨σ8, e9⟩ : ∃ y : S_, y = wr2 σ5 20 (Int32.toNatClampNeg x3) (rdA σ5 20 (Int32.toNatClampNeg x4)) := ⟨_, rfl⟩
            have hP : va_P D vwCl (wR cy ad σ8) H := by rw [e9]; exact hP
            have hD : va_D A (wR cy ad σ8) := by rw [e9]; exact hD
            have hv := hv σ8 e9
            refine lv_aload_n hx hb dX9_undo_64 rfl (lv_at hl 0 rfl) ?_
            refine va_get (ci := 9) (v := .ref (ad (21))) (C := RX9) (T := TX9) (N := 38) hx hb hts hinX9 hown hK hP 0 (wR_0 cy ad σ8) rfl 30 (by decide) (hts (.fieldLink RX9 71 "TaleBansModel" "readingTale" "[I") (List.mem_of_getElem? (i := 3) rfl)) (fun x h => h) rfl dX9_undo_65 ?_
            refine lv_iload_n hx hb dX9_undo_68 rfl (lv_at hl 1 rfl) ?_
            refine lv_aload_n hx hb dX9_undo_69 rfl (lv_at hl 0 rfl) ?_
            refine va_get (ci := 9) (v := .ref (ad (21))) (C := RX9) (T := TX9) (N := 38) hx hb hts hinX9 hown hK hP 0 (wR_0 cy ad σ8) rfl 30 (by decide) (hts (.fieldLink RX9 71 "TaleBansModel" "readingTale" "[I") (List.mem_of_getElem? (i := 3) rfl)) (fun x h => h) rfl dX9_undo_70 ?_
            refine lv_iload_n hx hb dX9_undo_73 rfl (lv_at hl 2 rfl) ?_
            obtain ⟨hi, hv⟩ := hv
            refine va_iald hx hb hK hP 21 0 (wR_21 cy ad σ8) rfl hi dX9_undo_74 ?_
            obtain ⟨hi, hv⟩ := hv
            refine va_iast hx hb hK hP hD hS 21 0 (wR_21 cy ad σ8) rfl hi dX9_undo_75 (fun H locs hP hD hS => ?_)
            obtain ⟨σ10, e11⟩ : ∃ y : S_, y = wr2 σ8 21 (Int32.toNatClampNeg x3) (rdA σ8 21 (Int32.toNatClampNeg x4)) := ⟨_, rfl⟩
            have hP : va_P D vwCl (wR cy ad σ10) H := by rw [e11]; exact hP
            have hD : va_D A (wR cy ad σ10) := by rw [e11]; exact hD
            have hv := hv σ10 e11
            refine lv_aload_n hx hb dX9_undo_76 rfl (lv_at hl 0 rfl) ?_
            refine va_get (ci := 9) (v := .ref (ad (22))) (C := RX9) (T := TX9) (N := 38) hx hb hts hinX9 hown hK hP 0 (wR_0 cy ad σ10) rfl 31 (by decide) (hts (.fieldLink RX9 74 "TaleBansModel" "readingIn" "[I") (List.mem_of_getElem? (i := 5) rfl)) (fun x h => h) rfl dX9_undo_77 ?_
            refine lv_iload_n hx hb dX9_undo_80 rfl (lv_at hl 1 rfl) ?_
            refine lv_aload_n hx hb dX9_undo_81 rfl (lv_at hl 0 rfl) ?_
            refine va_get (ci := 9) (v := .ref (ad (22))) (C := RX9) (T := TX9) (N := 38) hx hb hts hinX9 hown hK hP 0 (wR_0 cy ad σ10) rfl 31 (by decide) (hts (.fieldLink RX9 74 "TaleBansModel" "readingIn" "[I") (List.mem_of_getElem? (i := 5) rfl)) (fun x h => h) rfl dX9_undo_82 ?_
            refine lv_iload_n hx hb dX9_undo_85 rfl (lv_at hl 2 rfl) ?_
            obtain ⟨hi, hv⟩ := hv
            refine va_iald hx hb hK hP 22 0 (wR_22 cy ad σ10) rfl hi dX9_undo_86 ?_
            obtain ⟨hi, hv⟩ := hv
            refine va_iast hx hb hK hP hD hS 22 0 (wR_22 cy ad σ10) rfl hi dX9_undo_87 (fun H locs hP hD hS => ?_)
            obtain ⟨σ12, e13⟩ : ∃ y : S_, y = wr2 σ10 22 (Int32.toNatClampNeg x3) (rdA σ10 22 (Int32.toNatClampNeg x4)) := ⟨_, rfl⟩
            have hP : va_P D vwCl (wR cy ad σ12) H := by rw [e13]; exact hP
            have hD : va_D A (wR cy ad σ12) := by rw [e13]; exact hD
            have hv := hv σ12 e13
            refine lv_aload_n hx hb dX9_undo_88 rfl (lv_at hl 0 rfl) ?_
            refine va_get (ci := 9) (v := .ref (ad (23))) (C := RX9) (T := TX9) (N := 38) hx hb hts hinX9 hown hK hP 0 (wR_0 cy ad σ12) rfl 32 (by decide) (hts (.fieldLink RX9 77 "TaleBansModel" "readingDid" "[Z") (List.mem_of_getElem? (i := 6) rfl)) (fun x h => h) rfl dX9_undo_89 ?_
            refine lv_iload_n hx hb dX9_undo_92 rfl (lv_at hl 1 rfl) ?_
            refine lv_aload_n hx hb dX9_undo_93 rfl (lv_at hl 0 rfl) ?_
            refine va_get (ci := 9) (v := .ref (ad (23))) (C := RX9) (T := TX9) (N := 38) hx hb hts hinX9 hown hK hP 0 (wR_0 cy ad σ12) rfl 32 (by decide) (hts (.fieldLink RX9 77 "TaleBansModel" "readingDid" "[Z") (List.mem_of_getElem? (i := 6) rfl)) (fun x h => h) rfl dX9_undo_94 ?_
            refine lv_iload_n hx hb dX9_undo_97 rfl (lv_at hl 2 rfl) ?_
            obtain ⟨hi, hv⟩ := hv
            refine va_zald hx hb hK hP 23 1 (wR_23 cy ad σ12) rfl hi dX9_undo_98 ?_
            obtain ⟨hi, hv⟩ := hv
            refine va_zast hx hb hK hP hD hS 23 1 (wR_23 cy ad σ12) rfl hi dX9_undo_99 (fun H locs hP hD hS => ?_)
            obtain ⟨σ14, e15⟩ : ∃ y : S_, y = wr2 σ12 23 (Int32.toNatClampNeg x3) (vp_nar .boolean (rdA σ12 23 (Int32.toNatClampNeg x4))) := ⟨_, rfl⟩
            have hP : va_P D vwCl (wR cy ad σ14) H := by rw [e15]; exact hP
            have hD : va_D A (wR cy ad σ14) := by rw [e15]; exact hD
            have hv := hv σ14 e15
            refine lv_iinc (v := (x3 + 1)) (lv' := [(2, .int (x3 + 1)), (0, .ref (ad 0)), (3, .int x4)]) hx hb dX9_undo_100 hl (k := 1) rfl rfl (by decide) rfl (fun ls hl => ?_)
            refine lv_iinc (v := (x4 + 1)) (lv' := [(3, .int (x4 + 1)), (2, .int (x3 + 1)), (0, .ref (ad 0))]) hx hb dX9_undo_103 hl (k := 2) rfl rfl (by decide) rfl (fun ls hl => ?_)
            refine lv_goto (tgt := 31) hx hb dX9_undo_106 (by decide) ?_
            exact ih31 (x3 + 1) (x4 + 1) σ14 _ _ _ hv hP hD hS (lv_sub hl [2, 1, 0] rfl)
    exact lp31 n31 0 0 σ1 _ _ _ hv hP hD hS (lv_sub hl [2, 1, 0] rfl)
  · have hv := hv.2 c18
    refine lv_bipush (v := (-2)) hx hb dX9_undo_14 (by decide) ?_
    rw [hZ]; rw [hQ] at hv
    exact W.iret (v := (-2)) hx hb hr (fun t ht hW => ⟨⟨(-2), σ0, rfl, hv, ⟨P_of ht hP, hD⟩⟩, hS.F ht⟩) hS.2.2 dX9_undo_16
set_option maxHeartbeats 4000000 in
set_option maxRecDepth 100000 in
theorem wk_X9_move (l : Launch) (h_X9_isSeason : Ct_X9_isSeason l) (h_X9_noHearth : Ct_X9_noHearth l) (h_X9_noPerson : Ct_X9_noPerson l) (sp : ∀ (p_ : Int32) (h_ : Int32) (season_ : Int32) (ag : AS) (σ0 : S_), pre_X9_move p_ h_ season_ ag σ0 → vc_X9_move p_ h_ season_ σ0 (post_X9_move p_ h_ season_ ag σ0)) : Ct_X9_move l := by
  intro D cy ad A p_ h_ season_ ag σ0  hpre
  refine Met.ofW (cc := cX9_move) (maxL := 4) (ret := (some .int)) (by decide) rfl ?_
  intro p e s m args below meth c s₁ B hml hv0
  obtain ⟨rfl, hP, hK, hD, hN⟩ := hv0
  have hx := B.exec
  have hb := B.bytes
  have hr := B.returns
  have hts := atoms_spec (ws := wsX9_move) B.pre
  have hown : s.vm.findClass RX9 = some m.cls := findClass_of_methodNamed B.named
  have hlocks := B.notSynchronized
  have hv := sp p_ h_ season_ ag σ0 hpre
  have hl := lv_entry ([.ref (ad 0), .int p_, .int h_, .int season_]) (n := 4) (Nat.le_of_ble_eq_true rfl)
  rw [lg_entry_eq]
  generalize (lg_sl ([.ref (ad 0), .int p_, .int h_, .int season_]) ++ List.replicate (4 - (lg_sl ([.ref (ad 0), .int p_, .int h_, .int season_])).length) Slot.unset).toArray = ls at hl ⊢
  have hl : lv_has ls 4 [(0, .ref (ad 0)), (1, .int p_), (2, .int h_), (3, .int season_)] := hl
  refine W_gen (fun R Z H locs hR hZ hH hlo => ?_)
  have hRf : R.frames = 2 := by rw [hR]; rfl
  have hRl : R.locals = 46 := by rw [hR]; rfl
  have hRc : R.cells = 0 := by rw [hR]; rfl
  have hRs : R.slots = 0 := by rw [hR]; rfl
  have hS : va_S A s.heap H locs := by rw [hH, hlo]; exact va_S.rf
  rw [← hH] at hP
  obtain ⟨Q, hQ⟩ : ∃ q : Int32 → S_ → Prop, q = (post_X9_move p_ h_ season_ ag σ0) := ⟨_, rfl⟩
  rw [← hQ] at hv
  have hinX9 : ∀ w ∈ wsX90, w ∈ wsX9_move := by decide +kernel
  refine lv_aload_n hx hb dX9_move_0 rfl (lv_at hl 0 rfl) ?_
  refine lv_iload_n hx hb dX9_move_1 rfl (lv_at hl 1 rfl) ?_
  have hp := True.intro
  refine k_read_i (w := wR cy ad) (va_runV (As := [.int p_]) (rest := []) ⟨hx, hb, hml, hown, hts⟩ (h_X9_noPerson D cy ad A p_ σ0 hp) (cwV 1 hts gX9_move_X9_noPerson rfl rfl rfl (by decide +kernel) ⟨le_R hRf (Nat.le_of_ble_eq_true rfl), le_R hRl (Nat.le_of_ble_eq_true rfl)⟩) ⟨(fun a U g mk q => ⟨q.1, q.2.blind⟩), va_recv hK hP (ci := 9) (q0 := 0) rfl (wR_0 cy ad σ0), (fun U hU hW => ⟨rfl, WdR.pre hP hK hD hN hU hW⟩)⟩ rfl rfl hl.1 rfl (lv_room (Nat.le_of_ble_eq_true rfl)) dX9_move_2 ⟨le_R hRc (Nat.le_refl 0), le_R hRs (Nat.le_refl 0)⟩) hS (fun r H locs hr1 hP hS => ?_)
  subst hr1
  refine lv_if_ne (tgt := 15) hx hb dX9_move_5 (by decide) (fun c12 => ?_) (fun c12 => ?_)
  · have hv := hv.1 c12
    refine lv_iconst (v := (-1)) hx hb dX9_move_15 (by decide) ?_
    rw [hZ]; rw [hQ] at hv
    exact W.iret (v := (-1)) hx hb hr (fun t ht hW => ⟨⟨(-1), σ0, rfl, hv, ⟨P_of ht hP, hD⟩⟩, hS.F ht⟩) hS.2.2 dX9_move_16
  · have hv := hv.2 c12
    refine lv_iload_n hx hb dX9_move_8 rfl (lv_at hl 2 rfl) ?_
    refine k_pure_i (va_runS (As := [.int h_]) (rest := []) ⟨hx, hb, hml, hown, hts⟩ (h_X9_noHearth h_) (va_cwS 1 hts gX9_move_X9_noHearth rfl rfl rfl (by decide +kernel) ⟨le_R hRf (Nat.le_of_ble_eq_true rfl), le_R hRl (Nat.le_of_ble_eq_true rfl)⟩) ⟨(fun a U g mk q => ⟨q.1, trivial⟩), (fun U hU hW => ⟨rfl, trivial⟩)⟩ rfl rfl hl.1 rfl (lv_room (Nat.le_of_ble_eq_true rfl)) dX9_move_9 ⟨le_R hRc (Nat.le_refl 0), le_R hRs (Nat.le_refl 0)⟩) hS hP (fun r H locs hr1 hP hS => ?_)
    subst hr1
    refine lv_if_eq (tgt := 17) hx hb dX9_move_12 (by decide) (fun c11 => ?_) (fun c11 => ?_)
    · have hv := hv.1 c11
      refine lv_iload_n hx hb dX9_move_17 rfl (lv_at hl 3 rfl) ?_
      refine k_pure_i (va_runS (As := [.int season_]) (rest := []) ⟨hx, hb, hml, hown, hts⟩ (h_X9_isSeason season_) (va_cwS 1 hts gX9_move_X9_isSeason rfl rfl rfl (by decide +kernel) ⟨le_R hRf (Nat.le_of_ble_eq_true rfl), le_R hRl (Nat.le_of_ble_eq_true rfl)⟩) ⟨(fun a U g mk q => ⟨q.1, trivial⟩), (fun U hU hW => ⟨rfl, trivial⟩)⟩ rfl rfl hl.1 rfl (lv_room (Nat.le_of_ble_eq_true rfl)) dX9_move_18 ⟨le_R hRc (Nat.le_refl 0), le_R hRs (Nat.le_refl 0)⟩) hS hP (fun r H locs hr1 hP hS => ?_)
      subst hr1
      refine lv_if_ne (tgt := 27) hx hb dX9_move_21 (by decide) (fun c10 => ?_) (fun c10 => ?_)
      · have hv := hv.1 c10
        refine lv_aload_n hx hb dX9_move_27 rfl (lv_at hl 0 rfl) ?_
        refine va_get (ci := 9) (v := .int (rdI σ0 7)) (C := RX9) (T := TX9) (N := 38) hx hb hts hinX9 hown hK hP 0 (wR_0 cy ad σ0) rfl 17 (by decide) (hts (.fieldLink RX9 164 "TaleBansModel" "moves" "I") (List.mem_of_getElem? (i := 1) rfl)) (fun x h => h) rfl dX9_move_28 ?_
        refine lv_bipush (v := 8) hx hb dX9_move_31 (by decide) ?_
        refine lv_icmp_ne (tgt := 39) hx hb dX9_move_33 (by decide) (fun c9 => ?_) (fun c9 => ?_)
        · have hv := hv.1 c9
          refine lv_aload_n hx hb dX9_move_39 rfl (lv_at hl 0 rfl) ?_
          refine va_get (ci := 9) (v := .ref (ad (11))) (C := RX9) (T := TX9) (N := 38) hx hb hts hinX9 hown hK hP 0 (wR_0 cy ad σ0) rfl 18 (by decide) (hts (.fieldLink RX9 41 "TaleBansModel" "moveOf" "[I") (List.mem_of_getElem? (i := 2) rfl)) (fun x h => h) rfl dX9_move_40 ?_
          refine lv_aload_n hx hb dX9_move_43 rfl (lv_at hl 0 rfl) ?_
          refine va_get (ci := 9) (v := .int (rdI σ0 7)) (C := RX9) (T := TX9) (N := 38) hx hb hts hinX9 hown hK hP 0 (wR_0 cy ad σ0) rfl 17 (by decide) (hts (.fieldLink RX9 164 "TaleBansModel" "moves" "I") (List.mem_of_getElem? (i := 1) rfl)) (fun x h => h) rfl dX9_move_44 ?_
          refine lv_iload_n hx hb dX9_move_47 rfl (lv_at hl 1 rfl) ?_
          obtain ⟨hi, hv⟩ := hv
          refine va_iast hx hb hK hP hD hS 11 0 (wR_11 cy ad σ0) rfl hi dX9_move_48 (fun H locs hP hD hS => ?_)
          obtain ⟨σ1, e2⟩ : ∃ y : S_, y = wr2 σ0 11 (Int32.toNatClampNeg (rdI σ0 7)) p_ := ⟨_, rfl⟩
          have hP : va_P D vwCl (wR cy ad σ1) H := by rw [e2]; exact hP
          have hD : va_D A (wR cy ad σ1) := by rw [e2]; exact hD
          have hv := hv σ1 e2
          refine lv_aload_n hx hb dX9_move_49 rfl (lv_at hl 0 rfl) ?_
          refine va_get (ci := 9) (v := .ref (ad (12))) (C := RX9) (T := TX9) (N := 38) hx hb hts hinX9 hown hK hP 0 (wR_0 cy ad σ1) rfl 19 (by decide) (hts (.fieldLink RX9 44 "TaleBansModel" "moveTo" "[I") (List.mem_of_getElem? (i := 3) rfl)) (fun x h => h) rfl dX9_move_50 ?_
          refine lv_aload_n hx hb dX9_move_53 rfl (lv_at hl 0 rfl) ?_
          refine va_get (ci := 9) (v := .int (rdI σ1 7)) (C := RX9) (T := TX9) (N := 38) hx hb hts hinX9 hown hK hP 0 (wR_0 cy ad σ1) rfl 17 (by decide) (hts (.fieldLink RX9 164 "TaleBansModel" "moves" "I") (List.mem_of_getElem? (i := 1) rfl)) (fun x h => h) rfl dX9_move_54 ?_
          refine lv_iload_n hx hb dX9_move_57 rfl (lv_at hl 2 rfl) ?_
          obtain ⟨hi, hv⟩ := hv
          refine va_iast hx hb hK hP hD hS 12 0 (wR_12 cy ad σ1) rfl hi dX9_move_58 (fun H locs hP hD hS => ?_)
          obtain ⟨σ3, e4⟩ : ∃ y : S_, y = wr2 σ1 12 (Int32.toNatClampNeg (rdI σ1 7)) h_ := ⟨_, rfl⟩
          have hP : va_P D vwCl (wR cy ad σ3) H := by rw [e4]; exact hP
          have hD : va_D A (wR cy ad σ3) := by rw [e4]; exact hD
          have hv := hv σ3 e4
          refine lv_aload_n hx hb dX9_move_59 rfl (lv_at hl 0 rfl) ?_
          refine va_get (ci := 9) (v := .ref (ad (13))) (C := RX9) (T := TX9) (N := 38) hx hb hts hinX9 hown hK hP 0 (wR_0 cy ad σ3) rfl 20 (by decide) (hts (.fieldLink RX9 47 "TaleBansModel" "moveIn" "[I") (List.mem_of_getElem? (i := 4) rfl)) (fun x h => h) rfl dX9_move_60 ?_
          refine lv_aload_n hx hb dX9_move_63 rfl (lv_at hl 0 rfl) ?_
          refine va_get (ci := 9) (v := .int (rdI σ3 7)) (C := RX9) (T := TX9) (N := 38) hx hb hts hinX9 hown hK hP 0 (wR_0 cy ad σ3) rfl 17 (by decide) (hts (.fieldLink RX9 164 "TaleBansModel" "moves" "I") (List.mem_of_getElem? (i := 1) rfl)) (fun x h => h) rfl dX9_move_64 ?_
          refine lv_iload_n hx hb dX9_move_67 rfl (lv_at hl 3 rfl) ?_
          obtain ⟨hi, hv⟩ := hv
          refine va_iast hx hb hK hP hD hS 13 0 (wR_13 cy ad σ3) rfl hi dX9_move_68 (fun H locs hP hD hS => ?_)
          obtain ⟨σ5, e6⟩ : ∃ y : S_, y = wr2 σ3 13 (Int32.toNatClampNeg (rdI σ3 7)) season_ := ⟨_, rfl⟩
          have hP : va_P D vwCl (wR cy ad σ5) H := by rw [e6]; exact hP
          have hD : va_D A (wR cy ad σ5) := by rw [e6]; exact hD
          have hv := hv σ5 e6
          refine lv_aload_n hx hb dX9_move_69 rfl (lv_at hl 0 rfl) ?_
          refine lv_dup hx hb dX9_move_70 rfl ?_
          refine va_get (ci := 9) (v := .int (rdI σ5 7)) (C := RX9) (T := TX9) (N := 38) hx hb hts hinX9 hown hK hP 0 (wR_0 cy ad σ5) rfl 17 (by decide) (hts (.fieldLink RX9 164 "TaleBansModel" "moves" "I") (List.mem_of_getElem? (i := 1) rfl)) (fun x h => h) rfl dX9_move_71 ?_
          refine lv_iconst (v := 1) hx hb dX9_move_74 (by decide) ?_
          refine lv_iadd hx hb dX9_move_75 ?_
          refine va_put (ci := 9) (v := .int ((rdI σ5 7) + 1)) (ty := .int) (C := RX9) (T := TX9) (N := 38) hx hb hts hinX9 tyX9 tyX9_ok nmX9 hown hK hP hD hS 0 (wR_0 cy ad σ5) rfl 17 (by decide) (hts (.fieldLink RX9 164 "TaleBansModel" "moves" "I") (List.mem_of_getElem? (i := 1) rfl)) (fun x h => h) rfl (by decide +kernel) rfl rfl (Nat.le_of_ble_eq_true rfl) dX9_move_76 (fun H locs hP hD hS => ?_)
          obtain ⟨σ7, e8⟩ : ∃ y : S_, y = wrI σ5 7 ((rdI σ5 7) + 1) := ⟨_, rfl⟩
          have hP : va_P D vwCl (wR cy ad σ7) H := by rw [e8]; exact hP
          have hD : va_D A (wR cy ad σ7) := by rw [e8]; exact hD
          have hv := hv σ7 e8
          refine lv_aload_n hx hb dX9_move_79 rfl (lv_at hl 0 rfl) ?_
          refine va_get (ci := 9) (v := .int (rdI σ7 7)) (C := RX9) (T := TX9) (N := 38) hx hb hts hinX9 hown hK hP 0 (wR_0 cy ad σ7) rfl 17 (by decide) (hts (.fieldLink RX9 164 "TaleBansModel" "moves" "I") (List.mem_of_getElem? (i := 1) rfl)) (fun x h => h) rfl dX9_move_80 ?_
          refine lv_iconst (v := 1) hx hb dX9_move_83 (by decide) ?_
          refine lv_isub hx hb dX9_move_84 ?_
          rw [hZ]; rw [hQ] at hv
          exact W.iret (v := ((rdI σ7 7) - 1)) hx hb hr (fun t ht hW => ⟨⟨((rdI σ7 7) - 1), σ7, rfl, hv, ⟨P_of ht hP, hD⟩⟩, hS.F ht⟩) hS.2.2 dX9_move_85
        · have hv := hv.2 c9
          refine lv_bipush (v := (-4)) hx hb dX9_move_36 (by decide) ?_
          rw [hZ]; rw [hQ] at hv
          exact W.iret (v := (-4)) hx hb hr (fun t ht hW => ⟨⟨(-4), σ0, rfl, hv, ⟨P_of ht hP, hD⟩⟩, hS.F ht⟩) hS.2.2 dX9_move_38
      · have hv := hv.2 c10
        refine lv_bipush (v := (-2)) hx hb dX9_move_24 (by decide) ?_
        rw [hZ]; rw [hQ] at hv
        exact W.iret (v := (-2)) hx hb hr (fun t ht hW => ⟨⟨(-2), σ0, rfl, hv, ⟨P_of ht hP, hD⟩⟩, hS.F ht⟩) hS.2.2 dX9_move_26
    · have hv := hv.2 c11
      refine lv_iconst (v := (-1)) hx hb dX9_move_15 (by decide) ?_
      rw [hZ]; rw [hQ] at hv
      exact W.iret (v := (-1)) hx hb hr (fun t ht hW => ⟨⟨(-1), σ0, rfl, hv, ⟨P_of ht hP, hD⟩⟩, hS.F ht⟩) hS.2.2 dX9_move_16
set_option maxHeartbeats 4000000 in
set_option maxRecDepth 100000 in
theorem wk_X9_unmove (l : Launch) (h_X9_in : Ct_X9_in l) (sp : ∀ (k_ : Int32) (ag : AS) (σ0 : S_), pre_X9_unmove k_ ag σ0 → vc_X9_unmove k_ σ0 (post_X9_unmove k_ ag σ0)) : Ct_X9_unmove l := by
  intro D cy ad A k_ ag σ0  hpre
  refine Met.ofW (cc := cX9_unmove) (maxL := 2) (ret := (some .int)) (by decide) rfl ?_
  intro p e s m args below meth c s₁ B hml hv0
  obtain ⟨rfl, hP, hK, hD, hN⟩ := hv0
  have hx := B.exec
  have hb := B.bytes
  have hr := B.returns
  have hts := atoms_spec (ws := wsX9_unmove) B.pre
  have hown : s.vm.findClass RX9 = some m.cls := findClass_of_methodNamed B.named
  have hlocks := B.notSynchronized
  have hv := sp k_ ag σ0 hpre
  have hl := lv_entry ([.ref (ad 0), .int k_]) (n := 2) (Nat.le_of_ble_eq_true rfl)
  rw [lg_entry_eq]
  generalize (lg_sl ([.ref (ad 0), .int k_]) ++ List.replicate (2 - (lg_sl ([.ref (ad 0), .int k_])).length) Slot.unset).toArray = ls at hl ⊢
  have hl : lv_has ls 2 [(0, .ref (ad 0)), (1, .int k_)] := hl
  refine W_gen (fun R Z H locs hR hZ hH hlo => ?_)
  have hRf : R.frames = 1 := by rw [hR]; rfl
  have hRl : R.locals = 25 := by rw [hR]; rfl
  have hRc : R.cells = 0 := by rw [hR]; rfl
  have hRs : R.slots = 0 := by rw [hR]; rfl
  have hS : va_S A s.heap H locs := by rw [hH, hlo]; exact va_S.rf
  rw [← hH] at hP
  obtain ⟨Q, hQ⟩ : ∃ q : Int32 → S_ → Prop, q = (post_X9_unmove k_ ag σ0) := ⟨_, rfl⟩
  rw [← hQ] at hv
  have hinX9 : ∀ w ∈ wsX90, w ∈ wsX9_unmove := by decide +kernel
  refine lv_iload_n hx hb dX9_unmove_0 rfl (lv_at hl 1 rfl) ?_
  refine lv_i2l hx hb dX9_unmove_1 rfl ?_
  refine lv_lconst (v := 0) hx hb dX9_unmove_2 rfl ?_
  refine lv_aload_n hx hb dX9_unmove_3 rfl (lv_at hl 0 rfl) ?_
  refine va_get (ci := 9) (v := .int (rdI σ0 7)) (C := RX9) (T := TX9) (N := 38) hx hb hts hinX9 hown hK hP 0 (wR_0 cy ad σ0) rfl 17 (by decide) (hts (.fieldLink RX9 164 "TaleBansModel" "moves" "I") (List.mem_of_getElem? (i := 1) rfl)) (fun x h => h) rfl dX9_unmove_4 ?_
  refine lv_i2l hx hb dX9_unmove_7 rfl ?_
  refine k_pure_i (va_runS (As := [.long (Int32.toInt64 k_), .long 0, .long (Int32.toInt64 (rdI σ0 7))]) (rest := []) ⟨hx, hb, hml, hown, hts⟩ (h_X9_in (Int32.toInt64 k_) 0 (Int32.toInt64 (rdI σ0 7))) (va_cwS 3 hts gX9_unmove_X9_in rfl rfl rfl (by decide +kernel) ⟨le_R hRf (Nat.le_of_ble_eq_true rfl), le_R hRl (Nat.le_of_ble_eq_true rfl)⟩) ⟨(fun a U g mk q => ⟨q.1, trivial⟩), (fun U hU hW => ⟨rfl, trivial⟩)⟩ rfl rfl hl.1 rfl (lv_room (Nat.le_of_ble_eq_true rfl)) dX9_unmove_8 ⟨le_R hRc (Nat.le_refl 0), le_R hRs (Nat.le_refl 0)⟩) hS hP (fun r H locs hr1 hP hS => ?_)
  subst hr1
  refine lv_if_ne (tgt := 17) hx hb dX9_unmove_11 (by decide) (fun c3 => ?_) (fun c3 => ?_)
  · have hv := hv.1 c3
    refine lv_aload_n hx hb dX9_unmove_17 rfl (lv_at hl 0 rfl) ?_
    refine lv_dup hx hb dX9_unmove_18 rfl ?_
    refine va_get (ci := 9) (v := .int (rdI σ0 7)) (C := RX9) (T := TX9) (N := 38) hx hb hts hinX9 hown hK hP 0 (wR_0 cy ad σ0) rfl 17 (by decide) (hts (.fieldLink RX9 164 "TaleBansModel" "moves" "I") (List.mem_of_getElem? (i := 1) rfl)) (fun x h => h) rfl dX9_unmove_19 ?_
    refine lv_iload_n hx hb dX9_unmove_22 rfl (lv_at hl 1 rfl) ?_
    refine lv_isub hx hb dX9_unmove_23 ?_
    refine va_put (ci := 9) (v := .int ((rdI σ0 7) - k_)) (ty := .int) (C := RX9) (T := TX9) (N := 38) hx hb hts hinX9 tyX9 tyX9_ok nmX9 hown hK hP hD hS 0 (wR_0 cy ad σ0) rfl 17 (by decide) (hts (.fieldLink RX9 164 "TaleBansModel" "moves" "I") (List.mem_of_getElem? (i := 1) rfl)) (fun x h => h) rfl (by decide +kernel) rfl rfl (Nat.le_of_ble_eq_true rfl) dX9_unmove_24 (fun H locs hP hD hS => ?_)
    obtain ⟨σ1, e2⟩ : ∃ y : S_, y = wrI σ0 7 ((rdI σ0 7) - k_) := ⟨_, rfl⟩
    have hP : va_P D vwCl (wR cy ad σ1) H := by rw [e2]; exact hP
    have hD : va_D A (wR cy ad σ1) := by rw [e2]; exact hD
    have hv := hv σ1 e2
    refine lv_aload_n hx hb dX9_unmove_27 rfl (lv_at hl 0 rfl) ?_
    refine va_get (ci := 9) (v := .int (rdI σ1 7)) (C := RX9) (T := TX9) (N := 38) hx hb hts hinX9 hown hK hP 0 (wR_0 cy ad σ1) rfl 17 (by decide) (hts (.fieldLink RX9 164 "TaleBansModel" "moves" "I") (List.mem_of_getElem? (i := 1) rfl)) (fun x h => h) rfl dX9_unmove_28 ?_
    rw [hZ]; rw [hQ] at hv
    exact W.iret (v := (rdI σ1 7)) hx hb hr (fun t ht hW => ⟨⟨(rdI σ1 7), σ1, rfl, hv, ⟨P_of ht hP, hD⟩⟩, hS.F ht⟩) hS.2.2 dX9_unmove_31
  · have hv := hv.2 c3
    refine lv_bipush (v := (-2)) hx hb dX9_unmove_14 (by decide) ?_
    rw [hZ]; rw [hQ] at hv
    exact W.iret (v := (-2)) hx hb hr (fun t ht hW => ⟨⟨(-2), σ0, rfl, hv, ⟨P_of ht hP, hD⟩⟩, hS.F ht⟩) hS.2.2 dX9_unmove_16
set_option maxHeartbeats 4000000 in
set_option maxRecDepth 100000 in
theorem wk_X9_law (l : Launch) (h_X9_in : Ct_X9_in l) (sp : ∀ (v_ : Int32) (ag : AS) (σ0 : S_), pre_X9_law v_ ag σ0 → vc_X9_law v_ σ0 (post_X9_law v_ ag σ0)) : Ct_X9_law l := by
  intro D cy ad A v_ ag σ0  hpre
  refine Met.ofW (cc := cX9_law) (maxL := 3) (ret := (some .int)) (by decide) rfl ?_
  intro p e s m args below meth c s₁ B hml hv0
  obtain ⟨rfl, hP, hK, hD, hN⟩ := hv0
  have hx := B.exec
  have hb := B.bytes
  have hr := B.returns
  have hts := atoms_spec (ws := wsX9_law) B.pre
  have hown : s.vm.findClass RX9 = some m.cls := findClass_of_methodNamed B.named
  have hlocks := B.notSynchronized
  have hv := sp v_ ag σ0 hpre
  have hl := lv_entry ([.ref (ad 0), .int v_]) (n := 3) (Nat.le_of_ble_eq_true rfl)
  rw [lg_entry_eq]
  generalize (lg_sl ([.ref (ad 0), .int v_]) ++ List.replicate (3 - (lg_sl ([.ref (ad 0), .int v_])).length) Slot.unset).toArray = ls at hl ⊢
  have hl : lv_has ls 3 [(0, .ref (ad 0)), (1, .int v_)] := hl
  refine W_gen (fun R Z H locs hR hZ hH hlo => ?_)
  have hRf : R.frames = 1 := by rw [hR]; rfl
  have hRl : R.locals = 25 := by rw [hR]; rfl
  have hRc : R.cells = 0 := by rw [hR]; rfl
  have hRs : R.slots = 0 := by rw [hR]; rfl
  have hS : va_S A s.heap H locs := by rw [hH, hlo]; exact va_S.rf
  rw [← hH] at hP
  obtain ⟨Q, hQ⟩ : ∃ q : Int32 → S_ → Prop, q = (post_X9_law v_ ag σ0) := ⟨_, rfl⟩
  rw [← hQ] at hv
  have hinX9 : ∀ w ∈ wsX90, w ∈ wsX9_law := by decide +kernel
  refine lv_iload_n hx hb dX9_law_0 rfl (lv_at hl 1 rfl) ?_
  refine lv_i2l hx hb dX9_law_1 rfl ?_
  refine lv_lconst (v := 0) hx hb dX9_law_2 rfl ?_
  refine lv_ldc2 (v := (2)) hx hb hown (hts (.constantLong RX9 114 (2)) (List.mem_of_getElem? (i := 1) rfl)) dX9_law_3 ?_
  refine k_pure_i (va_runS (As := [.long (Int32.toInt64 v_), .long 0, .long (2)]) (rest := []) ⟨hx, hb, hml, hown, hts⟩ (h_X9_in (Int32.toInt64 v_) 0 (2)) (va_cwS 3 hts gX9_law_X9_in rfl rfl rfl (by decide +kernel) ⟨le_R hRf (Nat.le_of_ble_eq_true rfl), le_R hRl (Nat.le_of_ble_eq_true rfl)⟩) ⟨(fun a U g mk q => ⟨q.1, trivial⟩), (fun U hU hW => ⟨rfl, trivial⟩)⟩ rfl rfl hl.1 rfl (lv_room (Nat.le_of_ble_eq_true rfl)) dX9_law_6 ⟨le_R hRc (Nat.le_refl 0), le_R hRs (Nat.le_refl 0)⟩) hS hP (fun r H locs hr1 hP hS => ?_)
  subst hr1
  refine lv_if_ne (tgt := 15) hx hb dX9_law_9 (by decide) (fun c4 => ?_) (fun c4 => ?_)
  · have hv := hv.1 c4
    refine lv_aload_n hx hb dX9_law_15 rfl (lv_at hl 0 rfl) ?_
    refine va_get (ci := 9) (v := .int (rdI σ0 1)) (C := RX9) (T := TX9) (N := 38) hx hb hts hinX9 hown hK hP 0 (wR_0 cy ad σ0) rfl 1 (by decide) (hts (.fieldLink RX9 102 "TaleBansModel" "persons" "I") (List.mem_of_getElem? (i := 2) rfl)) (fun x h => h) rfl dX9_law_16 ?_
    refine lv_if_ne (tgt := 25) hx hb dX9_law_19 (by decide) (fun c3 => ?_) (fun c3 => ?_)
    · have hv := hv.1 c3
      refine lv_aload_n hx hb dX9_law_25 rfl (lv_at hl 0 rfl) ?_
      refine va_get (ci := 9) (v := .int (rdI σ0 3)) (C := RX9) (T := TX9) (N := 38) hx hb hts hinX9 hown hK hP 0 (wR_0 cy ad σ0) rfl 6 (by decide) (hts (.fieldLink RX9 161 "TaleBansModel" "lawNow" "I") (List.mem_of_getElem? (i := 3) rfl)) (fun x h => h) rfl dX9_law_26 ?_
      refine lv_istore_n (lv' := [(2, .int (rdI σ0 3)), (0, .ref (ad 0)), (1, .int v_)]) hx hb dX9_law_29 rfl hl (by decide) rfl (fun ls hl => ?_)
      refine lv_aload_n hx hb dX9_law_30 rfl (lv_at hl 1 rfl) ?_
      refine lv_iload_n hx hb dX9_law_31 rfl (lv_at hl 2 rfl) ?_
      refine va_put (ci := 9) (v := .int v_) (ty := .int) (C := RX9) (T := TX9) (N := 38) hx hb hts hinX9 tyX9 tyX9_ok nmX9 hown hK hP hD hS 0 (wR_0 cy ad σ0) rfl 6 (by decide) (hts (.fieldLink RX9 161 "TaleBansModel" "lawNow" "I") (List.mem_of_getElem? (i := 3) rfl)) (fun x h => h) rfl (by decide +kernel) rfl rfl (Nat.le_of_ble_eq_true rfl) dX9_law_32 (fun H locs hP hD hS => ?_)
      obtain ⟨σ1, e2⟩ : ∃ y : S_, y = wrI σ0 3 v_ := ⟨_, rfl⟩
      have hP : va_P D vwCl (wR cy ad σ1) H := by rw [e2]; exact hP
      have hD : va_D A (wR cy ad σ1) := by rw [e2]; exact hD
      have hv := hv σ1 e2
      refine lv_iload_n hx hb dX9_law_35 rfl (lv_at hl 0 rfl) ?_
      rw [hZ]; rw [hQ] at hv
      exact W.iret (v := (rdI σ0 3)) hx hb hr (fun t ht hW => ⟨⟨(rdI σ0 3), σ1, rfl, hv, ⟨P_of ht hP, hD⟩⟩, hS.F ht⟩) hS.2.2 dX9_law_36
    · have hv := hv.2 c3
      refine lv_bipush (v := (-3)) hx hb dX9_law_22 (by decide) ?_
      rw [hZ]; rw [hQ] at hv
      exact W.iret (v := (-3)) hx hb hr (fun t ht hW => ⟨⟨(-3), σ0, rfl, hv, ⟨P_of ht hP, hD⟩⟩, hS.F ht⟩) hS.2.2 dX9_law_24
  · have hv := hv.2 c4
    refine lv_bipush (v := (-2)) hx hb dX9_law_12 (by decide) ?_
    rw [hZ]; rw [hQ] at hv
    exact W.iret (v := (-2)) hx hb hr (fun t ht hW => ⟨⟨(-2), σ0, rfl, hv, ⟨P_of ht hP, hD⟩⟩, hS.F ht⟩) hS.2.2 dX9_law_14
set_option maxHeartbeats 4000000 in
set_option maxRecDepth 100000 in
theorem wk_X9_pay (l : Launch) (h_X9_isIn : Ct_X9_isIn l) (h_X9_noPerson : Ct_X9_noPerson l) (sp : ∀ (p_ : Int32) (is_ : Int32) (ag : AS) (σ0 : S_), pre_X9_pay p_ is_ ag σ0 → vc_X9_pay p_ is_ σ0 (post_X9_pay p_ is_ ag σ0)) : Ct_X9_pay l := by
  intro D cy ad A p_ is_ ag σ0  hpre
  refine Met.ofW (cc := cX9_pay) (maxL := 4) (ret := (some .int)) (by decide) rfl ?_
  intro p e s m args below meth c s₁ B hml hv0
  obtain ⟨rfl, hP, hK, hD, hN⟩ := hv0
  have hx := B.exec
  have hb := B.bytes
  have hr := B.returns
  have hts := atoms_spec (ws := wsX9_pay) B.pre
  have hown : s.vm.findClass RX9 = some m.cls := findClass_of_methodNamed B.named
  have hlocks := B.notSynchronized
  have hv := sp p_ is_ ag σ0 hpre
  have hl := lv_entry ([.ref (ad 0), .int p_, .int is_]) (n := 4) (Nat.le_of_ble_eq_true rfl)
  rw [lg_entry_eq]
  generalize (lg_sl ([.ref (ad 0), .int p_, .int is_]) ++ List.replicate (4 - (lg_sl ([.ref (ad 0), .int p_, .int is_])).length) Slot.unset).toArray = ls at hl ⊢
  have hl : lv_has ls 4 [(0, .ref (ad 0)), (1, .int p_), (2, .int is_)] := hl
  refine W_gen (fun R Z H locs hR hZ hH hlo => ?_)
  have hRf : R.frames = 2 := by rw [hR]; rfl
  have hRl : R.locals = 46 := by rw [hR]; rfl
  have hRc : R.cells = 0 := by rw [hR]; rfl
  have hRs : R.slots = 0 := by rw [hR]; rfl
  have hS : va_S A s.heap H locs := by rw [hH, hlo]; exact va_S.rf
  rw [← hH] at hP
  obtain ⟨Q, hQ⟩ : ∃ q : Int32 → S_ → Prop, q = (post_X9_pay p_ is_ ag σ0) := ⟨_, rfl⟩
  rw [← hQ] at hv
  have hinX9 : ∀ w ∈ wsX90, w ∈ wsX9_pay := by decide +kernel
  refine lv_aload_n hx hb dX9_pay_0 rfl (lv_at hl 0 rfl) ?_
  refine lv_iload_n hx hb dX9_pay_1 rfl (lv_at hl 1 rfl) ?_
  have hp := True.intro
  refine k_read_i (w := wR cy ad) (va_runV (As := [.int p_]) (rest := []) ⟨hx, hb, hml, hown, hts⟩ (h_X9_noPerson D cy ad A p_ σ0 hp) (cwV 1 hts gX9_pay_X9_noPerson rfl rfl rfl (by decide +kernel) ⟨le_R hRf (Nat.le_of_ble_eq_true rfl), le_R hRl (Nat.le_of_ble_eq_true rfl)⟩) ⟨(fun a U g mk q => ⟨q.1, q.2.blind⟩), va_recv hK hP (ci := 9) (q0 := 0) rfl (wR_0 cy ad σ0), (fun U hU hW => ⟨rfl, WdR.pre hP hK hD hN hU hW⟩)⟩ rfl rfl hl.1 rfl (lv_room (Nat.le_of_ble_eq_true rfl)) dX9_pay_2 ⟨le_R hRc (Nat.le_refl 0), le_R hRs (Nat.le_refl 0)⟩) hS (fun r H locs hr1 hP hS => ?_)
  subst hr1
  refine lv_if_eq (tgt := 10) hx hb dX9_pay_5 (by decide) (fun c8 => ?_) (fun c8 => ?_)
  · have hv := hv.1 c8
    refine lv_aload_n hx hb dX9_pay_10 rfl (lv_at hl 0 rfl) ?_
    refine va_get (ci := 9) (v := .int (rdI σ0 2)) (C := RX9) (T := TX9) (N := 38) hx hb hts hinX9 hown hK hP 0 (wR_0 cy ad σ0) rfl 5 (by decide) (hts (.fieldLink RX9 158 "TaleBansModel" "paidNow" "I") (List.mem_of_getElem? (i := 1) rfl)) (fun x h => h) rfl dX9_pay_11 ?_
    refine lv_iload_n hx hb dX9_pay_14 rfl (lv_at hl 1 rfl) ?_
    refine k_pure_i (va_runS (As := [.int (rdI σ0 2), .int p_]) (rest := []) ⟨hx, hb, hml, hown, hts⟩ (h_X9_isIn (rdI σ0 2) p_) (va_cwS 2 hts gX9_pay_X9_isIn rfl rfl rfl (by decide +kernel) ⟨le_R hRf (Nat.le_of_ble_eq_true rfl), le_R hRl (Nat.le_of_ble_eq_true rfl)⟩) ⟨(fun a U g mk q => ⟨q.1, trivial⟩), (fun U hU hW => ⟨rfl, trivial⟩)⟩ rfl rfl hl.1 rfl (lv_room (Nat.le_of_ble_eq_true rfl)) dX9_pay_15 ⟨le_R hRc (Nat.le_refl 0), le_R hRs (Nat.le_refl 0)⟩) hS hP (fun r H locs hr1 hP hS => ?_)
    subst hr1
    refine lv_istore_n (lv' := [(3, .int (fn_X9_isIn (rdI σ0 2) p_)), (0, .ref (ad 0)), (1, .int p_), (2, .int is_)]) hx hb dX9_pay_18 rfl hl (by decide) rfl (fun ls hl => ?_)
    refine lv_aload_n hx hb dX9_pay_19 rfl (lv_at hl 1 rfl) ?_
    refine lv_iload_n hx hb dX9_pay_20 rfl (lv_at hl 3 rfl) ?_
    obtain ⟨P1, hv, hvr⟩ := hv
    have jn2 : ∀ (b3 : Int32) (H : Heap) (locs : List Loc) (ls : Array Slot), P1 b3 → va_P D vwCl (wR cy ad σ0) H → va_S A s.heap H locs → lv_has ls 4 [(3, .int (fn_X9_isIn (rdI σ0 2) p_)), (0, .ref (ad 0)), (1, .int p_), (2, .int is_)] → W p l e R s m ([.ref (ad 0), .int p_, .int is_] : List Value).toArray below meth c H locs 0 0 Z (F0 m 45 ls [.int b3, .ref (ad 0)]) := by
      intro b3 H locs ls hv hP hS hl
      have hv := hvr b3 hv
      refine va_put (ci := 9) (v := .int b3) (ty := .int) (C := RX9) (T := TX9) (N := 38) hx hb hts hinX9 tyX9 tyX9_ok nmX9 hown hK hP hD hS 0 (wR_0 cy ad σ0) rfl 5 (by decide) (hts (.fieldLink RX9 158 "TaleBansModel" "paidNow" "I") (List.mem_of_getElem? (i := 1) rfl)) (fun x h => h) rfl (by decide +kernel) rfl rfl (Nat.le_of_ble_eq_true rfl) dX9_pay_45 (fun H locs hP hD hS => ?_)
      obtain ⟨σ5, e6⟩ : ∃ y : S_, y = wrI σ0 2 b3 := ⟨_, rfl⟩
      have hP : va_P D vwCl (wR cy ad σ5) H := by rw [e6]; exact hP
      have hD : va_D A (wR cy ad σ5) := by rw [e6]; exact hD
      have hv := hv σ5 e6
      refine lv_iload_n hx hb dX9_pay_48 rfl (lv_at hl 0 rfl) ?_
      refine lv_iload_n hx hb dX9_pay_49 rfl (lv_at hl 3 rfl) ?_
      refine lv_icmp_ne (tgt := 57) hx hb dX9_pay_50 (by decide) (fun c7 => ?_) (fun c7 => ?_)
      · have hv := hv.1 c7
        refine lv_iconst (v := 1) hx hb dX9_pay_57 (by decide) ?_
        rw [hZ]; rw [hQ] at hv
        exact W.iret (v := 1) hx hb hr (fun t ht hW => ⟨⟨1, σ5, rfl, hv, ⟨P_of ht hP, hD⟩⟩, hS.F ht⟩) hS.2.2 dX9_pay_58
      · have hv := hv.2 c7
        refine lv_iconst (v := 0) hx hb dX9_pay_53 (by decide) ?_
        refine lv_goto (tgt := 58) hx hb dX9_pay_54 (by decide) ?_
        rw [hZ]; rw [hQ] at hv
        exact W.iret (v := 0) hx hb hr (fun t ht hW => ⟨⟨0, σ5, rfl, hv, ⟨P_of ht hP, hD⟩⟩, hS.F ht⟩) hS.2.2 dX9_pay_58
    refine lv_if_eq (tgt := 35) hx hb dX9_pay_21 (by decide) (fun c4 => ?_) (fun c4 => ?_)
    · have hv := hv.1 c4
      refine lv_aload_n hx hb dX9_pay_35 rfl (lv_at hl 1 rfl) ?_
      refine va_get (ci := 9) (v := .int (rdI σ0 2)) (C := RX9) (T := TX9) (N := 38) hx hb hts hinX9 hown hK hP 0 (wR_0 cy ad σ0) rfl 5 (by decide) (hts (.fieldLink RX9 158 "TaleBansModel" "paidNow" "I") (List.mem_of_getElem? (i := 1) rfl)) (fun x h => h) rfl dX9_pay_36 ?_
      refine lv_iconst (v := 1) hx hb dX9_pay_39 (by decide) ?_
      refine lv_iload_n hx hb dX9_pay_40 rfl (lv_at hl 2 rfl) ?_
      refine lv_ishl hx hb dX9_pay_41 ?_
      refine lv_iconst (v := (-1)) hx hb dX9_pay_42 (by decide) ?_
      refine lv_ixor hx hb dX9_pay_43 ?_
      refine lv_iand hx hb dX9_pay_44 ?_
      exact jn2 ((rdI σ0 2) &&& ((1 <<< (p_ &&& 31)) ^^^ (-1))) _ _ _ hv hP hS hl
    · have hv := hv.2 c4
      refine lv_aload_n hx hb dX9_pay_24 rfl (lv_at hl 1 rfl) ?_
      refine va_get (ci := 9) (v := .int (rdI σ0 2)) (C := RX9) (T := TX9) (N := 38) hx hb hts hinX9 hown hK hP 0 (wR_0 cy ad σ0) rfl 5 (by decide) (hts (.fieldLink RX9 158 "TaleBansModel" "paidNow" "I") (List.mem_of_getElem? (i := 1) rfl)) (fun x h => h) rfl dX9_pay_25 ?_
      refine lv_iconst (v := 1) hx hb dX9_pay_28 (by decide) ?_
      refine lv_iload_n hx hb dX9_pay_29 rfl (lv_at hl 2 rfl) ?_
      refine lv_ishl hx hb dX9_pay_30 ?_
      refine lv_ior hx hb dX9_pay_31 ?_
      refine lv_goto (tgt := 45) hx hb dX9_pay_32 (by decide) ?_
      exact jn2 ((rdI σ0 2) ||| (1 <<< (p_ &&& 31))) _ _ _ hv hP hS hl
  · have hv := hv.2 c8
    refine lv_iconst (v := (-1)) hx hb dX9_pay_8 (by decide) ?_
    rw [hZ]; rw [hQ] at hv
    exact W.iret (v := (-1)) hx hb hr (fun t ht hW => ⟨⟨(-1), σ0, rfl, hv, ⟨P_of ht hP, hD⟩⟩, hS.F ht⟩) hS.2.2 dX9_pay_9
set_option maxHeartbeats 4000000 in
set_option maxRecDepth 100000 in
theorem wk_X9_parody (l : Launch) (h_X9_noTale : Ct_X9_noTale l) (sp : ∀ (t_ : Int32) (is_ : Int32) (ag : AS) (σ0 : S_), pre_X9_parody t_ is_ ag σ0 → vc_X9_parody t_ is_ σ0 (post_X9_parody t_ is_ ag σ0)) : Ct_X9_parody l := by
  intro D cy ad A t_ is_ ag σ0  hpre
  refine Met.ofW (cc := cX9_parody) (maxL := 4) (ret := (some .int)) (by decide) rfl ?_
  intro p e s m args below meth c s₁ B hml hv0
  obtain ⟨rfl, hP, hK, hD, hN⟩ := hv0
  have hx := B.exec
  have hb := B.bytes
  have hr := B.returns
  have hts := atoms_spec (ws := wsX9_parody) B.pre
  have hown : s.vm.findClass RX9 = some m.cls := findClass_of_methodNamed B.named
  have hlocks := B.notSynchronized
  have hv := sp t_ is_ ag σ0 hpre
  have hl := lv_entry ([.ref (ad 0), .int t_, .int is_]) (n := 4) (Nat.le_of_ble_eq_true rfl)
  rw [lg_entry_eq]
  generalize (lg_sl ([.ref (ad 0), .int t_, .int is_]) ++ List.replicate (4 - (lg_sl ([.ref (ad 0), .int t_, .int is_])).length) Slot.unset).toArray = ls at hl ⊢
  have hl : lv_has ls 4 [(0, .ref (ad 0)), (1, .int t_), (2, .int is_)] := hl
  refine W_gen (fun R Z H locs hR hZ hH hlo => ?_)
  have hRf : R.frames = 2 := by rw [hR]; rfl
  have hRl : R.locals = 46 := by rw [hR]; rfl
  have hRc : R.cells = 0 := by rw [hR]; rfl
  have hRs : R.slots = 0 := by rw [hR]; rfl
  have hS : va_S A s.heap H locs := by rw [hH, hlo]; exact va_S.rf
  rw [← hH] at hP
  obtain ⟨Q, hQ⟩ : ∃ q : Int32 → S_ → Prop, q = (post_X9_parody t_ is_ ag σ0) := ⟨_, rfl⟩
  rw [← hQ] at hv
  have hinX9 : ∀ w ∈ wsX90, w ∈ wsX9_parody := by decide +kernel
  refine lv_aload_n hx hb dX9_parody_0 rfl (lv_at hl 0 rfl) ?_
  refine lv_iload_n hx hb dX9_parody_1 rfl (lv_at hl 1 rfl) ?_
  have hp := True.intro
  refine k_read_i (w := wR cy ad) (va_runV (As := [.int t_]) (rest := []) ⟨hx, hb, hml, hown, hts⟩ (h_X9_noTale D cy ad A t_ σ0 hp) (cwV 1 hts gX9_parody_X9_noTale rfl rfl rfl (by decide +kernel) ⟨le_R hRf (Nat.le_of_ble_eq_true rfl), le_R hRl (Nat.le_of_ble_eq_true rfl)⟩) ⟨(fun a U g mk q => ⟨q.1, q.2.blind⟩), va_recv hK hP (ci := 9) (q0 := 0) rfl (wR_0 cy ad σ0), (fun U hU hW => ⟨rfl, WdR.pre hP hK hD hN hU hW⟩)⟩ rfl rfl hl.1 rfl (lv_room (Nat.le_of_ble_eq_true rfl)) dX9_parody_2 ⟨le_R hRc (Nat.le_refl 0), le_R hRs (Nat.le_refl 0)⟩) hS (fun r H locs hr1 hP hS => ?_)
  subst hr1
  refine lv_if_eq (tgt := 10) hx hb dX9_parody_5 (by decide) (fun c4 => ?_) (fun c4 => ?_)
  · have hv := hv.1 c4
    refine lv_aload_n hx hb dX9_parody_10 rfl (lv_at hl 0 rfl) ?_
    refine va_get (ci := 9) (v := .ref (ad (10))) (C := RX9) (T := TX9) (N := 38) hx hb hts hinX9 hown hK hP 0 (wR_0 cy ad σ0) rfl 16 (by decide) (hts (.fieldLink RX9 37 "TaleBansModel" "isParody" "[Z") (List.mem_of_getElem? (i := 1) rfl)) (fun x h => h) rfl dX9_parody_11 ?_
    refine lv_iload_n hx hb dX9_parody_14 rfl (lv_at hl 1 rfl) ?_
    obtain ⟨hi, hv⟩ := hv
    refine va_zald hx hb hK hP 10 1 (wR_10 cy ad σ0) rfl hi dX9_parody_15 ?_
    refine lv_istore_n (lv' := [(3, .int (rdA σ0 10 (Int32.toNatClampNeg t_))), (0, .ref (ad 0)), (1, .int t_), (2, .int is_)]) hx hb dX9_parody_16 rfl hl (by decide) rfl (fun ls hl => ?_)
    refine lv_aload_n hx hb dX9_parody_17 rfl (lv_at hl 1 rfl) ?_
    refine va_get (ci := 9) (v := .ref (ad (10))) (C := RX9) (T := TX9) (N := 38) hx hb hts hinX9 hown hK hP 0 (wR_0 cy ad σ0) rfl 16 (by decide) (hts (.fieldLink RX9 37 "TaleBansModel" "isParody" "[Z") (List.mem_of_getElem? (i := 1) rfl)) (fun x h => h) rfl dX9_parody_18 ?_
    refine lv_iload_n hx hb dX9_parody_21 rfl (lv_at hl 2 rfl) ?_
    refine lv_iload_n hx hb dX9_parody_22 rfl (lv_at hl 3 rfl) ?_
    obtain ⟨hi, hv⟩ := hv
    refine va_zast hx hb hK hP hD hS 10 1 (wR_10 cy ad σ0) rfl hi dX9_parody_23 (fun H locs hP hD hS => ?_)
    obtain ⟨σ1, e2⟩ : ∃ y : S_, y = wr2 σ0 10 (Int32.toNatClampNeg t_) (vp_nar .boolean is_) := ⟨_, rfl⟩
    have hP : va_P D vwCl (wR cy ad σ1) H := by rw [e2]; exact hP
    have hD : va_D A (wR cy ad σ1) := by rw [e2]; exact hD
    have hv := hv σ1 e2
    refine lv_iload_n hx hb dX9_parody_24 rfl (lv_at hl 0 rfl) ?_
    refine lv_iload_n hx hb dX9_parody_25 rfl (lv_at hl 3 rfl) ?_
    refine lv_icmp_ne (tgt := 33) hx hb dX9_parody_26 (by decide) (fun c3 => ?_) (fun c3 => ?_)
    · have hv := hv.1 c3
      refine lv_iconst (v := 1) hx hb dX9_parody_33 (by decide) ?_
      rw [hZ]; rw [hQ] at hv
      exact W.iret (v := 1) hx hb hr (fun t ht hW => ⟨⟨1, σ1, rfl, hv, ⟨P_of ht hP, hD⟩⟩, hS.F ht⟩) hS.2.2 dX9_parody_34
    · have hv := hv.2 c3
      refine lv_iconst (v := 0) hx hb dX9_parody_29 (by decide) ?_
      refine lv_goto (tgt := 34) hx hb dX9_parody_30 (by decide) ?_
      rw [hZ]; rw [hQ] at hv
      exact W.iret (v := 0) hx hb hr (fun t ht hW => ⟨⟨0, σ1, rfl, hv, ⟨P_of ht hP, hD⟩⟩, hS.F ht⟩) hS.2.2 dX9_parody_34
  · have hv := hv.2 c4
    refine lv_iconst (v := (-1)) hx hb dX9_parody_8 (by decide) ?_
    rw [hZ]; rw [hQ] at hv
    exact W.iret (v := (-1)) hx hb hr (fun t ht hW => ⟨⟨(-1), σ0, rfl, hv, ⟨P_of ht hP, hD⟩⟩, hS.F ht⟩) hS.2.2 dX9_parody_9
set_option maxHeartbeats 4000000 in
set_option maxRecDepth 100000 in
theorem wk_X9_remembers (l : Launch) (h_X9_doesRemember : Ct_X9_doesRemember l) (h_X9_goTo : Ct_X9_goTo l) (h_X9_isSeason : Ct_X9_isSeason l) (h_X9_noPerson : Ct_X9_noPerson l) (sp : ∀ (p_ : Int32) (season_ : Int32) (ag : AS) (σ0 : S_), pre_X9_remembers p_ season_ ag σ0 → vc_X9_remembers p_ season_ σ0 (post_X9_remembers p_ season_ ag σ0)) : Ct_X9_remembers l := by
  intro D cy ad A p_ season_ ag σ0  hpre
  refine Met.ofW (cc := cX9_remembers) (maxL := 5) (ret := (some .int)) (by decide) rfl ?_
  intro p e s m args below meth c s₁ B hml hv0
  obtain ⟨rfl, hP, hK, hD, hN⟩ := hv0
  have hx := B.exec
  have hb := B.bytes
  have hr := B.returns
  have hts := atoms_spec (ws := wsX9_remembers) B.pre
  have hown : s.vm.findClass RX9 = some m.cls := findClass_of_methodNamed B.named
  have hlocks := B.notSynchronized
  have hv := sp p_ season_ ag σ0 hpre
  have hl := lv_entry ([.ref (ad 0), .int p_, .int season_]) (n := 5) (Nat.le_of_ble_eq_true rfl)
  rw [lg_entry_eq]
  generalize (lg_sl ([.ref (ad 0), .int p_, .int season_]) ++ List.replicate (5 - (lg_sl ([.ref (ad 0), .int p_, .int season_])).length) Slot.unset).toArray = ls at hl ⊢
  have hl : lv_has ls 5 [(0, .ref (ad 0)), (1, .int p_), (2, .int season_)] := hl
  refine W_gen (fun R Z H locs hR hZ hH hlo => ?_)
  have hRf : R.frames = 6 := by rw [hR]; rfl
  have hRl : R.locals = 139 := by rw [hR]; rfl
  have hRc : R.cells = 0 := by rw [hR]; rfl
  have hRs : R.slots = 0 := by rw [hR]; rfl
  have hS : va_S A s.heap H locs := by rw [hH, hlo]; exact va_S.rf
  rw [← hH] at hP
  obtain ⟨Q, hQ⟩ : ∃ q : Int32 → S_ → Prop, q = (post_X9_remembers p_ season_ ag σ0) := ⟨_, rfl⟩
  rw [← hQ] at hv
  have hinX9 : ∀ w ∈ wsX90, w ∈ wsX9_remembers := by decide +kernel
  refine lv_aload_n hx hb dX9_remembers_0 rfl (lv_at hl 0 rfl) ?_
  refine lv_iload_n hx hb dX9_remembers_1 rfl (lv_at hl 1 rfl) ?_
  have hp := True.intro
  refine k_read_i (w := wR cy ad) (va_runV (As := [.int p_]) (rest := []) ⟨hx, hb, hml, hown, hts⟩ (h_X9_noPerson D cy ad A p_ σ0 hp) (cwV 1 hts gX9_remembers_X9_noPerson rfl rfl rfl (by decide +kernel) ⟨le_R hRf (Nat.le_of_ble_eq_true rfl), le_R hRl (Nat.le_of_ble_eq_true rfl)⟩) ⟨(fun a U g mk q => ⟨q.1, q.2.blind⟩), va_recv hK hP (ci := 9) (q0 := 0) rfl (wR_0 cy ad σ0), (fun U hU hW => ⟨rfl, WdR.pre hP hK hD hN hU hW⟩)⟩ rfl rfl hl.1 rfl (lv_room (Nat.le_of_ble_eq_true rfl)) dX9_remembers_2 ⟨le_R hRc (Nat.le_refl 0), le_R hRs (Nat.le_refl 0)⟩) hS (fun r H locs hr1 hP hS => ?_)
  subst hr1
  refine lv_if_eq (tgt := 10) hx hb dX9_remembers_5 (by decide) (fun c18 => ?_) (fun c18 => ?_)
  · have hv := hv.1 c18
    refine lv_iload_n hx hb dX9_remembers_10 rfl (lv_at hl 2 rfl) ?_
    refine k_pure_i (va_runS (As := [.int season_]) (rest := []) ⟨hx, hb, hml, hown, hts⟩ (h_X9_isSeason season_) (va_cwS 1 hts gX9_remembers_X9_isSeason rfl rfl rfl (by decide +kernel) ⟨le_R hRf (Nat.le_of_ble_eq_true rfl), le_R hRl (Nat.le_of_ble_eq_true rfl)⟩) ⟨(fun a U g mk q => ⟨q.1, trivial⟩), (fun U hU hW => ⟨rfl, trivial⟩)⟩ rfl rfl hl.1 rfl (lv_room (Nat.le_of_ble_eq_true rfl)) dX9_remembers_11 ⟨le_R hRc (Nat.le_refl 0), le_R hRs (Nat.le_refl 0)⟩) hS hP (fun r H locs hr1 hP hS => ?_)
    subst hr1
    refine lv_if_ne (tgt := 20) hx hb dX9_remembers_14 (by decide) (fun c17 => ?_) (fun c17 => ?_)
    · have hv := hv.1 c17
      refine lv_aload_n hx hb dX9_remembers_20 rfl (lv_at hl 0 rfl) ?_
      refine lv_iload_n hx hb dX9_remembers_21 rfl (lv_at hl 2 rfl) ?_
      obtain ⟨g1, g2, hv⟩ := hv
      obtain ⟨hp, hv⟩ := hv
      refine k_rel_v (w := wR cy ad) (va_runV (As := [.int season_]) (rest := []) ⟨hx, hb, hml, hown, hts⟩ (h_X9_goTo D cy ad A season_ g1 g2 σ0 hp) (cwV 1 hts gX9_remembers_X9_goTo rfl rfl rfl (by decide +kernel) ⟨le_R hRf (Nat.le_of_ble_eq_true rfl), le_R hRl (Nat.le_of_ble_eq_true rfl)⟩) ⟨(fun a U g mk q => ⟨q.1, q.2.blind⟩), va_recv hK hP (ci := 9) (q0 := 0) rfl (wR_0 cy ad σ0), (fun U hU hW => ⟨rfl, WdR.pre hP hK hD hN hU hW⟩)⟩ rfl rfl hl.1 rfl (lv_room (Nat.le_of_ble_eq_true rfl)) dX9_remembers_22 ⟨le_R hRc (Nat.le_refl 0), le_R hRs (Nat.le_refl 0)⟩) hS (fun σ3 H locs hr1 hP hD hS => ?_)
      have hv := hv σ3 hr1
      refine lv_iconst (v := 0) hx hb dX9_remembers_25 (by decide) ?_
      refine lv_istore_n (lv' := [(3, .int 0), (0, .ref (ad 0)), (1, .int p_), (2, .int season_)]) hx hb dX9_remembers_26 rfl hl (by decide) rfl (fun ls hl => ?_)
      refine lv_iconst (v := 0) hx hb dX9_remembers_27 (by decide) ?_
      refine lv_istore (lv' := [(4, .int 0), (3, .int 0), (0, .ref (ad 0)), (1, .int p_), (2, .int season_)]) hx hb dX9_remembers_28 hl (by decide) rfl (fun ls hl => ?_)
      obtain ⟨n30, hv⟩ := hv
      have lp30 : ∀ (nn30 : Nat) (x4 : Int32) (x5 : Int32) (H : Heap) (locs : List Loc) (ls : Array Slot), vl_X9_remembers_30 p_ season_ σ3 Q nn30 x4 x5 → va_P D vwCl (wR cy ad σ3) H → va_D A (wR cy ad σ3) → va_S A s.heap H locs → lv_has ls 5 [(0, .ref (ad 0)), (1, .int p_), (2, .int season_), (3, .int x4), (4, .int x5)] → W p l e R s m ([.ref (ad 0), .int p_, .int season_] : List Value).toArray  below meth c H locs 0 0 Z (F0 m 30 ls []) := by
        intro nn30
        induction nn30 with
        | zero => intro x4 x5 H locs ls hv; exact absurd hv id
        | succ mm30 ih30 =>
          intro x4 x5 H locs ls hv hP hD hS hl
          refine lv_iload hx hb dX9_remembers_30 (lv_at hl 4 rfl) ?_
          refine lv_aload_n hx hb dX9_remembers_32 rfl (lv_at hl 0 rfl) ?_
          refine va_get (ci := 9) (v := .int (rdI σ3 6)) (C := RX9) (T := TX9) (N := 38) hx hb hts hinX9 hown hK hP 0 (wR_0 cy ad σ3) rfl 12 (by decide) (hts (.fieldLink RX9 109 "TaleBansModel" "tales" "I") (List.mem_of_getElem? (i := 1) rfl)) (fun x h => h) rfl dX9_remembers_33 ?_
          refine lv_icmp_ge (tgt := 67) hx hb dX9_remembers_36 (by decide) (fun c16 => ?_) (fun c16 => ?_)
          · have hv := hv.1 c16
            refine lv_iload_n hx hb dX9_remembers_67 rfl (lv_at hl 3 rfl) ?_
            rw [hZ]; rw [hQ] at hv
            exact W.iret (v := x4) hx hb hr (fun t ht hW => ⟨⟨x4, σ3, rfl, hv, ⟨P_of ht hP, hD⟩⟩, hS.F ht⟩) hS.2.2 dX9_remembers_68
          · have hv := hv.2 c16
            refine lv_iload_n hx hb dX9_remembers_39 rfl (lv_at hl 3 rfl) ?_
            refine lv_aload_n hx hb dX9_remembers_40 rfl (lv_at hl 0 rfl) ?_
            refine lv_iload_n hx hb dX9_remembers_41 rfl (lv_at hl 1 rfl) ?_
            refine lv_iload hx hb dX9_remembers_42 (lv_at hl 4 rfl) ?_
            refine lv_iload_n hx hb dX9_remembers_44 rfl (lv_at hl 2 rfl) ?_
            obtain ⟨g6, g7, g8, g9, g10, hv⟩ := hv
            obtain ⟨hp, hv⟩ := hv
            refine k_read_i (w := wR cy ad) (va_runV (As := [.int p_, .int x5, .int season_]) (rest := [.int x4]) ⟨hx, hb, hml, hown, hts⟩ (h_X9_doesRemember D cy ad A p_ x5 season_ g6 g7 g8 g9 g10 σ3 hp) (cwV 3 hts gX9_remembers_X9_doesRemember rfl rfl rfl (by decide +kernel) ⟨le_R hRf (Nat.le_of_ble_eq_true rfl), le_R hRl (Nat.le_of_ble_eq_true rfl)⟩) ⟨(fun a U g mk q => ⟨q.1, q.2.blind⟩), va_recv hK hP (ci := 9) (q0 := 0) rfl (wR_0 cy ad σ3), (fun U hU hW => ⟨rfl, WdR.pre hP hK hD hN hU hW⟩)⟩ rfl rfl hl.1 rfl (lv_room (Nat.le_of_ble_eq_true rfl)) dX9_remembers_45 ⟨le_R hRc (Nat.le_refl 0), le_R hRs (Nat.le_refl 0)⟩) hS (fun r11 H locs hr1 hP hS => ?_)
            have hv := hv r11 hr1
            obtain ⟨P12, hv, hvr⟩ := hv
            have jn13 : ∀ (b14 : Int32) (H : Heap) (locs : List Loc) (ls : Array Slot), P12 b14 → va_P D vwCl (wR cy ad σ3) H → va_S A s.heap H locs → lv_has ls 5 [(0, .ref (ad 0)), (1, .int p_), (2, .int season_), (3, .int x4), (4, .int x5)] → W p l e R s m ([.ref (ad 0), .int p_, .int season_] : List Value).toArray below meth c H locs 0 0 Z (F0 m 59 ls [.int b14, .int x4]) := by
              intro b14 H locs ls hv hP hS hl
              have hv := hvr b14 hv
              refine lv_ior hx hb dX9_remembers_59 ?_
              refine lv_istore_n (lv' := [(3, .int (x4 ||| b14)), (0, .ref (ad 0)), (1, .int p_), (2, .int season_), (4, .int x5)]) hx hb dX9_remembers_60 rfl hl (by decide) rfl (fun ls hl => ?_)
              refine lv_iinc (v := (x5 + 1)) (lv' := [(4, .int (x5 + 1)), (3, .int (x4 ||| b14)), (0, .ref (ad 0)), (1, .int p_), (2, .int season_)]) hx hb dX9_remembers_61 hl (k := 4) rfl rfl (by decide) rfl (fun ls hl => ?_)
              refine lv_goto (tgt := 30) hx hb dX9_remembers_64 (by decide) ?_
              exact ih30 (x4 ||| b14) (x5 + 1) _ _ _ hv hP hD hS (lv_sub hl [2, 3, 4, 1, 0] rfl)
            refine lv_if_eq (tgt := 58) hx hb dX9_remembers_48 (by decide) (fun c15 => ?_) (fun c15 => ?_)
            · have hv := hv.1 c15
              refine lv_iconst (v := 0) hx hb dX9_remembers_58 (by decide) ?_
              exact jn13 0 _ _ _ hv hP hS hl
            · have hv := hv.2 c15
              refine lv_iconst (v := 1) hx hb dX9_remembers_51 (by decide) ?_
              refine lv_iload hx hb dX9_remembers_52 (lv_at hl 4 rfl) ?_
              refine lv_ishl hx hb dX9_remembers_54 ?_
              refine lv_goto (tgt := 59) hx hb dX9_remembers_55 (by decide) ?_
              exact jn13 (1 <<< (x5 &&& 31)) _ _ _ hv hP hS hl
      exact lp30 n30 0 0 _ _ _ hv hP hD hS (lv_sub hl [2, 3, 4, 1, 0] rfl)
    · have hv := hv.2 c17
      refine lv_bipush (v := (-2)) hx hb dX9_remembers_17 (by decide) ?_
      rw [hZ]; rw [hQ] at hv
      exact W.iret (v := (-2)) hx hb hr (fun t ht hW => ⟨⟨(-2), σ0, rfl, hv, ⟨P_of ht hP, hD⟩⟩, hS.F ht⟩) hS.2.2 dX9_remembers_19
  · have hv := hv.2 c18
    refine lv_iconst (v := (-1)) hx hb dX9_remembers_8 (by decide) ?_
    rw [hZ]; rw [hQ] at hv
    exact W.iret (v := (-1)) hx hb hr (fun t ht hW => ⟨⟨(-1), σ0, rfl, hv, ⟨P_of ht hP, hD⟩⟩, hS.F ht⟩) hS.2.2 dX9_remembers_9
set_option maxHeartbeats 4000000 in
set_option maxRecDepth 100000 in
theorem wk_X9_hearth (l : Launch) (h_X9_goTo : Ct_X9_goTo l) (h_X9_isSeason : Ct_X9_isSeason l) (h_X9_noPerson : Ct_X9_noPerson l) (sp : ∀ (p_ : Int32) (season_ : Int32) (ag : AS) (σ0 : S_), pre_X9_hearth p_ season_ ag σ0 → vc_X9_hearth p_ season_ σ0 (post_X9_hearth p_ season_ ag σ0)) : Ct_X9_hearth l := by
  intro D cy ad A p_ season_ ag σ0  hpre
  refine Met.ofW (cc := cX9_hearth) (maxL := 3) (ret := (some .int)) (by decide) rfl ?_
  intro p e s m args below meth c s₁ B hml hv0
  obtain ⟨rfl, hP, hK, hD, hN⟩ := hv0
  have hx := B.exec
  have hb := B.bytes
  have hr := B.returns
  have hts := atoms_spec (ws := wsX9_hearth) B.pre
  have hown : s.vm.findClass RX9 = some m.cls := findClass_of_methodNamed B.named
  have hlocks := B.notSynchronized
  have hv := sp p_ season_ ag σ0 hpre
  have hl := lv_entry ([.ref (ad 0), .int p_, .int season_]) (n := 3) (Nat.le_of_ble_eq_true rfl)
  rw [lg_entry_eq]
  generalize (lg_sl ([.ref (ad 0), .int p_, .int season_]) ++ List.replicate (3 - (lg_sl ([.ref (ad 0), .int p_, .int season_])).length) Slot.unset).toArray = ls at hl ⊢
  have hl : lv_has ls 3 [(0, .ref (ad 0)), (1, .int p_), (2, .int season_)] := hl
  refine W_gen (fun R Z H locs hR hZ hH hlo => ?_)
  have hRf : R.frames = 6 := by rw [hR]; rfl
  have hRl : R.locals = 139 := by rw [hR]; rfl
  have hRc : R.cells = 0 := by rw [hR]; rfl
  have hRs : R.slots = 0 := by rw [hR]; rfl
  have hS : va_S A s.heap H locs := by rw [hH, hlo]; exact va_S.rf
  rw [← hH] at hP
  obtain ⟨Q, hQ⟩ : ∃ q : Int32 → S_ → Prop, q = (post_X9_hearth p_ season_ ag σ0) := ⟨_, rfl⟩
  rw [← hQ] at hv
  have hinX9 : ∀ w ∈ wsX90, w ∈ wsX9_hearth := by decide +kernel
  refine lv_aload_n hx hb dX9_hearth_0 rfl (lv_at hl 0 rfl) ?_
  refine lv_iload_n hx hb dX9_hearth_1 rfl (lv_at hl 1 rfl) ?_
  have hp := True.intro
  refine k_read_i (w := wR cy ad) (va_runV (As := [.int p_]) (rest := []) ⟨hx, hb, hml, hown, hts⟩ (h_X9_noPerson D cy ad A p_ σ0 hp) (cwV 1 hts gX9_hearth_X9_noPerson rfl rfl rfl (by decide +kernel) ⟨le_R hRf (Nat.le_of_ble_eq_true rfl), le_R hRl (Nat.le_of_ble_eq_true rfl)⟩) ⟨(fun a U g mk q => ⟨q.1, q.2.blind⟩), va_recv hK hP (ci := 9) (q0 := 0) rfl (wR_0 cy ad σ0), (fun U hU hW => ⟨rfl, WdR.pre hP hK hD hN hU hW⟩)⟩ rfl rfl hl.1 rfl (lv_room (Nat.le_of_ble_eq_true rfl)) dX9_hearth_2 ⟨le_R hRc (Nat.le_refl 0), le_R hRs (Nat.le_refl 0)⟩) hS (fun r H locs hr1 hP hS => ?_)
  subst hr1
  refine lv_if_eq (tgt := 10) hx hb dX9_hearth_5 (by decide) (fun c5 => ?_) (fun c5 => ?_)
  · have hv := hv.1 c5
    refine lv_iload_n hx hb dX9_hearth_10 rfl (lv_at hl 2 rfl) ?_
    refine k_pure_i (va_runS (As := [.int season_]) (rest := []) ⟨hx, hb, hml, hown, hts⟩ (h_X9_isSeason season_) (va_cwS 1 hts gX9_hearth_X9_isSeason rfl rfl rfl (by decide +kernel) ⟨le_R hRf (Nat.le_of_ble_eq_true rfl), le_R hRl (Nat.le_of_ble_eq_true rfl)⟩) ⟨(fun a U g mk q => ⟨q.1, trivial⟩), (fun U hU hW => ⟨rfl, trivial⟩)⟩ rfl rfl hl.1 rfl (lv_room (Nat.le_of_ble_eq_true rfl)) dX9_hearth_11 ⟨le_R hRc (Nat.le_refl 0), le_R hRs (Nat.le_refl 0)⟩) hS hP (fun r H locs hr1 hP hS => ?_)
    subst hr1
    refine lv_if_ne (tgt := 20) hx hb dX9_hearth_14 (by decide) (fun c4 => ?_) (fun c4 => ?_)
    · have hv := hv.1 c4
      refine lv_aload_n hx hb dX9_hearth_20 rfl (lv_at hl 0 rfl) ?_
      refine lv_iload_n hx hb dX9_hearth_21 rfl (lv_at hl 2 rfl) ?_
      obtain ⟨g1, g2, hv⟩ := hv
      obtain ⟨hp, hv⟩ := hv
      refine k_rel_v (w := wR cy ad) (va_runV (As := [.int season_]) (rest := []) ⟨hx, hb, hml, hown, hts⟩ (h_X9_goTo D cy ad A season_ g1 g2 σ0 hp) (cwV 1 hts gX9_hearth_X9_goTo rfl rfl rfl (by decide +kernel) ⟨le_R hRf (Nat.le_of_ble_eq_true rfl), le_R hRl (Nat.le_of_ble_eq_true rfl)⟩) ⟨(fun a U g mk q => ⟨q.1, q.2.blind⟩), va_recv hK hP (ci := 9) (q0 := 0) rfl (wR_0 cy ad σ0), (fun U hU hW => ⟨rfl, WdR.pre hP hK hD hN hU hW⟩)⟩ rfl rfl hl.1 rfl (lv_room (Nat.le_of_ble_eq_true rfl)) dX9_hearth_22 ⟨le_R hRc (Nat.le_refl 0), le_R hRs (Nat.le_refl 0)⟩) hS (fun σ3 H locs hr1 hP hD hS => ?_)
      have hv := hv σ3 hr1
      refine lv_aload_n hx hb dX9_hearth_25 rfl (lv_at hl 0 rfl) ?_
      refine va_get (ci := 9) (v := .ref (ad (14))) (C := RX9) (T := TX9) (N := 38) hx hb hts hinX9 hown hK hP 0 (wR_0 cy ad σ3) rfl 21 (by decide) (hts (.fieldLink RX9 50 "TaleBansModel" "isAt" "[I") (List.mem_of_getElem? (i := 1) rfl)) (fun x h => h) rfl dX9_hearth_26 ?_
      refine lv_iload_n hx hb dX9_hearth_29 rfl (lv_at hl 1 rfl) ?_
      obtain ⟨hi, hv⟩ := hv
      refine va_iald hx hb hK hP 14 0 (wR_14 cy ad σ3) rfl hi dX9_hearth_30 ?_
      rw [hZ]; rw [hQ] at hv
      exact W.iret (v := (rdA σ3 14 (Int32.toNatClampNeg p_))) hx hb hr (fun t ht hW => ⟨⟨(rdA σ3 14 (Int32.toNatClampNeg p_)), σ3, rfl, hv, ⟨P_of ht hP, hD⟩⟩, hS.F ht⟩) hS.2.2 dX9_hearth_31
    · have hv := hv.2 c4
      refine lv_bipush (v := (-2)) hx hb dX9_hearth_17 (by decide) ?_
      rw [hZ]; rw [hQ] at hv
      exact W.iret (v := (-2)) hx hb hr (fun t ht hW => ⟨⟨(-2), σ0, rfl, hv, ⟨P_of ht hP, hD⟩⟩, hS.F ht⟩) hS.2.2 dX9_hearth_19
  · have hv := hv.2 c5
    refine lv_iconst (v := (-1)) hx hb dX9_hearth_8 (by decide) ?_
    rw [hZ]; rw [hQ] at hv
    exact W.iret (v := (-1)) hx hb hr (fun t ht hW => ⟨⟨(-1), σ0, rfl, hv, ⟨P_of ht hP, hD⟩⟩, hS.F ht⟩) hS.2.2 dX9_hearth_9
set_option maxHeartbeats 4000000 in
set_option maxRecDepth 100000 in
theorem wk_X9_told (l : Launch) (h_X9_goTo : Ct_X9_goTo l) (h_X9_isSeason : Ct_X9_isSeason l) (h_X9_noHearth : Ct_X9_noHearth l) (sp : ∀ (h_ : Int32) (season_ : Int32) (ag : AS) (σ0 : S_), pre_X9_told h_ season_ ag σ0 → vc_X9_told h_ season_ σ0 (post_X9_told h_ season_ ag σ0)) : Ct_X9_told l := by
  intro D cy ad A h_ season_ ag σ0  hpre
  refine Met.ofW (cc := cX9_told) (maxL := 3) (ret := (some .int)) (by decide) rfl ?_
  intro p e s m args below meth c s₁ B hml hv0
  obtain ⟨rfl, hP, hK, hD, hN⟩ := hv0
  have hx := B.exec
  have hb := B.bytes
  have hr := B.returns
  have hts := atoms_spec (ws := wsX9_told) B.pre
  have hown : s.vm.findClass RX9 = some m.cls := findClass_of_methodNamed B.named
  have hlocks := B.notSynchronized
  have hv := sp h_ season_ ag σ0 hpre
  have hl := lv_entry ([.ref (ad 0), .int h_, .int season_]) (n := 3) (Nat.le_of_ble_eq_true rfl)
  rw [lg_entry_eq]
  generalize (lg_sl ([.ref (ad 0), .int h_, .int season_]) ++ List.replicate (3 - (lg_sl ([.ref (ad 0), .int h_, .int season_])).length) Slot.unset).toArray = ls at hl ⊢
  have hl : lv_has ls 3 [(0, .ref (ad 0)), (1, .int h_), (2, .int season_)] := hl
  refine W_gen (fun R Z H locs hR hZ hH hlo => ?_)
  have hRf : R.frames = 6 := by rw [hR]; rfl
  have hRl : R.locals = 139 := by rw [hR]; rfl
  have hRc : R.cells = 0 := by rw [hR]; rfl
  have hRs : R.slots = 0 := by rw [hR]; rfl
  have hS : va_S A s.heap H locs := by rw [hH, hlo]; exact va_S.rf
  rw [← hH] at hP
  obtain ⟨Q, hQ⟩ : ∃ q : Int32 → S_ → Prop, q = (post_X9_told h_ season_ ag σ0) := ⟨_, rfl⟩
  rw [← hQ] at hv
  have hinX9 : ∀ w ∈ wsX90, w ∈ wsX9_told := by decide +kernel
  refine lv_iload_n hx hb dX9_told_0 rfl (lv_at hl 1 rfl) ?_
  refine k_pure_i (va_runS (As := [.int h_]) (rest := []) ⟨hx, hb, hml, hown, hts⟩ (h_X9_noHearth h_) (va_cwS 1 hts gX9_told_X9_noHearth rfl rfl rfl (by decide +kernel) ⟨le_R hRf (Nat.le_of_ble_eq_true rfl), le_R hRl (Nat.le_of_ble_eq_true rfl)⟩) ⟨(fun a U g mk q => ⟨q.1, trivial⟩), (fun U hU hW => ⟨rfl, trivial⟩)⟩ rfl rfl hl.1 rfl (lv_room (Nat.le_of_ble_eq_true rfl)) dX9_told_1 ⟨le_R hRc (Nat.le_refl 0), le_R hRs (Nat.le_refl 0)⟩) hS hP (fun r H locs hr1 hP hS => ?_)
  subst hr1
  refine lv_if_eq (tgt := 9) hx hb dX9_told_4 (by decide) (fun c6 => ?_) (fun c6 => ?_)
  · have hv := hv.1 c6
    refine lv_iload_n hx hb dX9_told_9 rfl (lv_at hl 2 rfl) ?_
    refine k_pure_i (va_runS (As := [.int season_]) (rest := []) ⟨hx, hb, hml, hown, hts⟩ (h_X9_isSeason season_) (va_cwS 1 hts gX9_told_X9_isSeason rfl rfl rfl (by decide +kernel) ⟨le_R hRf (Nat.le_of_ble_eq_true rfl), le_R hRl (Nat.le_of_ble_eq_true rfl)⟩) ⟨(fun a U g mk q => ⟨q.1, trivial⟩), (fun U hU hW => ⟨rfl, trivial⟩)⟩ rfl rfl hl.1 rfl (lv_room (Nat.le_of_ble_eq_true rfl)) dX9_told_10 ⟨le_R hRc (Nat.le_refl 0), le_R hRs (Nat.le_refl 0)⟩) hS hP (fun r H locs hr1 hP hS => ?_)
    subst hr1
    refine lv_if_ne (tgt := 19) hx hb dX9_told_13 (by decide) (fun c5 => ?_) (fun c5 => ?_)
    · have hv := hv.1 c5
      refine lv_aload_n hx hb dX9_told_19 rfl (lv_at hl 0 rfl) ?_
      refine va_get (ci := 9) (v := .int (rdI σ0 1)) (C := RX9) (T := TX9) (N := 38) hx hb hts hinX9 hown hK hP 0 (wR_0 cy ad σ0) rfl 1 (by decide) (hts (.fieldLink RX9 102 "TaleBansModel" "persons" "I") (List.mem_of_getElem? (i := 1) rfl)) (fun x h => h) rfl dX9_told_20 ?_
      refine lv_if_ne (tgt := 29) hx hb dX9_told_23 (by decide) (fun c4 => ?_) (fun c4 => ?_)
      · have hv := hv.1 c4
        refine lv_aload_n hx hb dX9_told_29 rfl (lv_at hl 0 rfl) ?_
        refine lv_iload_n hx hb dX9_told_30 rfl (lv_at hl 2 rfl) ?_
        obtain ⟨g1, g2, hv⟩ := hv
        obtain ⟨hp, hv⟩ := hv
        refine k_rel_v (w := wR cy ad) (va_runV (As := [.int season_]) (rest := []) ⟨hx, hb, hml, hown, hts⟩ (h_X9_goTo D cy ad A season_ g1 g2 σ0 hp) (cwV 1 hts gX9_told_X9_goTo rfl rfl rfl (by decide +kernel) ⟨le_R hRf (Nat.le_of_ble_eq_true rfl), le_R hRl (Nat.le_of_ble_eq_true rfl)⟩) ⟨(fun a U g mk q => ⟨q.1, q.2.blind⟩), va_recv hK hP (ci := 9) (q0 := 0) rfl (wR_0 cy ad σ0), (fun U hU hW => ⟨rfl, WdR.pre hP hK hD hN hU hW⟩)⟩ rfl rfl hl.1 rfl (lv_room (Nat.le_of_ble_eq_true rfl)) dX9_told_31 ⟨le_R hRc (Nat.le_refl 0), le_R hRs (Nat.le_refl 0)⟩) hS (fun σ3 H locs hr1 hP hD hS => ?_)
        have hv := hv σ3 hr1
        refine lv_aload_n hx hb dX9_told_34 rfl (lv_at hl 0 rfl) ?_
        refine va_get (ci := 9) (v := .ref (ad (17))) (C := RX9) (T := TX9) (N := 38) hx hb hts hinX9 hown hK hP 0 (wR_0 cy ad σ3) rfl 24 (by decide) (hts (.fieldLink RX9 59 "TaleBansModel" "toldNow" "[I") (List.mem_of_getElem? (i := 2) rfl)) (fun x h => h) rfl dX9_told_35 ?_
        refine lv_iload_n hx hb dX9_told_38 rfl (lv_at hl 1 rfl) ?_
        obtain ⟨hi, hv⟩ := hv
        refine va_iald hx hb hK hP 17 0 (wR_17 cy ad σ3) rfl hi dX9_told_39 ?_
        rw [hZ]; rw [hQ] at hv
        exact W.iret (v := (rdA σ3 17 (Int32.toNatClampNeg h_))) hx hb hr (fun t ht hW => ⟨⟨(rdA σ3 17 (Int32.toNatClampNeg h_)), σ3, rfl, hv, ⟨P_of ht hP, hD⟩⟩, hS.F ht⟩) hS.2.2 dX9_told_40
      · have hv := hv.2 c4
        refine lv_bipush (v := (-3)) hx hb dX9_told_26 (by decide) ?_
        rw [hZ]; rw [hQ] at hv
        exact W.iret (v := (-3)) hx hb hr (fun t ht hW => ⟨⟨(-3), σ0, rfl, hv, ⟨P_of ht hP, hD⟩⟩, hS.F ht⟩) hS.2.2 dX9_told_28
    · have hv := hv.2 c5
      refine lv_bipush (v := (-2)) hx hb dX9_told_16 (by decide) ?_
      rw [hZ]; rw [hQ] at hv
      exact W.iret (v := (-2)) hx hb hr (fun t ht hW => ⟨⟨(-2), σ0, rfl, hv, ⟨P_of ht hP, hD⟩⟩, hS.F ht⟩) hS.2.2 dX9_told_18
  · have hv := hv.2 c6
    refine lv_iconst (v := (-1)) hx hb dX9_told_7 (by decide) ?_
    rw [hZ]; rw [hQ] at hv
    exact W.iret (v := (-1)) hx hb hr (fun t ht hW => ⟨⟨(-1), σ0, rfl, hv, ⟨P_of ht hP, hD⟩⟩, hS.F ht⟩) hS.2.2 dX9_told_8
set_option maxHeartbeats 4000000 in
set_option maxRecDepth 100000 in
theorem wk_X9_forbidden (l : Launch) (h_X9_forbiddenIn : Ct_X9_forbiddenIn l) (h_X9_goTo : Ct_X9_goTo l) (h_X9_isSeason : Ct_X9_isSeason l) (sp : ∀ (season_ : Int32) (ag : AS) (σ0 : S_), pre_X9_forbidden season_ ag σ0 → vc_X9_forbidden season_ σ0 (post_X9_forbidden season_ ag σ0)) : Ct_X9_forbidden l := by
  intro D cy ad A season_ ag σ0  hpre
  refine Met.ofW (cc := cX9_forbidden) (maxL := 2) (ret := (some .int)) (by decide) rfl ?_
  intro p e s m args below meth c s₁ B hml hv0
  obtain ⟨rfl, hP, hK, hD, hN⟩ := hv0
  have hx := B.exec
  have hb := B.bytes
  have hr := B.returns
  have hts := atoms_spec (ws := wsX9_forbidden) B.pre
  have hown : s.vm.findClass RX9 = some m.cls := findClass_of_methodNamed B.named
  have hlocks := B.notSynchronized
  have hv := sp season_ ag σ0 hpre
  have hl := lv_entry ([.ref (ad 0), .int season_]) (n := 2) (Nat.le_of_ble_eq_true rfl)
  rw [lg_entry_eq]
  generalize (lg_sl ([.ref (ad 0), .int season_]) ++ List.replicate (2 - (lg_sl ([.ref (ad 0), .int season_])).length) Slot.unset).toArray = ls at hl ⊢
  have hl : lv_has ls 2 [(0, .ref (ad 0)), (1, .int season_)] := hl
  refine W_gen (fun R Z H locs hR hZ hH hlo => ?_)
  have hRf : R.frames = 6 := by rw [hR]; rfl
  have hRl : R.locals = 139 := by rw [hR]; rfl
  have hRc : R.cells = 0 := by rw [hR]; rfl
  have hRs : R.slots = 0 := by rw [hR]; rfl
  have hS : va_S A s.heap H locs := by rw [hH, hlo]; exact va_S.rf
  rw [← hH] at hP
  obtain ⟨Q, hQ⟩ : ∃ q : Int32 → S_ → Prop, q = (post_X9_forbidden season_ ag σ0) := ⟨_, rfl⟩
  rw [← hQ] at hv
  have hinX9 : ∀ w ∈ wsX90, w ∈ wsX9_forbidden := by decide +kernel
  refine lv_iload_n hx hb dX9_forbidden_0 rfl (lv_at hl 1 rfl) ?_
  refine k_pure_i (va_runS (As := [.int season_]) (rest := []) ⟨hx, hb, hml, hown, hts⟩ (h_X9_isSeason season_) (va_cwS 1 hts gX9_forbidden_X9_isSeason rfl rfl rfl (by decide +kernel) ⟨le_R hRf (Nat.le_of_ble_eq_true rfl), le_R hRl (Nat.le_of_ble_eq_true rfl)⟩) ⟨(fun a U g mk q => ⟨q.1, trivial⟩), (fun U hU hW => ⟨rfl, trivial⟩)⟩ rfl rfl hl.1 rfl (lv_room (Nat.le_of_ble_eq_true rfl)) dX9_forbidden_1 ⟨le_R hRc (Nat.le_refl 0), le_R hRs (Nat.le_refl 0)⟩) hS hP (fun r H locs hr1 hP hS => ?_)
  subst hr1
  refine lv_if_ne (tgt := 10) hx hb dX9_forbidden_4 (by decide) (fun c9 => ?_) (fun c9 => ?_)
  · have hv := hv.1 c9
    refine lv_aload_n hx hb dX9_forbidden_10 rfl (lv_at hl 0 rfl) ?_
    refine va_get (ci := 9) (v := .int (rdI σ0 1)) (C := RX9) (T := TX9) (N := 38) hx hb hts hinX9 hown hK hP 0 (wR_0 cy ad σ0) rfl 1 (by decide) (hts (.fieldLink RX9 102 "TaleBansModel" "persons" "I") (List.mem_of_getElem? (i := 1) rfl)) (fun x h => h) rfl dX9_forbidden_11 ?_
    refine lv_if_ne (tgt := 20) hx hb dX9_forbidden_14 (by decide) (fun c8 => ?_) (fun c8 => ?_)
    · have hv := hv.1 c8
      refine lv_aload_n hx hb dX9_forbidden_20 rfl (lv_at hl 0 rfl) ?_
      refine lv_iload_n hx hb dX9_forbidden_21 rfl (lv_at hl 1 rfl) ?_
      obtain ⟨g1, g2, hv⟩ := hv
      obtain ⟨hp, hv⟩ := hv
      refine k_rel_v (w := wR cy ad) (va_runV (As := [.int season_]) (rest := []) ⟨hx, hb, hml, hown, hts⟩ (h_X9_goTo D cy ad A season_ g1 g2 σ0 hp) (cwV 1 hts gX9_forbidden_X9_goTo rfl rfl rfl (by decide +kernel) ⟨le_R hRf (Nat.le_of_ble_eq_true rfl), le_R hRl (Nat.le_of_ble_eq_true rfl)⟩) ⟨(fun a U g mk q => ⟨q.1, q.2.blind⟩), va_recv hK hP (ci := 9) (q0 := 0) rfl (wR_0 cy ad σ0), (fun U hU hW => ⟨rfl, WdR.pre hP hK hD hN hU hW⟩)⟩ rfl rfl hl.1 rfl (lv_room (Nat.le_of_ble_eq_true rfl)) dX9_forbidden_22 ⟨le_R hRc (Nat.le_refl 0), le_R hRs (Nat.le_refl 0)⟩) hS (fun σ3 H locs hr1 hP hD hS => ?_)
      have hv := hv σ3 hr1
      refine lv_aload_n hx hb dX9_forbidden_25 rfl (lv_at hl 0 rfl) ?_
      refine lv_iload_n hx hb dX9_forbidden_26 rfl (lv_at hl 1 rfl) ?_
      obtain ⟨g4, g5, g6, hv⟩ := hv
      obtain ⟨hp, hv⟩ := hv
      refine k_read_i (w := wR cy ad) (va_runV (As := [.int season_]) (rest := []) ⟨hx, hb, hml, hown, hts⟩ (h_X9_forbiddenIn D cy ad A season_ g4 g5 g6 σ3 hp) (cwV 1 hts gX9_forbidden_X9_forbiddenIn rfl rfl rfl (by decide +kernel) ⟨le_R hRf (Nat.le_of_ble_eq_true rfl), le_R hRl (Nat.le_of_ble_eq_true rfl)⟩) ⟨(fun a U g mk q => ⟨q.1, q.2.blind⟩), va_recv hK hP (ci := 9) (q0 := 0) rfl (wR_0 cy ad σ3), (fun U hU hW => ⟨rfl, WdR.pre hP hK hD hN hU hW⟩)⟩ rfl rfl hl.1 rfl (lv_room (Nat.le_of_ble_eq_true rfl)) dX9_forbidden_27 ⟨le_R hRc (Nat.le_refl 0), le_R hRs (Nat.le_refl 0)⟩) hS (fun r7 H locs hr1 hP hS => ?_)
      have hv := hv r7 hr1
      rw [hZ]; rw [hQ] at hv
      exact W.iret (v := r7) hx hb hr (fun t ht hW => ⟨⟨r7, σ3, rfl, hv, ⟨P_of ht hP, hD⟩⟩, hS.F ht⟩) hS.2.2 dX9_forbidden_30
    · have hv := hv.2 c8
      refine lv_bipush (v := (-3)) hx hb dX9_forbidden_17 (by decide) ?_
      rw [hZ]; rw [hQ] at hv
      exact W.iret (v := (-3)) hx hb hr (fun t ht hW => ⟨⟨(-3), σ0, rfl, hv, ⟨P_of ht hP, hD⟩⟩, hS.F ht⟩) hS.2.2 dX9_forbidden_19
  · have hv := hv.2 c9
    refine lv_bipush (v := (-2)) hx hb dX9_forbidden_7 (by decide) ?_
    rw [hZ]; rw [hQ] at hv
    exact W.iret (v := (-2)) hx hb hr (fun t ht hW => ⟨⟨(-2), σ0, rfl, hv, ⟨P_of ht hP, hD⟩⟩, hS.F ht⟩) hS.2.2 dX9_forbidden_9
set_option maxHeartbeats 4000000 in
set_option maxRecDepth 100000 in
theorem wk_X9_dies (l : Launch) (h_X9_endOf : Ct_X9_endOf l) (h_X9_noTale : Ct_X9_noTale l) (sp : ∀ (t_ : Int32) (ag : AS) (σ0 : S_), pre_X9_dies t_ ag σ0 → vc_X9_dies t_ σ0 (post_X9_dies t_ ag σ0)) : Ct_X9_dies l := by
  intro D cy ad A t_ ag σ0  hpre
  refine Met.ofW (cc := cX9_dies) (maxL := 3) (ret := (some .int)) (by decide) rfl ?_
  intro p e s m args below meth c s₁ B hml hv0
  obtain ⟨rfl, hP, hK, hD, hN⟩ := hv0
  have hx := B.exec
  have hb := B.bytes
  have hr := B.returns
  have hts := atoms_spec (ws := wsX9_dies) B.pre
  have hown : s.vm.findClass RX9 = some m.cls := findClass_of_methodNamed B.named
  have hlocks := B.notSynchronized
  have hv := sp t_ ag σ0 hpre
  have hl := lv_entry ([.ref (ad 0), .int t_]) (n := 3) (Nat.le_of_ble_eq_true rfl)
  rw [lg_entry_eq]
  generalize (lg_sl ([.ref (ad 0), .int t_]) ++ List.replicate (3 - (lg_sl ([.ref (ad 0), .int t_])).length) Slot.unset).toArray = ls at hl ⊢
  have hl : lv_has ls 3 [(0, .ref (ad 0)), (1, .int t_)] := hl
  refine W_gen (fun R Z H locs hR hZ hH hlo => ?_)
  have hRf : R.frames = 6 := by rw [hR]; rfl
  have hRl : R.locals = 139 := by rw [hR]; rfl
  have hRc : R.cells = 0 := by rw [hR]; rfl
  have hRs : R.slots = 0 := by rw [hR]; rfl
  have hS : va_S A s.heap H locs := by rw [hH, hlo]; exact va_S.rf
  rw [← hH] at hP
  obtain ⟨Q, hQ⟩ : ∃ q : Int32 → S_ → Prop, q = (post_X9_dies t_ ag σ0) := ⟨_, rfl⟩
  rw [← hQ] at hv
  refine lv_aload_n hx hb dX9_dies_0 rfl (lv_at hl 0 rfl) ?_
  refine lv_iload_n hx hb dX9_dies_1 rfl (lv_at hl 1 rfl) ?_
  have hp := True.intro
  refine k_read_i (w := wR cy ad) (va_runV (As := [.int t_]) (rest := []) ⟨hx, hb, hml, hown, hts⟩ (h_X9_noTale D cy ad A t_ σ0 hp) (cwV 1 hts gX9_dies_X9_noTale rfl rfl rfl (by decide +kernel) ⟨le_R hRf (Nat.le_of_ble_eq_true rfl), le_R hRl (Nat.le_of_ble_eq_true rfl)⟩) ⟨(fun a U g mk q => ⟨q.1, q.2.blind⟩), va_recv hK hP (ci := 9) (q0 := 0) rfl (wR_0 cy ad σ0), (fun U hU hW => ⟨rfl, WdR.pre hP hK hD hN hU hW⟩)⟩ rfl rfl hl.1 rfl (lv_room (Nat.le_of_ble_eq_true rfl)) dX9_dies_2 ⟨le_R hRc (Nat.le_refl 0), le_R hRs (Nat.le_refl 0)⟩) hS (fun r H locs hr1 hP hS => ?_)
  subst hr1
  refine lv_if_eq (tgt := 10) hx hb dX9_dies_5 (by decide) (fun c6 => ?_) (fun c6 => ?_)
  · have hv := hv.1 c6
    refine lv_aload_n hx hb dX9_dies_10 rfl (lv_at hl 0 rfl) ?_
    refine lv_iload_n hx hb dX9_dies_11 rfl (lv_at hl 1 rfl) ?_
    obtain ⟨g1, g2, hv⟩ := hv
    obtain ⟨hp, hv⟩ := hv
    refine k_rel_i (w := wR cy ad) (va_runV (As := [.int t_]) (rest := []) ⟨hx, hb, hml, hown, hts⟩ (h_X9_endOf D cy ad A t_ g1 g2 σ0 hp) (cwV 1 hts gX9_dies_X9_endOf rfl rfl rfl (by decide +kernel) ⟨le_R hRf (Nat.le_of_ble_eq_true rfl), le_R hRl (Nat.le_of_ble_eq_true rfl)⟩) ⟨(fun a U g mk q => ⟨q.1, q.2.blind⟩), va_recv hK hP (ci := 9) (q0 := 0) rfl (wR_0 cy ad σ0), (fun U hU hW => ⟨rfl, WdR.pre hP hK hD hN hU hW⟩)⟩ rfl rfl hl.1 rfl (lv_room (Nat.le_of_ble_eq_true rfl)) dX9_dies_12 ⟨le_R hRc (Nat.le_refl 0), le_R hRs (Nat.le_refl 0)⟩) hS (fun r4 σ3 H locs hr1 hP hD hS => ?_)
    have hv := hv r4 σ3 hr1
    refine lv_istore_n (lv' := [(2, .int r4), (0, .ref (ad 0)), (1, .int t_)]) hx hb dX9_dies_15 rfl hl (by decide) rfl (fun ls hl => ?_)
    refine lv_iload_n hx hb dX9_dies_16 rfl (lv_at hl 0 rfl) ?_
    refine lv_bipush (v := 99) hx hb dX9_dies_17 (by decide) ?_
    refine lv_icmp_ne (tgt := 27) hx hb dX9_dies_19 (by decide) (fun c5 => ?_) (fun c5 => ?_)
    · have hv := hv.1 c5
      refine lv_iload_n hx hb dX9_dies_27 rfl (lv_at hl 0 rfl) ?_
      rw [hZ]; rw [hQ] at hv
      exact W.iret (v := r4) hx hb hr (fun t ht hW => ⟨⟨r4, σ3, rfl, hv, ⟨P_of ht hP, hD⟩⟩, hS.F ht⟩) hS.2.2 dX9_dies_28
    · have hv := hv.2 c5
      refine lv_bipush (v := (-9)) hx hb dX9_dies_22 (by decide) ?_
      refine lv_goto (tgt := 28) hx hb dX9_dies_24 (by decide) ?_
      rw [hZ]; rw [hQ] at hv
      exact W.iret (v := (-9)) hx hb hr (fun t ht hW => ⟨⟨(-9), σ3, rfl, hv, ⟨P_of ht hP, hD⟩⟩, hS.F ht⟩) hS.2.2 dX9_dies_28
  · have hv := hv.2 c6
    refine lv_iconst (v := (-1)) hx hb dX9_dies_8 (by decide) ?_
    rw [hZ]; rw [hQ] at hv
    exact W.iret (v := (-1)) hx hb hr (fun t ht hW => ⟨⟨(-1), σ0, rfl, hv, ⟨P_of ht hP, hD⟩⟩, hS.F ht⟩) hS.2.2 dX9_dies_9
set_option maxHeartbeats 4000000 in
set_option maxRecDepth 100000 in
theorem wk_X9_free (l : Launch) (h_X9_begin : Ct_X9_begin l) (h_X9_forbiddenIn : Ct_X9_forbiddenIn l) (h_X9_goSeason : Ct_X9_goSeason l) (h_X9_isIn : Ct_X9_isIn l) (h_X9_refusedFor : Ct_X9_refusedFor l) (sp : ∀ (deed_ : Int32) (season_ : Int32) (ag : AS) (σ0 : S_), pre_X9_free deed_ season_ ag σ0 → vc_X9_free deed_ season_ σ0 (post_X9_free deed_ season_ ag σ0)) : Ct_X9_free l := by
  intro D cy ad A deed_ season_ ag σ0  hpre
  refine Met.ofW (cc := cX9_free) (maxL := 5) (ret := (some .int)) (by decide) rfl ?_
  intro p e s m args below meth c s₁ B hml hv0
  obtain ⟨rfl, hP, hK, hD, hN⟩ := hv0
  have hx := B.exec
  have hb := B.bytes
  have hr := B.returns
  have hts := atoms_spec (ws := wsX9_free) B.pre
  have hown : s.vm.findClass RX9 = some m.cls := findClass_of_methodNamed B.named
  have hlocks := B.notSynchronized
  have hv := sp deed_ season_ ag σ0 hpre
  have hl := lv_entry ([.ref (ad 0), .int deed_, .int season_]) (n := 5) (Nat.le_of_ble_eq_true rfl)
  rw [lg_entry_eq]
  generalize (lg_sl ([.ref (ad 0), .int deed_, .int season_]) ++ List.replicate (5 - (lg_sl ([.ref (ad 0), .int deed_, .int season_])).length) Slot.unset).toArray = ls at hl ⊢
  have hl : lv_has ls 5 [(0, .ref (ad 0)), (1, .int deed_), (2, .int season_)] := hl
  refine W_gen (fun R Z H locs hR hZ hH hlo => ?_)
  have hRf : R.frames = 5 := by rw [hR]; rfl
  have hRl : R.locals = 117 := by rw [hR]; rfl
  have hRc : R.cells = 0 := by rw [hR]; rfl
  have hRs : R.slots = 0 := by rw [hR]; rfl
  have hS : va_S A s.heap H locs := by rw [hH, hlo]; exact va_S.rf
  rw [← hH] at hP
  obtain ⟨Q, hQ⟩ : ∃ q : Int32 → S_ → Prop, q = (post_X9_free deed_ season_ ag σ0) := ⟨_, rfl⟩
  rw [← hQ] at hv
  refine lv_aload_n hx hb dX9_free_0 rfl (lv_at hl 0 rfl) ?_
  refine lv_iload_n hx hb dX9_free_1 rfl (lv_at hl 1 rfl) ?_
  refine lv_iload_n hx hb dX9_free_2 rfl (lv_at hl 2 rfl) ?_
  have hp := True.intro
  refine k_read_i (w := wR cy ad) (va_runV (As := [.int deed_, .int season_]) (rest := []) ⟨hx, hb, hml, hown, hts⟩ (h_X9_refusedFor D cy ad A deed_ season_ σ0 hp) (cwV 2 hts gX9_free_X9_refusedFor rfl rfl rfl (by decide +kernel) ⟨le_R hRf (Nat.le_of_ble_eq_true rfl), le_R hRl (Nat.le_of_ble_eq_true rfl)⟩) ⟨(fun a U g mk q => ⟨q.1, q.2.blind⟩), va_recv hK hP (ci := 9) (q0 := 0) rfl (wR_0 cy ad σ0), (fun U hU hW => ⟨rfl, WdR.pre hP hK hD hN hU hW⟩)⟩ rfl rfl hl.1 rfl (lv_room (Nat.le_of_ble_eq_true rfl)) dX9_free_3 ⟨le_R hRc (Nat.le_refl 0), le_R hRs (Nat.le_refl 0)⟩) hS (fun r H locs hr1 hP hS => ?_)
  subst hr1
  refine lv_istore_n (lv' := [(3, .int (fn_X9_refusedFor deed_ season_ σ0)), (0, .ref (ad 0)), (1, .int deed_), (2, .int season_)]) hx hb dX9_free_6 rfl hl (by decide) rfl (fun ls hl => ?_)
  refine lv_iload_n hx hb dX9_free_7 rfl (lv_at hl 0 rfl) ?_
  refine lv_if_ge (tgt := 13) hx hb dX9_free_8 (by decide) (fun c16 => ?_) (fun c16 => ?_)
  · have hv := hv.1 c16
    refine lv_aload_n hx hb dX9_free_13 rfl (lv_at hl 1 rfl) ?_
    obtain ⟨g1, hv⟩ := hv
    obtain ⟨hp, hv⟩ := hv
    refine k_rel_v (w := wR cy ad) (va_runV (As := []) (rest := []) ⟨hx, hb, hml, hown, hts⟩ (h_X9_begin D cy ad A g1 σ0 hp) (cwV 0 hts gX9_free_X9_begin rfl rfl rfl (by decide +kernel) ⟨le_R hRf (Nat.le_of_ble_eq_true rfl), le_R hRl (Nat.le_of_ble_eq_true rfl)⟩) ⟨(fun a U g mk q => ⟨q.1, q.2.blind⟩), va_recv hK hP (ci := 9) (q0 := 0) rfl (wR_0 cy ad σ0), (fun U hU hW => ⟨rfl, WdR.pre hP hK hD hN hU hW⟩)⟩ rfl rfl hl.1 rfl (lv_room (Nat.le_of_ble_eq_true rfl)) dX9_free_14 ⟨le_R hRc (Nat.le_refl 0), le_R hRs (Nat.le_refl 0)⟩) hS (fun σ2 H locs hr1 hP hD hS => ?_)
    have hv := hv σ2 hr1
    refine lv_iconst (v := 0) hx hb dX9_free_17 (by decide) ?_
    refine lv_istore (lv' := [(4, .int 0), (3, .int (fn_X9_refusedFor deed_ season_ σ0)), (0, .ref (ad 0)), (1, .int deed_), (2, .int season_)]) hx hb dX9_free_18 hl (by decide) rfl (fun ls hl => ?_)
    obtain ⟨n20, hv⟩ := hv
    have lp20 : ∀ (nn20 : Nat) (x3 : Int32) (σ4 : S_) (H : Heap) (locs : List Loc) (ls : Array Slot), vl_X9_free_20 deed_ season_ Q nn20 x3 σ4 → va_P D vwCl (wR cy ad σ4) H → va_D A (wR cy ad σ4) → va_S A s.heap H locs → lv_has ls 5 [(0, .ref (ad 0)), (1, .int deed_), (2, .int season_), (4, .int x3)] → W p l e R s m ([.ref (ad 0), .int deed_, .int season_] : List Value).toArray  below meth c H locs 0 0 Z (F0 m 20 ls []) := by
      intro nn20
      induction nn20 with
      | zero => intro x3 σ4 H locs ls hv; exact absurd hv id
      | succ mm20 ih20 =>
        intro x3 σ4 H locs ls hv hP hD hS hl
        refine lv_iload hx hb dX9_free_20 (lv_at hl 3 rfl) ?_
        refine lv_bipush (v := 40) hx hb dX9_free_22 (by decide) ?_
        refine lv_icmp_ge (tgt := 61) hx hb dX9_free_24 (by decide) (fun c15 => ?_) (fun c15 => ?_)
        · have hv := hv.1 c15
          refine lv_bipush (v := (-9)) hx hb dX9_free_61 (by decide) ?_
          rw [hZ]; rw [hQ] at hv
          exact W.iret (v := (-9)) hx hb hr (fun t ht hW => ⟨⟨(-9), σ4, rfl, hv, ⟨P_of ht hP, hD⟩⟩, hS.F ht⟩) hS.2.2 dX9_free_63
        · have hv := hv.2 c15
          refine lv_aload_n hx hb dX9_free_27 rfl (lv_at hl 0 rfl) ?_
          refine lv_iload hx hb dX9_free_28 (lv_at hl 3 rfl) ?_
          obtain ⟨g5, g6, g7, hv⟩ := hv
          obtain ⟨hp, hv⟩ := hv
          refine k_rel_v (w := wR cy ad) (va_runV (As := [.int x3]) (rest := []) ⟨hx, hb, hml, hown, hts⟩ (h_X9_goSeason D cy ad A x3 g5 g6 g7 σ4 hp) (cwV 1 hts gX9_free_X9_goSeason rfl rfl rfl (by decide +kernel) ⟨le_R hRf (Nat.le_of_ble_eq_true rfl), le_R hRl (Nat.le_of_ble_eq_true rfl)⟩) ⟨(fun a U g mk q => ⟨q.1, q.2.blind⟩), va_recv hK hP (ci := 9) (q0 := 0) rfl (wR_0 cy ad σ4), (fun U hU hW => ⟨rfl, WdR.pre hP hK hD hN hU hW⟩)⟩ rfl rfl hl.1 rfl (lv_room (Nat.le_of_ble_eq_true rfl)) dX9_free_30 ⟨le_R hRc (Nat.le_refl 0), le_R hRs (Nat.le_refl 0)⟩) hS (fun σ8 H locs hr1 hP hD hS => ?_)
          have hv := hv σ8 hr1
          refine lv_iload hx hb dX9_free_33 (lv_at hl 3 rfl) ?_
          refine lv_iload_n hx hb dX9_free_35 rfl (lv_at hl 2 rfl) ?_
          refine lv_icmp_lt (tgt := 55) hx hb dX9_free_36 (by decide) (fun c14 => ?_) (fun c14 => ?_)
          · have hv := hv.1 c14
            refine lv_iinc (v := (x3 + 1)) (lv' := [(4, .int (x3 + 1)), (0, .ref (ad 0)), (1, .int deed_), (2, .int season_)]) hx hb dX9_free_55 hl (k := 3) rfl rfl (by decide) rfl (fun ls hl => ?_)
            refine lv_goto (tgt := 20) hx hb dX9_free_58 (by decide) ?_
            exact ih20 (x3 + 1) σ8 _ _ _ hv hP hD hS (lv_sub hl [1, 2, 3, 0] rfl)
          · have hv := hv.2 c14
            refine lv_aload_n hx hb dX9_free_39 rfl (lv_at hl 0 rfl) ?_
            refine lv_iload hx hb dX9_free_40 (lv_at hl 3 rfl) ?_
            obtain ⟨g9, g10, g11, hv⟩ := hv
            obtain ⟨hp, hv⟩ := hv
            refine k_read_i (w := wR cy ad) (va_runV (As := [.int x3]) (rest := []) ⟨hx, hb, hml, hown, hts⟩ (h_X9_forbiddenIn D cy ad A x3 g9 g10 g11 σ8 hp) (cwV 1 hts gX9_free_X9_forbiddenIn rfl rfl rfl (by decide +kernel) ⟨le_R hRf (Nat.le_of_ble_eq_true rfl), le_R hRl (Nat.le_of_ble_eq_true rfl)⟩) ⟨(fun a U g mk q => ⟨q.1, q.2.blind⟩), va_recv hK hP (ci := 9) (q0 := 0) rfl (wR_0 cy ad σ8), (fun U hU hW => ⟨rfl, WdR.pre hP hK hD hN hU hW⟩)⟩ rfl rfl hl.1 rfl (lv_room (Nat.le_of_ble_eq_true rfl)) dX9_free_42 ⟨le_R hRc (Nat.le_refl 0), le_R hRs (Nat.le_refl 0)⟩) hS (fun r12 H locs hr1 hP hS => ?_)
            have hv := hv r12 hr1
            refine lv_iload_n hx hb dX9_free_45 rfl (lv_at hl 1 rfl) ?_
            refine k_pure_i (va_runS (As := [.int r12, .int deed_]) (rest := []) ⟨hx, hb, hml, hown, hts⟩ (h_X9_isIn r12 deed_) (va_cwS 2 hts gX9_free_X9_isIn rfl rfl rfl (by decide +kernel) ⟨le_R hRf (Nat.le_of_ble_eq_true rfl), le_R hRl (Nat.le_of_ble_eq_true rfl)⟩) ⟨(fun a U g mk q => ⟨q.1, trivial⟩), (fun U hU hW => ⟨rfl, trivial⟩)⟩ rfl rfl hl.1 rfl (lv_room (Nat.le_of_ble_eq_true rfl)) dX9_free_46 ⟨le_R hRc (Nat.le_refl 0), le_R hRs (Nat.le_refl 0)⟩) hS hP (fun r H locs hr1 hP hS => ?_)
            subst hr1
            refine lv_if_ne (tgt := 55) hx hb dX9_free_49 (by decide) (fun c13 => ?_) (fun c13 => ?_)
            · have hv := hv.1 c13
              refine lv_iinc (v := (x3 + 1)) (lv' := [(4, .int (x3 + 1)), (0, .ref (ad 0)), (1, .int deed_), (2, .int season_)]) hx hb dX9_free_55 hl (k := 3) rfl rfl (by decide) rfl (fun ls hl => ?_)
              refine lv_goto (tgt := 20) hx hb dX9_free_58 (by decide) ?_
              exact ih20 (x3 + 1) σ8 _ _ _ hv hP hD hS (lv_sub hl [1, 2, 3, 0] rfl)
            · have hv := hv.2 c13
              refine lv_iload hx hb dX9_free_52 (lv_at hl 3 rfl) ?_
              rw [hZ]; rw [hQ] at hv
              exact W.iret (v := x3) hx hb hr (fun t ht hW => ⟨⟨x3, σ8, rfl, hv, ⟨P_of ht hP, hD⟩⟩, hS.F ht⟩) hS.2.2 dX9_free_54
    exact lp20 n20 0 σ2 _ _ _ hv hP hD hS (lv_sub hl [2, 3, 4, 0] rfl)
  · have hv := hv.2 c16
    refine lv_iload_n hx hb dX9_free_11 rfl (lv_at hl 0 rfl) ?_
    rw [hZ]; rw [hQ] at hv
    exact W.iret (v := (fn_X9_refusedFor deed_ season_ σ0)) hx hb hr (fun t ht hW => ⟨⟨(fn_X9_refusedFor deed_ season_ σ0), σ0, rfl, hv, ⟨P_of ht hP, hD⟩⟩, hS.F ht⟩) hS.2.2 dX9_free_12
set_option maxHeartbeats 4000000 in
set_option maxRecDepth 100000 in
theorem wk_X9_fewest (l : Launch) (h_X9_all : Ct_X9_all l) (h_X9_bits : Ct_X9_bits l) (h_X9_isForbidden : Ct_X9_isForbidden l) (h_X9_refusedFor : Ct_X9_refusedFor l) (sp : ∀ (deed_ : Int32) (season_ : Int32) (ag : AS) (σ0 : S_), pre_X9_fewest deed_ season_ ag σ0 → vc_X9_fewest deed_ season_ σ0 (post_X9_fewest deed_ season_ ag σ0)) : Ct_X9_fewest l := by
  intro D cy ad A deed_ season_ ag σ0  hpre
  refine Met.ofW (cc := cX9_fewest) (maxL := 7) (ret := (some .int)) (by decide) rfl ?_
  intro p e s m args below meth c s₁ B hml hv0
  obtain ⟨rfl, hP, hK, hD, hN⟩ := hv0
  have hx := B.exec
  have hb := B.bytes
  have hr := B.returns
  have hts := atoms_spec (ws := wsX9_fewest) B.pre
  have hown : s.vm.findClass RX9 = some m.cls := findClass_of_methodNamed B.named
  have hlocks := B.notSynchronized
  have hv := sp deed_ season_ ag σ0 hpre
  have hl := lv_entry ([.ref (ad 0), .int deed_, .int season_]) (n := 7) (Nat.le_of_ble_eq_true rfl)
  rw [lg_entry_eq]
  generalize (lg_sl ([.ref (ad 0), .int deed_, .int season_]) ++ List.replicate (7 - (lg_sl ([.ref (ad 0), .int deed_, .int season_])).length) Slot.unset).toArray = ls at hl ⊢
  have hl : lv_has ls 7 [(0, .ref (ad 0)), (1, .int deed_), (2, .int season_)] := hl
  refine W_gen (fun R Z H locs hR hZ hH hlo => ?_)
  have hRf : R.frames = 7 := by rw [hR]; rfl
  have hRl : R.locals = 161 := by rw [hR]; rfl
  have hRc : R.cells = 0 := by rw [hR]; rfl
  have hRs : R.slots = 0 := by rw [hR]; rfl
  have hS : va_S A s.heap H locs := by rw [hH, hlo]; exact va_S.rf
  rw [← hH] at hP
  obtain ⟨Q, hQ⟩ : ∃ q : Int32 → S_ → Prop, q = (post_X9_fewest deed_ season_ ag σ0) := ⟨_, rfl⟩
  rw [← hQ] at hv
  have hinX9 : ∀ w ∈ wsX90, w ∈ wsX9_fewest := by decide +kernel
  refine lv_aload_n hx hb dX9_fewest_0 rfl (lv_at hl 0 rfl) ?_
  refine lv_iload_n hx hb dX9_fewest_1 rfl (lv_at hl 1 rfl) ?_
  refine lv_iload_n hx hb dX9_fewest_2 rfl (lv_at hl 2 rfl) ?_
  have hp := True.intro
  refine k_read_i (w := wR cy ad) (va_runV (As := [.int deed_, .int season_]) (rest := []) ⟨hx, hb, hml, hown, hts⟩ (h_X9_refusedFor D cy ad A deed_ season_ σ0 hp) (cwV 2 hts gX9_fewest_X9_refusedFor rfl rfl rfl (by decide +kernel) ⟨le_R hRf (Nat.le_of_ble_eq_true rfl), le_R hRl (Nat.le_of_ble_eq_true rfl)⟩) ⟨(fun a U g mk q => ⟨q.1, q.2.blind⟩), va_recv hK hP (ci := 9) (q0 := 0) rfl (wR_0 cy ad σ0), (fun U hU hW => ⟨rfl, WdR.pre hP hK hD hN hU hW⟩)⟩ rfl rfl hl.1 rfl (lv_room (Nat.le_of_ble_eq_true rfl)) dX9_fewest_3 ⟨le_R hRc (Nat.le_refl 0), le_R hRs (Nat.le_refl 0)⟩) hS (fun r H locs hr1 hP hS => ?_)
  subst hr1
  refine lv_istore_n (lv' := [(3, .int (fn_X9_refusedFor deed_ season_ σ0)), (0, .ref (ad 0)), (1, .int deed_), (2, .int season_)]) hx hb dX9_fewest_6 rfl hl (by decide) rfl (fun ls hl => ?_)
  refine lv_iload_n hx hb dX9_fewest_7 rfl (lv_at hl 0 rfl) ?_
  refine lv_if_ge (tgt := 13) hx hb dX9_fewest_8 (by decide) (fun c32 => ?_) (fun c32 => ?_)
  · have hv := hv.1 c32
    refine lv_aload_n hx hb dX9_fewest_13 rfl (lv_at hl 1 rfl) ?_
    refine va_get (ci := 9) (v := .int (rdI σ0 2)) (C := RX9) (T := TX9) (N := 38) hx hb hts hinX9 hown hK hP 0 (wR_0 cy ad σ0) rfl 5 (by decide) (hts (.fieldLink RX9 158 "TaleBansModel" "paidNow" "I") (List.mem_of_getElem? (i := 1) rfl)) (fun x h => h) rfl dX9_fewest_14 ?_
    refine lv_istore (lv' := [(4, .int (rdI σ0 2)), (3, .int (fn_X9_refusedFor deed_ season_ σ0)), (0, .ref (ad 0)), (1, .int deed_), (2, .int season_)]) hx hb dX9_fewest_17 hl (by decide) rfl (fun ls hl => ?_)
    refine lv_bipush (v := (-9)) hx hb dX9_fewest_19 (by decide) ?_
    refine lv_istore (lv' := [(5, .int (-9)), (4, .int (rdI σ0 2)), (3, .int (fn_X9_refusedFor deed_ season_ σ0)), (0, .ref (ad 0)), (1, .int deed_), (2, .int season_)]) hx hb dX9_fewest_21 hl (by decide) rfl (fun ls hl => ?_)
    refine lv_iconst (v := 0) hx hb dX9_fewest_23 (by decide) ?_
    refine lv_istore (lv' := [(6, .int 0), (5, .int (-9)), (4, .int (rdI σ0 2)), (3, .int (fn_X9_refusedFor deed_ season_ σ0)), (0, .ref (ad 0)), (1, .int deed_), (2, .int season_)]) hx hb dX9_fewest_24 hl (by decide) rfl (fun ls hl => ?_)
    obtain ⟨n26, hv⟩ := hv
    have lp26 : ∀ (nn26 : Nat) (x1 : Int32) (x2 : Int32) (σ3 : S_) (H : Heap) (locs : List Loc) (ls : Array Slot), vl_X9_fewest_26 deed_ season_ σ0 Q nn26 x1 x2 σ3 → va_P D vwCl (wR cy ad σ3) H → va_D A (wR cy ad σ3) → va_S A s.heap H locs → lv_has ls 7 [(0, .ref (ad 0)), (1, .int deed_), (2, .int season_), (4, .int (rdI σ0 2)), (5, .int x1), (6, .int x2)] → W p l e R s m ([.ref (ad 0), .int deed_, .int season_] : List Value).toArray  below meth c H locs 0 0 Z (F0 m 26 ls []) := by
      intro nn26
      induction nn26 with
      | zero => intro x1 x2 σ3 H locs ls hv; exact absurd hv id
      | succ mm26 ih26 =>
        intro x1 x2 σ3 H locs ls hv hP hD hS hl
        refine lv_iload hx hb dX9_fewest_26 (lv_at hl 5 rfl) ?_
        refine lv_aload_n hx hb dX9_fewest_28 rfl (lv_at hl 0 rfl) ?_
        have hp := True.intro
        refine k_read_i (w := wR cy ad) (va_runV (As := []) (rest := [.int x2]) ⟨hx, hb, hml, hown, hts⟩ (h_X9_all D cy ad A σ3 hp) (cwV 0 hts gX9_fewest_X9_all rfl rfl rfl (by decide +kernel) ⟨le_R hRf (Nat.le_of_ble_eq_true rfl), le_R hRl (Nat.le_of_ble_eq_true rfl)⟩) ⟨(fun a U g mk q => ⟨q.1, q.2.blind⟩), va_recv hK hP (ci := 9) (q0 := 0) rfl (wR_0 cy ad σ3), (fun U hU hW => ⟨rfl, WdR.pre hP hK hD hN hU hW⟩)⟩ rfl rfl hl.1 rfl (lv_room (Nat.le_of_ble_eq_true rfl)) dX9_fewest_29 ⟨le_R hRc (Nat.le_refl 0), le_R hRs (Nat.le_refl 0)⟩) hS (fun r H locs hr1 hP hS => ?_)
        subst hr1
        refine lv_icmp_gt (tgt := 94) hx hb dX9_fewest_32 (by decide) (fun c31 => ?_) (fun c31 => ?_)
        · have hv := hv.1 c31
          refine lv_aload_n hx hb dX9_fewest_94 rfl (lv_at hl 0 rfl) ?_
          refine lv_iload hx hb dX9_fewest_95 (lv_at hl 3 rfl) ?_
          refine va_put (ci := 9) (v := .int (rdI σ0 2)) (ty := .int) (C := RX9) (T := TX9) (N := 38) hx hb hts hinX9 tyX9 tyX9_ok nmX9 hown hK hP hD hS 0 (wR_0 cy ad σ3) rfl 5 (by decide) (hts (.fieldLink RX9 158 "TaleBansModel" "paidNow" "I") (List.mem_of_getElem? (i := 1) rfl)) (fun x h => h) rfl (by decide +kernel) rfl rfl (Nat.le_of_ble_eq_true rfl) dX9_fewest_97 (fun H locs hP hD hS => ?_)
          obtain ⟨σ4, e5⟩ : ∃ y : S_, y = wrI σ3 2 (rdI σ0 2) := ⟨_, rfl⟩
          have hP : va_P D vwCl (wR cy ad σ4) H := by rw [e5]; exact hP
          have hD : va_D A (wR cy ad σ4) := by rw [e5]; exact hD
          have hv := hv σ4 e5
          refine lv_iload hx hb dX9_fewest_100 (lv_at hl 4 rfl) ?_
          rw [hZ]; rw [hQ] at hv
          exact W.iret (v := x1) hx hb hr (fun t ht hW => ⟨⟨x1, σ4, rfl, hv, ⟨P_of ht hP, hD⟩⟩, hS.F ht⟩) hS.2.2 dX9_fewest_102
        · have hv := hv.2 c31
          refine lv_iload hx hb dX9_fewest_35 (lv_at hl 5 rfl) ?_
          refine lv_iload hx hb dX9_fewest_37 (lv_at hl 3 rfl) ?_
          refine lv_iand hx hb dX9_fewest_39 ?_
          refine lv_if_ne (tgt := 88) hx hb dX9_fewest_40 (by decide) (fun c30 => ?_) (fun c30 => ?_)
          · have hv := hv.1 c30
            refine lv_iinc (v := (x2 + 1)) (lv' := [(6, .int (x2 + 1)), (0, .ref (ad 0)), (1, .int deed_), (2, .int season_), (4, .int (rdI σ0 2)), (5, .int x1)]) hx hb dX9_fewest_88 hl (k := 5) rfl rfl (by decide) rfl (fun ls hl => ?_)
            refine lv_goto (tgt := 26) hx hb dX9_fewest_91 (by decide) ?_
            exact ih26 x1 (x2 + 1) σ3 _ _ _ hv hP hD hS (lv_sub hl [1, 2, 3, 4, 5, 0] rfl)
          · have hv := hv.2 c30
            refine lv_iload hx hb dX9_fewest_43 (lv_at hl 4 rfl) ?_
            refine lv_if_lt (tgt := 61) hx hb dX9_fewest_45 (by decide) (fun c29 => ?_) (fun c29 => ?_)
            · have hv := hv.1 c29
              refine lv_aload_n hx hb dX9_fewest_61 rfl (lv_at hl 0 rfl) ?_
              refine lv_iload hx hb dX9_fewest_62 (lv_at hl 3 rfl) ?_
              refine lv_iload hx hb dX9_fewest_64 (lv_at hl 5 rfl) ?_
              refine lv_ior hx hb dX9_fewest_66 ?_
              refine va_put (ci := 9) (v := .int ((rdI σ0 2) ||| x2)) (ty := .int) (C := RX9) (T := TX9) (N := 38) hx hb hts hinX9 tyX9 tyX9_ok nmX9 hown hK hP hD hS 0 (wR_0 cy ad σ3) rfl 5 (by decide) (hts (.fieldLink RX9 158 "TaleBansModel" "paidNow" "I") (List.mem_of_getElem? (i := 1) rfl)) (fun x h => h) rfl (by decide +kernel) rfl rfl (Nat.le_of_ble_eq_true rfl) dX9_fewest_67 (fun H locs hP hD hS => ?_)
              obtain ⟨σ6, e7⟩ : ∃ y : S_, y = wrI σ3 2 ((rdI σ0 2) ||| x2) := ⟨_, rfl⟩
              have hP : va_P D vwCl (wR cy ad σ6) H := by rw [e7]; exact hP
              have hD : va_D A (wR cy ad σ6) := by rw [e7]; exact hD
              have hv := hv σ6 e7
              refine lv_aload_n hx hb dX9_fewest_70 rfl (lv_at hl 0 rfl) ?_
              refine lv_iload_n hx hb dX9_fewest_71 rfl (lv_at hl 1 rfl) ?_
              refine lv_iload_n hx hb dX9_fewest_72 rfl (lv_at hl 2 rfl) ?_
              obtain ⟨g8, g9, g10, hv⟩ := hv
              obtain ⟨hp, hv⟩ := hv
              refine k_rel_i (w := wR cy ad) (va_runV (As := [.int deed_, .int season_]) (rest := []) ⟨hx, hb, hml, hown, hts⟩ (h_X9_isForbidden D cy ad A deed_ season_ g8 g9 g10 σ6 hp) (cwV 2 hts gX9_fewest_X9_isForbidden rfl rfl rfl (by decide +kernel) ⟨le_R hRf (Nat.le_of_ble_eq_true rfl), le_R hRl (Nat.le_of_ble_eq_true rfl)⟩) ⟨(fun a U g mk q => ⟨q.1, q.2.blind⟩), va_recv hK hP (ci := 9) (q0 := 0) rfl (wR_0 cy ad σ6), (fun U hU hW => ⟨rfl, WdR.pre hP hK hD hN hU hW⟩)⟩ rfl rfl hl.1 rfl (lv_room (Nat.le_of_ble_eq_true rfl)) dX9_fewest_73 ⟨le_R hRc (Nat.le_refl 0), le_R hRs (Nat.le_refl 0)⟩) hS (fun r12 σ11 H locs hr1 hP hD hS => ?_)
              have hv := hv r12 σ11 hr1
              obtain ⟨P13, hv, hvr⟩ := hv
              have jn14 : ∀ (b15 : Int32) (H : Heap) (locs : List Loc) (ls : Array Slot), P13 b15 → va_P D vwCl (wR cy ad σ11) H → va_S A s.heap H locs → lv_has ls 7 [(0, .ref (ad 0)), (1, .int deed_), (2, .int season_), (4, .int (rdI σ0 2)), (5, .int x1), (6, .int x2)] → W p l e R s m ([.ref (ad 0), .int deed_, .int season_] : List Value).toArray below meth c H locs 0 0 Z (F0 m 86 ls [.int b15]) := by
                intro b15 H locs ls hv hP hS hl
                have hv := hvr b15 hv
                refine lv_istore (lv' := [(5, .int b15), (0, .ref (ad 0)), (1, .int deed_), (2, .int season_), (4, .int (rdI σ0 2)), (6, .int x2)]) hx hb dX9_fewest_86 hl (by decide) rfl (fun ls hl => ?_)
                refine lv_iinc (v := (x2 + 1)) (lv' := [(6, .int (x2 + 1)), (5, .int b15), (0, .ref (ad 0)), (1, .int deed_), (2, .int season_), (4, .int (rdI σ0 2))]) hx hb dX9_fewest_88 hl (k := 5) rfl rfl (by decide) rfl (fun ls hl => ?_)
                refine lv_goto (tgt := 26) hx hb dX9_fewest_91 (by decide) ?_
                exact ih26 b15 (x2 + 1) σ11 _ _ _ hv hP hD hS (lv_sub hl [2, 3, 4, 5, 1, 0] rfl)
              refine lv_if_eq (tgt := 84) hx hb dX9_fewest_76 (by decide) (fun c16 => ?_) (fun c16 => ?_)
              · have hv := hv.1 c16
                refine lv_iload hx hb dX9_fewest_84 (lv_at hl 5 rfl) ?_
                exact jn14 x2 _ _ _ hv hP hS hl
              · have hv := hv.2 c16
                refine lv_iload hx hb dX9_fewest_79 (lv_at hl 4 rfl) ?_
                refine lv_goto (tgt := 86) hx hb dX9_fewest_81 (by decide) ?_
                exact jn14 x1 _ _ _ hv hP hS hl
            · have hv := hv.2 c29
              refine lv_iload hx hb dX9_fewest_48 (lv_at hl 5 rfl) ?_
              refine k_pure_i (va_runS (As := [.int x2]) (rest := []) ⟨hx, hb, hml, hown, hts⟩ (h_X9_bits x2) (va_cwS 1 hts gX9_fewest_X9_bits rfl rfl rfl (by decide +kernel) ⟨le_R hRf (Nat.le_of_ble_eq_true rfl), le_R hRl (Nat.le_of_ble_eq_true rfl)⟩) ⟨(fun a U g mk q => ⟨q.1, trivial⟩), (fun U hU hW => ⟨rfl, trivial⟩)⟩ rfl rfl hl.1 rfl (lv_room (Nat.le_of_ble_eq_true rfl)) dX9_fewest_50 ⟨le_R hRc (Nat.le_refl 0), le_R hRs (Nat.le_refl 0)⟩) hS hP (fun r H locs hr1 hP hS => ?_)
              subst hr1
              refine lv_iload hx hb dX9_fewest_53 (lv_at hl 4 rfl) ?_
              refine k_pure_i (va_runS (As := [.int x1]) (rest := [.int (fn_X9_bits x2)]) ⟨hx, hb, hml, hown, hts⟩ (h_X9_bits x1) (va_cwS 1 hts gX9_fewest_X9_bits rfl rfl rfl (by decide +kernel) ⟨le_R hRf (Nat.le_of_ble_eq_true rfl), le_R hRl (Nat.le_of_ble_eq_true rfl)⟩) ⟨(fun a U g mk q => ⟨q.1, trivial⟩), (fun U hU hW => ⟨rfl, trivial⟩)⟩ rfl rfl hl.1 rfl (lv_room (Nat.le_of_ble_eq_true rfl)) dX9_fewest_55 ⟨le_R hRc (Nat.le_refl 0), le_R hRs (Nat.le_refl 0)⟩) hS hP (fun r H locs hr1 hP hS => ?_)
              subst hr1
              refine lv_icmp_ge (tgt := 88) hx hb dX9_fewest_58 (by decide) (fun c28 => ?_) (fun c28 => ?_)
              · have hv := hv.1 c28
                refine lv_iinc (v := (x2 + 1)) (lv' := [(6, .int (x2 + 1)), (0, .ref (ad 0)), (1, .int deed_), (2, .int season_), (4, .int (rdI σ0 2)), (5, .int x1)]) hx hb dX9_fewest_88 hl (k := 5) rfl rfl (by decide) rfl (fun ls hl => ?_)
                refine lv_goto (tgt := 26) hx hb dX9_fewest_91 (by decide) ?_
                exact ih26 x1 (x2 + 1) σ3 _ _ _ hv hP hD hS (lv_sub hl [1, 2, 3, 4, 5, 0] rfl)
              · have hv := hv.2 c28
                refine lv_aload_n hx hb dX9_fewest_61 rfl (lv_at hl 0 rfl) ?_
                refine lv_iload hx hb dX9_fewest_62 (lv_at hl 3 rfl) ?_
                refine lv_iload hx hb dX9_fewest_64 (lv_at hl 5 rfl) ?_
                refine lv_ior hx hb dX9_fewest_66 ?_
                refine va_put (ci := 9) (v := .int ((rdI σ0 2) ||| x2)) (ty := .int) (C := RX9) (T := TX9) (N := 38) hx hb hts hinX9 tyX9 tyX9_ok nmX9 hown hK hP hD hS 0 (wR_0 cy ad σ3) rfl 5 (by decide) (hts (.fieldLink RX9 158 "TaleBansModel" "paidNow" "I") (List.mem_of_getElem? (i := 1) rfl)) (fun x h => h) rfl (by decide +kernel) rfl rfl (Nat.le_of_ble_eq_true rfl) dX9_fewest_67 (fun H locs hP hD hS => ?_)
                obtain ⟨σ17, e18⟩ : ∃ y : S_, y = wrI σ3 2 ((rdI σ0 2) ||| x2) := ⟨_, rfl⟩
                have hP : va_P D vwCl (wR cy ad σ17) H := by rw [e18]; exact hP
                have hD : va_D A (wR cy ad σ17) := by rw [e18]; exact hD
                have hv := hv σ17 e18
                refine lv_aload_n hx hb dX9_fewest_70 rfl (lv_at hl 0 rfl) ?_
                refine lv_iload_n hx hb dX9_fewest_71 rfl (lv_at hl 1 rfl) ?_
                refine lv_iload_n hx hb dX9_fewest_72 rfl (lv_at hl 2 rfl) ?_
                obtain ⟨g19, g20, g21, hv⟩ := hv
                obtain ⟨hp, hv⟩ := hv
                refine k_rel_i (w := wR cy ad) (va_runV (As := [.int deed_, .int season_]) (rest := []) ⟨hx, hb, hml, hown, hts⟩ (h_X9_isForbidden D cy ad A deed_ season_ g19 g20 g21 σ17 hp) (cwV 2 hts gX9_fewest_X9_isForbidden rfl rfl rfl (by decide +kernel) ⟨le_R hRf (Nat.le_of_ble_eq_true rfl), le_R hRl (Nat.le_of_ble_eq_true rfl)⟩) ⟨(fun a U g mk q => ⟨q.1, q.2.blind⟩), va_recv hK hP (ci := 9) (q0 := 0) rfl (wR_0 cy ad σ17), (fun U hU hW => ⟨rfl, WdR.pre hP hK hD hN hU hW⟩)⟩ rfl rfl hl.1 rfl (lv_room (Nat.le_of_ble_eq_true rfl)) dX9_fewest_73 ⟨le_R hRc (Nat.le_refl 0), le_R hRs (Nat.le_refl 0)⟩) hS (fun r23 σ22 H locs hr1 hP hD hS => ?_)
                have hv := hv r23 σ22 hr1
                obtain ⟨P24, hv, hvr⟩ := hv
                have jn25 : ∀ (b26 : Int32) (H : Heap) (locs : List Loc) (ls : Array Slot), P24 b26 → va_P D vwCl (wR cy ad σ22) H → va_S A s.heap H locs → lv_has ls 7 [(0, .ref (ad 0)), (1, .int deed_), (2, .int season_), (4, .int (rdI σ0 2)), (5, .int x1), (6, .int x2)] → W p l e R s m ([.ref (ad 0), .int deed_, .int season_] : List Value).toArray below meth c H locs 0 0 Z (F0 m 86 ls [.int b26]) := by
                  intro b26 H locs ls hv hP hS hl
                  have hv := hvr b26 hv
                  refine lv_istore (lv' := [(5, .int b26), (0, .ref (ad 0)), (1, .int deed_), (2, .int season_), (4, .int (rdI σ0 2)), (6, .int x2)]) hx hb dX9_fewest_86 hl (by decide) rfl (fun ls hl => ?_)
                  refine lv_iinc (v := (x2 + 1)) (lv' := [(6, .int (x2 + 1)), (5, .int b26), (0, .ref (ad 0)), (1, .int deed_), (2, .int season_), (4, .int (rdI σ0 2))]) hx hb dX9_fewest_88 hl (k := 5) rfl rfl (by decide) rfl (fun ls hl => ?_)
                  refine lv_goto (tgt := 26) hx hb dX9_fewest_91 (by decide) ?_
                  exact ih26 b26 (x2 + 1) σ22 _ _ _ hv hP hD hS (lv_sub hl [2, 3, 4, 5, 1, 0] rfl)
                refine lv_if_eq (tgt := 84) hx hb dX9_fewest_76 (by decide) (fun c27 => ?_) (fun c27 => ?_)
                · have hv := hv.1 c27
                  refine lv_iload hx hb dX9_fewest_84 (lv_at hl 5 rfl) ?_
                  exact jn25 x2 _ _ _ hv hP hS hl
                · have hv := hv.2 c27
                  refine lv_iload hx hb dX9_fewest_79 (lv_at hl 4 rfl) ?_
                  refine lv_goto (tgt := 86) hx hb dX9_fewest_81 (by decide) ?_
                  exact jn25 x1 _ _ _ hv hP hS hl
    exact lp26 n26 (-9) 0 σ0 _ _ _ hv hP hD hS (lv_sub hl [4, 5, 6, 2, 1, 0] rfl)
  · have hv := hv.2 c32
    refine lv_iload_n hx hb dX9_fewest_11 rfl (lv_at hl 0 rfl) ?_
    rw [hZ]; rw [hQ] at hv
    exact W.iret (v := (fn_X9_refusedFor deed_ season_ σ0)) hx hb hr (fun t ht hW => ⟨⟨(fn_X9_refusedFor deed_ season_ σ0), σ0, rfl, hv, ⟨P_of ht hP, hD⟩⟩, hS.F ht⟩) hS.2.2 dX9_fewest_12
set_option maxHeartbeats 4000000 in
set_option maxRecDepth 100000 in
theorem wk_X9_longest (l : Launch) (h_X9_endOf : Ct_X9_endOf l) (h_X9_in : Ct_X9_in l) (h_X9_isSeason : Ct_X9_isSeason l) (sp : ∀ (season_ : Int32) (what_ : Int32) (ag : AS) (σ0 : S_), pre_X9_longest season_ what_ ag σ0 → vc_X9_longest season_ what_ σ0 (post_X9_longest season_ what_ ag σ0)) : Ct_X9_longest l := by
  intro D cy ad A season_ what_ ag σ0  hpre
  refine Met.ofW (cc := cX9_longest) (maxL := 7) (ret := (some .int)) (by decide) rfl ?_
  intro p e s m args below meth c s₁ B hml hv0
  obtain ⟨rfl, hP, hK, hD, hN⟩ := hv0
  have hx := B.exec
  have hb := B.bytes
  have hr := B.returns
  have hts := atoms_spec (ws := wsX9_longest) B.pre
  have hown : s.vm.findClass RX9 = some m.cls := findClass_of_methodNamed B.named
  have hlocks := B.notSynchronized
  have hv := sp season_ what_ ag σ0 hpre
  have hl := lv_entry ([.ref (ad 0), .int season_, .int what_]) (n := 7) (Nat.le_of_ble_eq_true rfl)
  rw [lg_entry_eq]
  generalize (lg_sl ([.ref (ad 0), .int season_, .int what_]) ++ List.replicate (7 - (lg_sl ([.ref (ad 0), .int season_, .int what_])).length) Slot.unset).toArray = ls at hl ⊢
  have hl : lv_has ls 7 [(0, .ref (ad 0)), (1, .int season_), (2, .int what_)] := hl
  refine W_gen (fun R Z H locs hR hZ hH hlo => ?_)
  have hRf : R.frames = 6 := by rw [hR]; rfl
  have hRl : R.locals = 139 := by rw [hR]; rfl
  have hRc : R.cells = 0 := by rw [hR]; rfl
  have hRs : R.slots = 0 := by rw [hR]; rfl
  have hS : va_S A s.heap H locs := by rw [hH, hlo]; exact va_S.rf
  rw [← hH] at hP
  obtain ⟨Q, hQ⟩ : ∃ q : Int32 → S_ → Prop, q = (post_X9_longest season_ what_ ag σ0) := ⟨_, rfl⟩
  rw [← hQ] at hv
  have hinX9 : ∀ w ∈ wsX90, w ∈ wsX9_longest := by decide +kernel
  refine lv_iload_n hx hb dX9_longest_0 rfl (lv_at hl 1 rfl) ?_
  refine k_pure_i (va_runS (As := [.int season_]) (rest := []) ⟨hx, hb, hml, hown, hts⟩ (h_X9_isSeason season_) (va_cwS 1 hts gX9_longest_X9_isSeason rfl rfl rfl (by decide +kernel) ⟨le_R hRf (Nat.le_of_ble_eq_true rfl), le_R hRl (Nat.le_of_ble_eq_true rfl)⟩) ⟨(fun a U g mk q => ⟨q.1, trivial⟩), (fun U hU hW => ⟨rfl, trivial⟩)⟩ rfl rfl hl.1 rfl (lv_room (Nat.le_of_ble_eq_true rfl)) dX9_longest_1 ⟨le_R hRc (Nat.le_refl 0), le_R hRs (Nat.le_refl 0)⟩) hS hP (fun r H locs hr1 hP hS => ?_)
  subst hr1
  refine lv_if_eq (tgt := 17) hx hb dX9_longest_4 (by decide) (fun c35 => ?_) (fun c35 => ?_)
  · have hv := hv.1 c35
    refine lv_bipush (v := (-2)) hx hb dX9_longest_17 (by decide) ?_
    rw [hZ]; rw [hQ] at hv
    exact W.iret (v := (-2)) hx hb hr (fun t ht hW => ⟨⟨(-2), σ0, rfl, hv, ⟨P_of ht hP, hD⟩⟩, hS.F ht⟩) hS.2.2 dX9_longest_19
  · have hv := hv.2 c35
    refine lv_iload_n hx hb dX9_longest_7 rfl (lv_at hl 2 rfl) ?_
    refine lv_i2l hx hb dX9_longest_8 rfl ?_
    refine lv_lconst (v := 0) hx hb dX9_longest_9 rfl ?_
    refine lv_lconst (v := 1) hx hb dX9_longest_10 rfl ?_
    refine k_pure_i (va_runS (As := [.long (Int32.toInt64 what_), .long 0, .long 1]) (rest := []) ⟨hx, hb, hml, hown, hts⟩ (h_X9_in (Int32.toInt64 what_) 0 1) (va_cwS 3 hts gX9_longest_X9_in rfl rfl rfl (by decide +kernel) ⟨le_R hRf (Nat.le_of_ble_eq_true rfl), le_R hRl (Nat.le_of_ble_eq_true rfl)⟩) ⟨(fun a U g mk q => ⟨q.1, trivial⟩), (fun U hU hW => ⟨rfl, trivial⟩)⟩ rfl rfl hl.1 rfl (lv_room (Nat.le_of_ble_eq_true rfl)) dX9_longest_11 ⟨le_R hRc (Nat.le_refl 0), le_R hRs (Nat.le_refl 0)⟩) hS hP (fun r H locs hr1 hP hS => ?_)
    subst hr1
    refine lv_if_ne (tgt := 20) hx hb dX9_longest_14 (by decide) (fun c34 => ?_) (fun c34 => ?_)
    · have hv := hv.1 c34
      refine lv_aload_n hx hb dX9_longest_20 rfl (lv_at hl 0 rfl) ?_
      refine va_get (ci := 9) (v := .int (rdI σ0 1)) (C := RX9) (T := TX9) (N := 38) hx hb hts hinX9 hown hK hP 0 (wR_0 cy ad σ0) rfl 1 (by decide) (hts (.fieldLink RX9 102 "TaleBansModel" "persons" "I") (List.mem_of_getElem? (i := 1) rfl)) (fun x h => h) rfl dX9_longest_21 ?_
      refine lv_if_ne (tgt := 30) hx hb dX9_longest_24 (by decide) (fun c33 => ?_) (fun c33 => ?_)
      · have hv := hv.1 c33
        refine lv_aload_n hx hb dX9_longest_30 rfl (lv_at hl 0 rfl) ?_
        refine va_get (ci := 9) (v := .int (rdI σ0 6)) (C := RX9) (T := TX9) (N := 38) hx hb hts hinX9 hown hK hP 0 (wR_0 cy ad σ0) rfl 12 (by decide) (hts (.fieldLink RX9 109 "TaleBansModel" "tales" "I") (List.mem_of_getElem? (i := 2) rfl)) (fun x h => h) rfl dX9_longest_31 ?_
        refine lv_bipush (v := 6) hx hb dX9_longest_34 (by decide) ?_
        refine lv_icmp_ne (tgt := 42) hx hb dX9_longest_36 (by decide) (fun c32 => ?_) (fun c32 => ?_)
        · have hv := hv.1 c32
          refine lv_bipush (v := (-9)) hx hb dX9_longest_42 (by decide) ?_
          refine lv_istore_n (lv' := [(3, .int (-9)), (0, .ref (ad 0)), (1, .int season_), (2, .int what_)]) hx hb dX9_longest_44 rfl hl (by decide) rfl (fun ls hl => ?_)
          refine lv_iconst (v := (-1)) hx hb dX9_longest_45 (by decide) ?_
          refine lv_istore (lv' := [(4, .int (-1)), (3, .int (-9)), (0, .ref (ad 0)), (1, .int season_), (2, .int what_)]) hx hb dX9_longest_46 hl (by decide) rfl (fun ls hl => ?_)
          refine lv_aload_n hx hb dX9_longest_48 rfl (lv_at hl 2 rfl) ?_
          refine lv_dup hx hb dX9_longest_49 rfl ?_
          refine va_get (ci := 9) (v := .int (rdI σ0 6)) (C := RX9) (T := TX9) (N := 38) hx hb hts hinX9 hown hK hP 0 (wR_0 cy ad σ0) rfl 12 (by decide) (hts (.fieldLink RX9 109 "TaleBansModel" "tales" "I") (List.mem_of_getElem? (i := 2) rfl)) (fun x h => h) rfl dX9_longest_50 ?_
          refine lv_iconst (v := 1) hx hb dX9_longest_53 (by decide) ?_
          refine lv_iadd hx hb dX9_longest_54 ?_
          refine va_put (ci := 9) (v := .int ((rdI σ0 6) + 1)) (ty := .int) (C := RX9) (T := TX9) (N := 38) hx hb hts hinX9 tyX9 tyX9_ok nmX9 hown hK hP hD hS 0 (wR_0 cy ad σ0) rfl 12 (by decide) (hts (.fieldLink RX9 109 "TaleBansModel" "tales" "I") (List.mem_of_getElem? (i := 2) rfl)) (fun x h => h) rfl (by decide +kernel) rfl rfl (Nat.le_of_ble_eq_true rfl) dX9_longest_55 (fun H locs hP hD hS => ?_)
          obtain ⟨σ1, e2⟩ : ∃ y : S_, y = wrI σ0 6 ((rdI σ0 6) + 1) := ⟨_, rfl⟩
          have hP : va_P D vwCl (wR cy ad σ1) H := by rw [e2]; exact hP
          have hD : va_D A (wR cy ad σ1) := by rw [e2]; exact hD
          have hv := hv σ1 e2
          refine lv_aload_n hx hb dX9_longest_58 rfl (lv_at hl 2 rfl) ?_
          refine va_get (ci := 9) (v := .ref (ad (7))) (C := RX9) (T := TX9) (N := 38) hx hb hts hinX9 hown hK hP 0 (wR_0 cy ad σ1) rfl 13 (by decide) (hts (.fieldLink RX9 28 "TaleBansModel" "taleDeed" "[I") (List.mem_of_getElem? (i := 3) rfl)) (fun x h => h) rfl dX9_longest_59 ?_
          refine lv_aload_n hx hb dX9_longest_62 rfl (lv_at hl 2 rfl) ?_
          refine va_get (ci := 9) (v := .int (rdI σ1 6)) (C := RX9) (T := TX9) (N := 38) hx hb hts hinX9 hown hK hP 0 (wR_0 cy ad σ1) rfl 12 (by decide) (hts (.fieldLink RX9 109 "TaleBansModel" "tales" "I") (List.mem_of_getElem? (i := 2) rfl)) (fun x h => h) rfl dX9_longest_63 ?_
          refine lv_iconst (v := 1) hx hb dX9_longest_66 (by decide) ?_
          refine lv_isub hx hb dX9_longest_67 ?_
          refine lv_iconst (v := 0) hx hb dX9_longest_68 (by decide) ?_
          obtain ⟨hi, hv⟩ := hv
          refine va_iast hx hb hK hP hD hS 7 0 (wR_7 cy ad σ1) rfl hi dX9_longest_69 (fun H locs hP hD hS => ?_)
          obtain ⟨σ3, e4⟩ : ∃ y : S_, y = wr2 σ1 7 (Int32.toNatClampNeg ((rdI σ1 6) - 1)) 0 := ⟨_, rfl⟩
          have hP : va_P D vwCl (wR cy ad σ3) H := by rw [e4]; exact hP
          have hD : va_D A (wR cy ad σ3) := by rw [e4]; exact hD
          have hv := hv σ3 e4
          refine lv_aload_n hx hb dX9_longest_70 rfl (lv_at hl 2 rfl) ?_
          refine va_get (ci := 9) (v := .ref (ad (9))) (C := RX9) (T := TX9) (N := 38) hx hb hts hinX9 hown hK hP 0 (wR_0 cy ad σ3) rfl 15 (by decide) (hts (.fieldLink RX9 34 "TaleBansModel" "taleIn" "[I") (List.mem_of_getElem? (i := 4) rfl)) (fun x h => h) rfl dX9_longest_71 ?_
          refine lv_aload_n hx hb dX9_longest_74 rfl (lv_at hl 2 rfl) ?_
          refine va_get (ci := 9) (v := .int (rdI σ3 6)) (C := RX9) (T := TX9) (N := 38) hx hb hts hinX9 hown hK hP 0 (wR_0 cy ad σ3) rfl 12 (by decide) (hts (.fieldLink RX9 109 "TaleBansModel" "tales" "I") (List.mem_of_getElem? (i := 2) rfl)) (fun x h => h) rfl dX9_longest_75 ?_
          refine lv_iconst (v := 1) hx hb dX9_longest_78 (by decide) ?_
          refine lv_isub hx hb dX9_longest_79 ?_
          refine lv_iload_n hx hb dX9_longest_80 rfl (lv_at hl 3 rfl) ?_
          obtain ⟨hi, hv⟩ := hv
          refine va_iast hx hb hK hP hD hS 9 0 (wR_9 cy ad σ3) rfl hi dX9_longest_81 (fun H locs hP hD hS => ?_)
          obtain ⟨σ5, e6⟩ : ∃ y : S_, y = wr2 σ3 9 (Int32.toNatClampNeg ((rdI σ3 6) - 1)) season_ := ⟨_, rfl⟩
          have hP : va_P D vwCl (wR cy ad σ5) H := by rw [e6]; exact hP
          have hD : va_D A (wR cy ad σ5) := by rw [e6]; exact hD
          have hv := hv σ5 e6
          refine lv_aload_n hx hb dX9_longest_82 rfl (lv_at hl 2 rfl) ?_
          refine va_get (ci := 9) (v := .ref (ad (10))) (C := RX9) (T := TX9) (N := 38) hx hb hts hinX9 hown hK hP 0 (wR_0 cy ad σ5) rfl 16 (by decide) (hts (.fieldLink RX9 37 "TaleBansModel" "isParody" "[Z") (List.mem_of_getElem? (i := 5) rfl)) (fun x h => h) rfl dX9_longest_83 ?_
          refine lv_aload_n hx hb dX9_longest_86 rfl (lv_at hl 2 rfl) ?_
          refine va_get (ci := 9) (v := .int (rdI σ5 6)) (C := RX9) (T := TX9) (N := 38) hx hb hts hinX9 hown hK hP 0 (wR_0 cy ad σ5) rfl 12 (by decide) (hts (.fieldLink RX9 109 "TaleBansModel" "tales" "I") (List.mem_of_getElem? (i := 2) rfl)) (fun x h => h) rfl dX9_longest_87 ?_
          refine lv_iconst (v := 1) hx hb dX9_longest_90 (by decide) ?_
          refine lv_isub hx hb dX9_longest_91 ?_
          refine lv_iconst (v := 0) hx hb dX9_longest_92 (by decide) ?_
          obtain ⟨hi, hv⟩ := hv
          refine va_zast hx hb hK hP hD hS 10 1 (wR_10 cy ad σ5) rfl hi dX9_longest_93 (fun H locs hP hD hS => ?_)
          obtain ⟨σ7, e8⟩ : ∃ y : S_, y = wr2 σ5 10 (Int32.toNatClampNeg ((rdI σ5 6) - 1)) (vp_nar .boolean 0) := ⟨_, rfl⟩
          have hP : va_P D vwCl (wR cy ad σ7) H := by rw [e8]; exact hP
          have hD : va_D A (wR cy ad σ7) := by rw [e8]; exact hD
          have hv := hv σ7 e8
          refine lv_iconst (v := 0) hx hb dX9_longest_94 (by decide) ?_
          refine lv_istore (lv' := [(5, .int 0), (4, .int (-1)), (3, .int (-9)), (0, .ref (ad 0)), (1, .int season_), (2, .int what_)]) hx hb dX9_longest_95 hl (by decide) rfl (fun ls hl => ?_)
          obtain ⟨n97, hv⟩ := hv
          have lp97 : ∀ (nn97 : Nat) (x9 : Int32) (x10 : Int32) (x11 : Int32) (σ12 : S_) (H : Heap) (locs : List Loc) (ls : Array Slot), vl_X9_longest_97 what_ Q nn97 x9 x10 x11 σ12 → va_P D vwCl (wR cy ad σ12) H → va_D A (wR cy ad σ12) → va_S A s.heap H locs → lv_has ls 7 [(0, .ref (ad 0)), (2, .int what_), (3, .int x9), (4, .int x10), (5, .int x11)] → W p l e R s m ([.ref (ad 0), .int season_, .int what_] : List Value).toArray  below meth c H locs 0 0 Z (F0 m 97 ls []) := by
            intro nn97
            induction nn97 with
            | zero => intro x9 x10 x11 σ12 H locs ls hv; exact absurd hv id
            | succ mm97 ih97 =>
              intro x9 x10 x11 σ12 H locs ls hv hP hD hS hl
              refine lv_iload hx hb dX9_longest_97 (lv_at hl 4 rfl) ?_
              refine lv_aload_n hx hb dX9_longest_99 rfl (lv_at hl 0 rfl) ?_
              refine va_get (ci := 9) (v := .int (rdI σ12 1)) (C := RX9) (T := TX9) (N := 38) hx hb hts hinX9 hown hK hP 0 (wR_0 cy ad σ12) rfl 1 (by decide) (hts (.fieldLink RX9 102 "TaleBansModel" "persons" "I") (List.mem_of_getElem? (i := 1) rfl)) (fun x h => h) rfl dX9_longest_100 ?_
              refine lv_icmp_ge (tgt := 167) hx hb dX9_longest_103 (by decide) (fun c31 => ?_) (fun c31 => ?_)
              · have hv := hv.1 c31
                refine lv_aload_n hx hb dX9_longest_167 rfl (lv_at hl 0 rfl) ?_
                refine lv_dup hx hb dX9_longest_168 rfl ?_
                refine va_get (ci := 9) (v := .int (rdI σ12 6)) (C := RX9) (T := TX9) (N := 38) hx hb hts hinX9 hown hK hP 0 (wR_0 cy ad σ12) rfl 12 (by decide) (hts (.fieldLink RX9 109 "TaleBansModel" "tales" "I") (List.mem_of_getElem? (i := 2) rfl)) (fun x h => h) rfl dX9_longest_169 ?_
                refine lv_iconst (v := 1) hx hb dX9_longest_172 (by decide) ?_
                refine lv_isub hx hb dX9_longest_173 ?_
                refine va_put (ci := 9) (v := .int ((rdI σ12 6) - 1)) (ty := .int) (C := RX9) (T := TX9) (N := 38) hx hb hts hinX9 tyX9 tyX9_ok nmX9 hown hK hP hD hS 0 (wR_0 cy ad σ12) rfl 12 (by decide) (hts (.fieldLink RX9 109 "TaleBansModel" "tales" "I") (List.mem_of_getElem? (i := 2) rfl)) (fun x h => h) rfl (by decide +kernel) rfl rfl (Nat.le_of_ble_eq_true rfl) dX9_longest_174 (fun H locs hP hD hS => ?_)
                obtain ⟨σ13, e14⟩ : ∃ y : S_, y = wrI σ12 6 ((rdI σ12 6) - 1) := ⟨_, rfl⟩
                have hP : va_P D vwCl (wR cy ad σ13) H := by rw [e14]; exact hP
                have hD : va_D A (wR cy ad σ13) := by rw [e14]; exact hD
                have hv := hv σ13 e14
                refine lv_iload_n hx hb dX9_longest_177 rfl (lv_at hl 1 rfl) ?_
                refine lv_if_ne (tgt := 185) hx hb dX9_longest_178 (by decide) (fun c16 => ?_) (fun c16 => ?_)
                · have hv := hv.1 c16
                  refine lv_iload hx hb dX9_longest_185 (lv_at hl 3 rfl) ?_
                  refine lv_bipush (v := 99) hx hb dX9_longest_187 (by decide) ?_
                  refine lv_icmp_ne (tgt := 197) hx hb dX9_longest_189 (by decide) (fun c15 => ?_) (fun c15 => ?_)
                  · have hv := hv.1 c15
                    refine lv_iload hx hb dX9_longest_197 (lv_at hl 3 rfl) ?_
                    rw [hZ]; rw [hQ] at hv
                    exact W.iret (v := x10) hx hb hr (fun t ht hW => ⟨⟨x10, σ13, rfl, hv, ⟨P_of ht hP, hD⟩⟩, hS.F ht⟩) hS.2.2 dX9_longest_199
                  · have hv := hv.2 c15
                    refine lv_bipush (v := (-9)) hx hb dX9_longest_192 (by decide) ?_
                    refine lv_goto (tgt := 199) hx hb dX9_longest_194 (by decide) ?_
                    rw [hZ]; rw [hQ] at hv
                    exact W.iret (v := (-9)) hx hb hr (fun t ht hW => ⟨⟨(-9), σ13, rfl, hv, ⟨P_of ht hP, hD⟩⟩, hS.F ht⟩) hS.2.2 dX9_longest_199
                · have hv := hv.2 c16
                  refine lv_iload_n hx hb dX9_longest_181 rfl (lv_at hl 2 rfl) ?_
                  refine lv_goto (tgt := 199) hx hb dX9_longest_182 (by decide) ?_
                  rw [hZ]; rw [hQ] at hv
                  exact W.iret (v := x9) hx hb hr (fun t ht hW => ⟨⟨x9, σ13, rfl, hv, ⟨P_of ht hP, hD⟩⟩, hS.F ht⟩) hS.2.2 dX9_longest_199
              · have hv := hv.2 c31
                refine lv_aload_n hx hb dX9_longest_106 rfl (lv_at hl 0 rfl) ?_
                refine va_get (ci := 9) (v := .ref (ad (8))) (C := RX9) (T := TX9) (N := 38) hx hb hts hinX9 hown hK hP 0 (wR_0 cy ad σ12) rfl 14 (by decide) (hts (.fieldLink RX9 31 "TaleBansModel" "taleTo" "[I") (List.mem_of_getElem? (i := 6) rfl)) (fun x h => h) rfl dX9_longest_107 ?_
                refine lv_aload_n hx hb dX9_longest_110 rfl (lv_at hl 0 rfl) ?_
                refine va_get (ci := 9) (v := .int (rdI σ12 6)) (C := RX9) (T := TX9) (N := 38) hx hb hts hinX9 hown hK hP 0 (wR_0 cy ad σ12) rfl 12 (by decide) (hts (.fieldLink RX9 109 "TaleBansModel" "tales" "I") (List.mem_of_getElem? (i := 2) rfl)) (fun x h => h) rfl dX9_longest_111 ?_
                refine lv_iconst (v := 1) hx hb dX9_longest_114 (by decide) ?_
                refine lv_isub hx hb dX9_longest_115 ?_
                refine lv_iload hx hb dX9_longest_116 (lv_at hl 4 rfl) ?_
                obtain ⟨hi, hv⟩ := hv
                refine va_iast hx hb hK hP hD hS 8 0 (wR_8 cy ad σ12) rfl hi dX9_longest_118 (fun H locs hP hD hS => ?_)
                obtain ⟨σ17, e18⟩ : ∃ y : S_, y = wr2 σ12 8 (Int32.toNatClampNeg ((rdI σ12 6) - 1)) x11 := ⟨_, rfl⟩
                have hP : va_P D vwCl (wR cy ad σ17) H := by rw [e18]; exact hP
                have hD : va_D A (wR cy ad σ17) := by rw [e18]; exact hD
                have hv := hv σ17 e18
                refine lv_aload_n hx hb dX9_longest_119 rfl (lv_at hl 0 rfl) ?_
                refine lv_aload_n hx hb dX9_longest_120 rfl (lv_at hl 0 rfl) ?_
                refine va_get (ci := 9) (v := .int (rdI σ17 6)) (C := RX9) (T := TX9) (N := 38) hx hb hts hinX9 hown hK hP 0 (wR_0 cy ad σ17) rfl 12 (by decide) (hts (.fieldLink RX9 109 "TaleBansModel" "tales" "I") (List.mem_of_getElem? (i := 2) rfl)) (fun x h => h) rfl dX9_longest_121 ?_
                refine lv_iconst (v := 1) hx hb dX9_longest_124 (by decide) ?_
                refine lv_isub hx hb dX9_longest_125 ?_
                obtain ⟨g19, g20, hv⟩ := hv
                obtain ⟨hp, hv⟩ := hv
                refine k_rel_i (w := wR cy ad) (va_runV (As := [.int ((rdI σ17 6) - 1)]) (rest := []) ⟨hx, hb, hml, hown, hts⟩ (h_X9_endOf D cy ad A ((rdI σ17 6) - 1) g19 g20 σ17 hp) (cwV 1 hts gX9_longest_X9_endOf rfl rfl rfl (by decide +kernel) ⟨le_R hRf (Nat.le_of_ble_eq_true rfl), le_R hRl (Nat.le_of_ble_eq_true rfl)⟩) ⟨(fun a U g mk q => ⟨q.1, q.2.blind⟩), va_recv hK hP (ci := 9) (q0 := 0) rfl (wR_0 cy ad σ17), (fun U hU hW => ⟨rfl, WdR.pre hP hK hD hN hU hW⟩)⟩ rfl rfl hl.1 rfl (lv_room (Nat.le_of_ble_eq_true rfl)) dX9_longest_126 ⟨le_R hRc (Nat.le_refl 0), le_R hRs (Nat.le_refl 0)⟩) hS (fun r22 σ21 H locs hr1 hP hD hS => ?_)
                have hv := hv r22 σ21 hr1
                refine lv_istore (lv' := [(6, .int r22), (0, .ref (ad 0)), (2, .int what_), (3, .int x9), (4, .int x10), (5, .int x11)]) hx hb dX9_longest_129 hl (by decide) rfl (fun ls hl => ?_)
                refine lv_iload hx hb dX9_longest_131 (lv_at hl 0 rfl) ?_
                refine lv_iload hx hb dX9_longest_133 (lv_at hl 4 rfl) ?_
                obtain ⟨P23, hv, hvr⟩ := hv
                have jn24 : ∀ (b25 : Int32) (H : Heap) (locs : List Loc) (ls : Array Slot), P23 b25 → va_P D vwCl (wR cy ad σ21) H → va_S A s.heap H locs → lv_has ls 7 [(6, .int r22), (0, .ref (ad 0)), (2, .int what_), (3, .int x9), (4, .int x10), (5, .int x11)] → W p l e R s m ([.ref (ad 0), .int season_, .int what_] : List Value).toArray below meth c H locs 0 0 Z (F0 m 144 ls [.int b25]) := by
                  intro b25 H locs ls hv hP hS hl
                  have hv := hvr b25 hv
                  refine lv_istore_n (lv' := [(3, .int b25), (6, .int r22), (0, .ref (ad 0)), (2, .int what_), (4, .int x10), (5, .int x11)]) hx hb dX9_longest_144 rfl hl (by decide) rfl (fun ls hl => ?_)
                  refine lv_iload hx hb dX9_longest_145 (lv_at hl 1 rfl) ?_
                  refine lv_iload hx hb dX9_longest_147 (lv_at hl 4 rfl) ?_
                  obtain ⟨P27, hv, hvr⟩ := hv
                  have jn28 : ∀ (b29 : Int32) (H : Heap) (locs : List Loc) (ls : Array Slot), P27 b29 → va_P D vwCl (wR cy ad σ21) H → va_S A s.heap H locs → lv_has ls 7 [(3, .int b25), (6, .int r22), (0, .ref (ad 0)), (2, .int what_), (4, .int x10), (5, .int x11)] → W p l e R s m ([.ref (ad 0), .int season_, .int what_] : List Value).toArray below meth c H locs 0 0 Z (F0 m 159 ls [.int b29]) := by
                    intro b29 H locs ls hv hP hS hl
                    have hv := hvr b29 hv
                    refine lv_istore (lv' := [(4, .int b29), (3, .int b25), (6, .int r22), (0, .ref (ad 0)), (2, .int what_), (5, .int x11)]) hx hb dX9_longest_159 hl (by decide) rfl (fun ls hl => ?_)
                    refine lv_iinc (v := (x11 + 1)) (lv' := [(5, .int (x11 + 1)), (4, .int b29), (3, .int b25), (6, .int r22), (0, .ref (ad 0)), (2, .int what_)]) hx hb dX9_longest_161 hl (k := 5) rfl rfl (by decide) rfl (fun ls hl => ?_)
                    refine lv_goto (tgt := 97) hx hb dX9_longest_164 (by decide) ?_
                    exact ih97 b25 b29 (x11 + 1) σ21 _ _ _ hv hP hD hS (lv_sub hl [4, 5, 2, 1, 0] rfl)
                  refine lv_icmp_le (tgt := 157) hx hb dX9_longest_149 (by decide) (fun c30 => ?_) (fun c30 => ?_)
                  · have hv := hv.1 c30
                    refine lv_iload hx hb dX9_longest_157 (lv_at hl 4 rfl) ?_
                    exact jn28 x10 _ _ _ hv hP hS hl
                  · have hv := hv.2 c30
                    refine lv_iload hx hb dX9_longest_152 (lv_at hl 1 rfl) ?_
                    refine lv_goto (tgt := 159) hx hb dX9_longest_154 (by decide) ?_
                    exact jn28 r22 _ _ _ hv hP hS hl
                refine lv_icmp_le (tgt := 143) hx hb dX9_longest_135 (by decide) (fun c26 => ?_) (fun c26 => ?_)
                · have hv := hv.1 c26
                  refine lv_iload_n hx hb dX9_longest_143 rfl (lv_at hl 3 rfl) ?_
                  exact jn24 x9 _ _ _ hv hP hS hl
                · have hv := hv.2 c26
                  refine lv_iload hx hb dX9_longest_138 (lv_at hl 5 rfl) ?_
                  refine lv_goto (tgt := 144) hx hb dX9_longest_140 (by decide) ?_
                  exact jn24 x11 _ _ _ hv hP hS hl
          exact lp97 n97 (-9) (-1) 0 σ7 _ _ _ hv hP hD hS (lv_sub hl [3, 5, 2, 1, 0] rfl)
        · have hv := hv.2 c32
          refine lv_bipush (v := (-4)) hx hb dX9_longest_39 (by decide) ?_
          rw [hZ]; rw [hQ] at hv
          exact W.iret (v := (-4)) hx hb hr (fun t ht hW => ⟨⟨(-4), σ0, rfl, hv, ⟨P_of ht hP, hD⟩⟩, hS.F ht⟩) hS.2.2 dX9_longest_41
      · have hv := hv.2 c33
        refine lv_bipush (v := (-3)) hx hb dX9_longest_27 (by decide) ?_
        rw [hZ]; rw [hQ] at hv
        exact W.iret (v := (-3)) hx hb hr (fun t ht hW => ⟨⟨(-3), σ0, rfl, hv, ⟨P_of ht hP, hD⟩⟩, hS.F ht⟩) hS.2.2 dX9_longest_29
    · have hv := hv.2 c34
      refine lv_bipush (v := (-2)) hx hb dX9_longest_17 (by decide) ?_
      rw [hZ]; rw [hQ] at hv
      exact W.iret (v := (-2)) hx hb hr (fun t ht hW => ⟨⟨(-2), σ0, rfl, hv, ⟨P_of ht hP, hD⟩⟩, hS.F ht⟩) hS.2.2 dX9_longest_19
set_option maxHeartbeats 4000000 in
set_option maxRecDepth 100000 in
theorem wk_X9_need (l : Launch) (h_X9_noDeed : Ct_X9_noDeed l) (sp : ∀ (deed_ : Int32) (other_ : Int32) (ag : AS) (σ0 : S_), pre_X9_need deed_ other_ ag σ0 → vc_X9_need deed_ other_ σ0 (post_X9_need deed_ other_ ag σ0)) : Ct_X9_need l := by
  intro D cy ad A deed_ other_ ag σ0  hpre
  refine Met.ofW (cc := cX9_need) (maxL := 3) (ret := (some .int)) (by decide) rfl ?_
  intro p e s m args below meth c s₁ B hml hv0
  obtain ⟨rfl, hP, hK, hD, hN⟩ := hv0
  have hx := B.exec
  have hb := B.bytes
  have hr := B.returns
  have hts := atoms_spec (ws := wsX9_need) B.pre
  have hown : s.vm.findClass RX9 = some m.cls := findClass_of_methodNamed B.named
  have hlocks := B.notSynchronized
  have hv := sp deed_ other_ ag σ0 hpre
  have hl := lv_entry ([.ref (ad 0), .int deed_, .int other_]) (n := 3) (Nat.le_of_ble_eq_true rfl)
  rw [lg_entry_eq]
  generalize (lg_sl ([.ref (ad 0), .int deed_, .int other_]) ++ List.replicate (3 - (lg_sl ([.ref (ad 0), .int deed_, .int other_])).length) Slot.unset).toArray = ls at hl ⊢
  have hl : lv_has ls 3 [(0, .ref (ad 0)), (1, .int deed_), (2, .int other_)] := hl
  refine W_gen (fun R Z H locs hR hZ hH hlo => ?_)
  have hRf : R.frames = 2 := by rw [hR]; rfl
  have hRl : R.locals = 45 := by rw [hR]; rfl
  have hRc : R.cells = 0 := by rw [hR]; rfl
  have hRs : R.slots = 0 := by rw [hR]; rfl
  have hS : va_S A s.heap H locs := by rw [hH, hlo]; exact va_S.rf
  rw [← hH] at hP
  obtain ⟨Q, hQ⟩ : ∃ q : Int32 → S_ → Prop, q = (post_X9_need deed_ other_ ag σ0) := ⟨_, rfl⟩
  rw [← hQ] at hv
  have hinX9 : ∀ w ∈ wsX90, w ∈ wsX9_need := by decide +kernel
  refine lv_iload_n hx hb dX9_need_0 rfl (lv_at hl 1 rfl) ?_
  refine k_pure_i (va_runS (As := [.int deed_]) (rest := []) ⟨hx, hb, hml, hown, hts⟩ (h_X9_noDeed deed_) (va_cwS 1 hts gX9_need_X9_noDeed rfl rfl rfl (by decide +kernel) ⟨le_R hRf (Nat.le_of_ble_eq_true rfl), le_R hRl (Nat.le_of_ble_eq_true rfl)⟩) ⟨(fun a U g mk q => ⟨q.1, trivial⟩), (fun U hU hW => ⟨rfl, trivial⟩)⟩ rfl rfl hl.1 rfl (lv_room (Nat.le_of_ble_eq_true rfl)) dX9_need_1 ⟨le_R hRc (Nat.le_refl 0), le_R hRs (Nat.le_refl 0)⟩) hS hP (fun r H locs hr1 hP hS => ?_)
  subst hr1
  refine lv_if_ne (tgt := 14) hx hb dX9_need_4 (by decide) (fun c10 => ?_) (fun c10 => ?_)
  · have hv := hv.1 c10
    refine lv_iconst (v := (-1)) hx hb dX9_need_14 (by decide) ?_
    rw [hZ]; rw [hQ] at hv
    exact W.iret (v := (-1)) hx hb hr (fun t ht hW => ⟨⟨(-1), σ0, rfl, hv, ⟨P_of ht hP, hD⟩⟩, hS.F ht⟩) hS.2.2 dX9_need_15
  · have hv := hv.2 c10
    refine lv_iload_n hx hb dX9_need_7 rfl (lv_at hl 2 rfl) ?_
    refine k_pure_i (va_runS (As := [.int other_]) (rest := []) ⟨hx, hb, hml, hown, hts⟩ (h_X9_noDeed other_) (va_cwS 1 hts gX9_need_X9_noDeed rfl rfl rfl (by decide +kernel) ⟨le_R hRf (Nat.le_of_ble_eq_true rfl), le_R hRl (Nat.le_of_ble_eq_true rfl)⟩) ⟨(fun a U g mk q => ⟨q.1, trivial⟩), (fun U hU hW => ⟨rfl, trivial⟩)⟩ rfl rfl hl.1 rfl (lv_room (Nat.le_of_ble_eq_true rfl)) dX9_need_8 ⟨le_R hRc (Nat.le_refl 0), le_R hRs (Nat.le_refl 0)⟩) hS hP (fun r H locs hr1 hP hS => ?_)
    subst hr1
    refine lv_if_eq (tgt := 16) hx hb dX9_need_11 (by decide) (fun c9 => ?_) (fun c9 => ?_)
    · have hv := hv.1 c9
      refine lv_aload_n hx hb dX9_need_16 rfl (lv_at hl 0 rfl) ?_
      refine va_get (ci := 9) (v := .int (rdI σ0 1)) (C := RX9) (T := TX9) (N := 38) hx hb hts hinX9 hown hK hP 0 (wR_0 cy ad σ0) rfl 1 (by decide) (hts (.fieldLink RX9 102 "TaleBansModel" "persons" "I") (List.mem_of_getElem? (i := 1) rfl)) (fun x h => h) rfl dX9_need_17 ?_
      refine lv_if_ne (tgt := 26) hx hb dX9_need_20 (by decide) (fun c8 => ?_) (fun c8 => ?_)
      · have hv := hv.1 c8
        refine lv_aload_n hx hb dX9_need_26 rfl (lv_at hl 0 rfl) ?_
        refine va_get (ci := 9) (v := .int (rdI σ0 8)) (C := RX9) (T := TX9) (N := 38) hx hb hts hinX9 hown hK hP 0 (wR_0 cy ad σ0) rfl 25 (by decide) (hts (.fieldLink RX9 167 "TaleBansModel" "needs" "I") (List.mem_of_getElem? (i := 2) rfl)) (fun x h => h) rfl dX9_need_27 ?_
        refine lv_bipush (v := 6) hx hb dX9_need_30 (by decide) ?_
        refine lv_icmp_ne (tgt := 38) hx hb dX9_need_32 (by decide) (fun c7 => ?_) (fun c7 => ?_)
        · have hv := hv.1 c7
          refine lv_aload_n hx hb dX9_need_38 rfl (lv_at hl 0 rfl) ?_
          refine va_get (ci := 9) (v := .ref (ad (18))) (C := RX9) (T := TX9) (N := 38) hx hb hts hinX9 hown hK hP 0 (wR_0 cy ad σ0) rfl 26 (by decide) (hts (.fieldLink RX9 62 "TaleBansModel" "needOne" "[I") (List.mem_of_getElem? (i := 3) rfl)) (fun x h => h) rfl dX9_need_39 ?_
          refine lv_aload_n hx hb dX9_need_42 rfl (lv_at hl 0 rfl) ?_
          refine va_get (ci := 9) (v := .int (rdI σ0 8)) (C := RX9) (T := TX9) (N := 38) hx hb hts hinX9 hown hK hP 0 (wR_0 cy ad σ0) rfl 25 (by decide) (hts (.fieldLink RX9 167 "TaleBansModel" "needs" "I") (List.mem_of_getElem? (i := 2) rfl)) (fun x h => h) rfl dX9_need_43 ?_
          refine lv_iload_n hx hb dX9_need_46 rfl (lv_at hl 1 rfl) ?_
          obtain ⟨hi, hv⟩ := hv
          refine va_iast hx hb hK hP hD hS 18 0 (wR_18 cy ad σ0) rfl hi dX9_need_47 (fun H locs hP hD hS => ?_)
          obtain ⟨σ1, e2⟩ : ∃ y : S_, y = wr2 σ0 18 (Int32.toNatClampNeg (rdI σ0 8)) deed_ := ⟨_, rfl⟩
          have hP : va_P D vwCl (wR cy ad σ1) H := by rw [e2]; exact hP
          have hD : va_D A (wR cy ad σ1) := by rw [e2]; exact hD
          have hv := hv σ1 e2
          refine lv_aload_n hx hb dX9_need_48 rfl (lv_at hl 0 rfl) ?_
          refine va_get (ci := 9) (v := .ref (ad (19))) (C := RX9) (T := TX9) (N := 38) hx hb hts hinX9 hown hK hP 0 (wR_0 cy ad σ1) rfl 27 (by decide) (hts (.fieldLink RX9 65 "TaleBansModel" "needOther" "[I") (List.mem_of_getElem? (i := 4) rfl)) (fun x h => h) rfl dX9_need_49 ?_
          refine lv_aload_n hx hb dX9_need_52 rfl (lv_at hl 0 rfl) ?_
          refine va_get (ci := 9) (v := .int (rdI σ1 8)) (C := RX9) (T := TX9) (N := 38) hx hb hts hinX9 hown hK hP 0 (wR_0 cy ad σ1) rfl 25 (by decide) (hts (.fieldLink RX9 167 "TaleBansModel" "needs" "I") (List.mem_of_getElem? (i := 2) rfl)) (fun x h => h) rfl dX9_need_53 ?_
          refine lv_iload_n hx hb dX9_need_56 rfl (lv_at hl 2 rfl) ?_
          obtain ⟨hi, hv⟩ := hv
          refine va_iast hx hb hK hP hD hS 19 0 (wR_19 cy ad σ1) rfl hi dX9_need_57 (fun H locs hP hD hS => ?_)
          obtain ⟨σ3, e4⟩ : ∃ y : S_, y = wr2 σ1 19 (Int32.toNatClampNeg (rdI σ1 8)) other_ := ⟨_, rfl⟩
          have hP : va_P D vwCl (wR cy ad σ3) H := by rw [e4]; exact hP
          have hD : va_D A (wR cy ad σ3) := by rw [e4]; exact hD
          have hv := hv σ3 e4
          refine lv_aload_n hx hb dX9_need_58 rfl (lv_at hl 0 rfl) ?_
          refine lv_dup hx hb dX9_need_59 rfl ?_
          refine va_get (ci := 9) (v := .int (rdI σ3 8)) (C := RX9) (T := TX9) (N := 38) hx hb hts hinX9 hown hK hP 0 (wR_0 cy ad σ3) rfl 25 (by decide) (hts (.fieldLink RX9 167 "TaleBansModel" "needs" "I") (List.mem_of_getElem? (i := 2) rfl)) (fun x h => h) rfl dX9_need_60 ?_
          refine lv_iconst (v := 1) hx hb dX9_need_63 (by decide) ?_
          refine lv_iadd hx hb dX9_need_64 ?_
          refine va_put (ci := 9) (v := .int ((rdI σ3 8) + 1)) (ty := .int) (C := RX9) (T := TX9) (N := 38) hx hb hts hinX9 tyX9 tyX9_ok nmX9 hown hK hP hD hS 0 (wR_0 cy ad σ3) rfl 25 (by decide) (hts (.fieldLink RX9 167 "TaleBansModel" "needs" "I") (List.mem_of_getElem? (i := 2) rfl)) (fun x h => h) rfl (by decide +kernel) rfl rfl (Nat.le_of_ble_eq_true rfl) dX9_need_65 (fun H locs hP hD hS => ?_)
          obtain ⟨σ5, e6⟩ : ∃ y : S_, y = wrI σ3 8 ((rdI σ3 8) + 1) := ⟨_, rfl⟩
          have hP : va_P D vwCl (wR cy ad σ5) H := by rw [e6]; exact hP
          have hD : va_D A (wR cy ad σ5) := by rw [e6]; exact hD
          have hv := hv σ5 e6
          refine lv_aload_n hx hb dX9_need_68 rfl (lv_at hl 0 rfl) ?_
          refine va_get (ci := 9) (v := .int (rdI σ5 8)) (C := RX9) (T := TX9) (N := 38) hx hb hts hinX9 hown hK hP 0 (wR_0 cy ad σ5) rfl 25 (by decide) (hts (.fieldLink RX9 167 "TaleBansModel" "needs" "I") (List.mem_of_getElem? (i := 2) rfl)) (fun x h => h) rfl dX9_need_69 ?_
          refine lv_iconst (v := 1) hx hb dX9_need_72 (by decide) ?_
          refine lv_isub hx hb dX9_need_73 ?_
          rw [hZ]; rw [hQ] at hv
          exact W.iret (v := ((rdI σ5 8) - 1)) hx hb hr (fun t ht hW => ⟨⟨((rdI σ5 8) - 1), σ5, rfl, hv, ⟨P_of ht hP, hD⟩⟩, hS.F ht⟩) hS.2.2 dX9_need_74
        · have hv := hv.2 c7
          refine lv_bipush (v := (-4)) hx hb dX9_need_35 (by decide) ?_
          rw [hZ]; rw [hQ] at hv
          exact W.iret (v := (-4)) hx hb hr (fun t ht hW => ⟨⟨(-4), σ0, rfl, hv, ⟨P_of ht hP, hD⟩⟩, hS.F ht⟩) hS.2.2 dX9_need_37
      · have hv := hv.2 c8
        refine lv_bipush (v := (-3)) hx hb dX9_need_23 (by decide) ?_
        rw [hZ]; rw [hQ] at hv
        exact W.iret (v := (-3)) hx hb hr (fun t ht hW => ⟨⟨(-3), σ0, rfl, hv, ⟨P_of ht hP, hD⟩⟩, hS.F ht⟩) hS.2.2 dX9_need_25
    · have hv := hv.2 c9
      refine lv_iconst (v := (-1)) hx hb dX9_need_14 (by decide) ?_
      rw [hZ]; rw [hQ] at hv
      exact W.iret (v := (-1)) hx hb hr (fun t ht hW => ⟨⟨(-1), σ0, rfl, hv, ⟨P_of ht hP, hD⟩⟩, hS.F ht⟩) hS.2.2 dX9_need_15
set_option maxHeartbeats 4000000 in
set_option maxRecDepth 100000 in
theorem wk_X9_clash (l : Launch) (h_X9_begin : Ct_X9_begin l) (h_X9_forbiddenIn : Ct_X9_forbiddenIn l) (h_X9_goSeason : Ct_X9_goSeason l) (h_X9_in : Ct_X9_in l) (h_X9_isIn : Ct_X9_isIn l) (sp : ∀ (what_ : Int32) (ag : AS) (σ0 : S_), pre_X9_clash what_ ag σ0 → vc_X9_clash what_ σ0 (post_X9_clash what_ ag σ0)) : Ct_X9_clash l := by
  intro D cy ad A what_ ag σ0  hpre
  refine Met.ofW (cc := cX9_clash) (maxL := 5) (ret := (some .int)) (by decide) rfl ?_
  intro p e s m args below meth c s₁ B hml hv0
  obtain ⟨rfl, hP, hK, hD, hN⟩ := hv0
  have hx := B.exec
  have hb := B.bytes
  have hr := B.returns
  have hts := atoms_spec (ws := wsX9_clash) B.pre
  have hown : s.vm.findClass RX9 = some m.cls := findClass_of_methodNamed B.named
  have hlocks := B.notSynchronized
  have hv := sp what_ ag σ0 hpre
  have hl := lv_entry ([.ref (ad 0), .int what_]) (n := 5) (Nat.le_of_ble_eq_true rfl)
  rw [lg_entry_eq]
  generalize (lg_sl ([.ref (ad 0), .int what_]) ++ List.replicate (5 - (lg_sl ([.ref (ad 0), .int what_])).length) Slot.unset).toArray = ls at hl ⊢
  have hl : lv_has ls 5 [(0, .ref (ad 0)), (1, .int what_)] := hl
  refine W_gen (fun R Z H locs hR hZ hH hlo => ?_)
  have hRf : R.frames = 5 := by rw [hR]; rfl
  have hRl : R.locals = 117 := by rw [hR]; rfl
  have hRc : R.cells = 0 := by rw [hR]; rfl
  have hRs : R.slots = 0 := by rw [hR]; rfl
  have hS : va_S A s.heap H locs := by rw [hH, hlo]; exact va_S.rf
  rw [← hH] at hP
  obtain ⟨Q, hQ⟩ : ∃ q : Int32 → S_ → Prop, q = (post_X9_clash what_ ag σ0) := ⟨_, rfl⟩
  rw [← hQ] at hv
  have hinX9 : ∀ w ∈ wsX90, w ∈ wsX9_clash := by decide +kernel
  refine lv_iload_n hx hb dX9_clash_0 rfl (lv_at hl 1 rfl) ?_
  refine lv_i2l hx hb dX9_clash_1 rfl ?_
  refine lv_lconst (v := 0) hx hb dX9_clash_2 rfl ?_
  refine lv_lconst (v := 1) hx hb dX9_clash_3 rfl ?_
  refine k_pure_i (va_runS (As := [.long (Int32.toInt64 what_), .long 0, .long 1]) (rest := []) ⟨hx, hb, hml, hown, hts⟩ (h_X9_in (Int32.toInt64 what_) 0 1) (va_cwS 3 hts gX9_clash_X9_in rfl rfl rfl (by decide +kernel) ⟨le_R hRf (Nat.le_of_ble_eq_true rfl), le_R hRl (Nat.le_of_ble_eq_true rfl)⟩) ⟨(fun a U g mk q => ⟨q.1, trivial⟩), (fun U hU hW => ⟨rfl, trivial⟩)⟩ rfl rfl hl.1 rfl (lv_room (Nat.le_of_ble_eq_true rfl)) dX9_clash_4 ⟨le_R hRc (Nat.le_refl 0), le_R hRs (Nat.le_refl 0)⟩) hS hP (fun r H locs hr1 hP hS => ?_)
  subst hr1
  refine lv_if_ne (tgt := 13) hx hb dX9_clash_7 (by decide) (fun c20 => ?_) (fun c20 => ?_)
  · have hv := hv.1 c20
    refine lv_aload_n hx hb dX9_clash_13 rfl (lv_at hl 0 rfl) ?_
    refine va_get (ci := 9) (v := .int (rdI σ0 1)) (C := RX9) (T := TX9) (N := 38) hx hb hts hinX9 hown hK hP 0 (wR_0 cy ad σ0) rfl 1 (by decide) (hts (.fieldLink RX9 102 "TaleBansModel" "persons" "I") (List.mem_of_getElem? (i := 1) rfl)) (fun x h => h) rfl dX9_clash_14 ?_
    refine lv_if_ne (tgt := 23) hx hb dX9_clash_17 (by decide) (fun c19 => ?_) (fun c19 => ?_)
    · have hv := hv.1 c19
      refine lv_aload_n hx hb dX9_clash_23 rfl (lv_at hl 0 rfl) ?_
      obtain ⟨g1, hv⟩ := hv
      obtain ⟨hp, hv⟩ := hv
      refine k_rel_v (w := wR cy ad) (va_runV (As := []) (rest := []) ⟨hx, hb, hml, hown, hts⟩ (h_X9_begin D cy ad A g1 σ0 hp) (cwV 0 hts gX9_clash_X9_begin rfl rfl rfl (by decide +kernel) ⟨le_R hRf (Nat.le_of_ble_eq_true rfl), le_R hRl (Nat.le_of_ble_eq_true rfl)⟩) ⟨(fun a U g mk q => ⟨q.1, q.2.blind⟩), va_recv hK hP (ci := 9) (q0 := 0) rfl (wR_0 cy ad σ0), (fun U hU hW => ⟨rfl, WdR.pre hP hK hD hN hU hW⟩)⟩ rfl rfl hl.1 rfl (lv_room (Nat.le_of_ble_eq_true rfl)) dX9_clash_24 ⟨le_R hRc (Nat.le_refl 0), le_R hRs (Nat.le_refl 0)⟩) hS (fun σ2 H locs hr1 hP hD hS => ?_)
      have hv := hv σ2 hr1
      refine lv_iconst (v := 0) hx hb dX9_clash_27 (by decide) ?_
      refine lv_istore_n (lv' := [(2, .int 0), (0, .ref (ad 0)), (1, .int what_)]) hx hb dX9_clash_28 rfl hl (by decide) rfl (fun ls hl => ?_)
      obtain ⟨n29, hv⟩ := hv
      have lp29 : ∀ (nn29 : Nat) (x3 : Int32) (σ4 : S_) (H : Heap) (locs : List Loc) (ls : Array Slot), vl_X9_clash_29 what_ Q nn29 x3 σ4 → va_P D vwCl (wR cy ad σ4) H → va_D A (wR cy ad σ4) → va_S A s.heap H locs → lv_has ls 5 [(0, .ref (ad 0)), (1, .int what_), (2, .int x3)] → W p l e R s m ([.ref (ad 0), .int what_] : List Value).toArray  below meth c H locs 0 0 Z (F0 m 29 ls []) := by
        intro nn29
        induction nn29 with
        | zero => intro x3 σ4 H locs ls hv; exact absurd hv id
        | succ mm29 ih29 =>
          intro x3 σ4 H locs ls hv hP hD hS hl
          refine lv_iload_n hx hb dX9_clash_29 rfl (lv_at hl 2 rfl) ?_
          refine lv_bipush (v := 40) hx hb dX9_clash_30 (by decide) ?_
          refine lv_icmp_ge (tgt := 109) hx hb dX9_clash_32 (by decide) (fun c18 => ?_) (fun c18 => ?_)
          · have hv := hv.1 c18
            refine lv_bipush (v := (-9)) hx hb dX9_clash_109 (by decide) ?_
            rw [hZ]; rw [hQ] at hv
            exact W.iret (v := (-9)) hx hb hr (fun t ht hW => ⟨⟨(-9), σ4, rfl, hv, ⟨P_of ht hP, hD⟩⟩, hS.F ht⟩) hS.2.2 dX9_clash_111
          · have hv := hv.2 c18
            refine lv_aload_n hx hb dX9_clash_35 rfl (lv_at hl 0 rfl) ?_
            refine lv_iload_n hx hb dX9_clash_36 rfl (lv_at hl 2 rfl) ?_
            obtain ⟨g5, g6, g7, hv⟩ := hv
            obtain ⟨hp, hv⟩ := hv
            refine k_rel_v (w := wR cy ad) (va_runV (As := [.int x3]) (rest := []) ⟨hx, hb, hml, hown, hts⟩ (h_X9_goSeason D cy ad A x3 g5 g6 g7 σ4 hp) (cwV 1 hts gX9_clash_X9_goSeason rfl rfl rfl (by decide +kernel) ⟨le_R hRf (Nat.le_of_ble_eq_true rfl), le_R hRl (Nat.le_of_ble_eq_true rfl)⟩) ⟨(fun a U g mk q => ⟨q.1, q.2.blind⟩), va_recv hK hP (ci := 9) (q0 := 0) rfl (wR_0 cy ad σ4), (fun U hU hW => ⟨rfl, WdR.pre hP hK hD hN hU hW⟩)⟩ rfl rfl hl.1 rfl (lv_room (Nat.le_of_ble_eq_true rfl)) dX9_clash_37 ⟨le_R hRc (Nat.le_refl 0), le_R hRs (Nat.le_refl 0)⟩) hS (fun σ8 H locs hr1 hP hD hS => ?_)
            have hv := hv σ8 hr1
            refine lv_aload_n hx hb dX9_clash_40 rfl (lv_at hl 0 rfl) ?_
            refine lv_iload_n hx hb dX9_clash_41 rfl (lv_at hl 2 rfl) ?_
            obtain ⟨g9, g10, g11, hv⟩ := hv
            obtain ⟨hp, hv⟩ := hv
            refine k_read_i (w := wR cy ad) (va_runV (As := [.int x3]) (rest := []) ⟨hx, hb, hml, hown, hts⟩ (h_X9_forbiddenIn D cy ad A x3 g9 g10 g11 σ8 hp) (cwV 1 hts gX9_clash_X9_forbiddenIn rfl rfl rfl (by decide +kernel) ⟨le_R hRf (Nat.le_of_ble_eq_true rfl), le_R hRl (Nat.le_of_ble_eq_true rfl)⟩) ⟨(fun a U g mk q => ⟨q.1, q.2.blind⟩), va_recv hK hP (ci := 9) (q0 := 0) rfl (wR_0 cy ad σ8), (fun U hU hW => ⟨rfl, WdR.pre hP hK hD hN hU hW⟩)⟩ rfl rfl hl.1 rfl (lv_room (Nat.le_of_ble_eq_true rfl)) dX9_clash_42 ⟨le_R hRc (Nat.le_refl 0), le_R hRs (Nat.le_refl 0)⟩) hS (fun r12 H locs hr1 hP hS => ?_)
            have hv := hv r12 hr1
            refine lv_istore_n (lv' := [(3, .int r12), (0, .ref (ad 0)), (1, .int what_), (2, .int x3)]) hx hb dX9_clash_45 rfl hl (by decide) rfl (fun ls hl => ?_)
            refine lv_iconst (v := 0) hx hb dX9_clash_46 (by decide) ?_
            refine lv_istore (lv' := [(4, .int 0), (3, .int r12), (0, .ref (ad 0)), (1, .int what_), (2, .int x3)]) hx hb dX9_clash_47 hl (by decide) rfl (fun ls hl => ?_)
            obtain ⟨n49, hv⟩ := hv
            have lp49 : ∀ (nn49 : Nat) (x13 : Int32) (H : Heap) (locs : List Loc) (ls : Array Slot), vl_X9_clash_49 what_ x3 σ8 r12 (vl_X9_clash_29 what_ Q mm29) Q nn49 x13 → va_P D vwCl (wR cy ad σ8) H → va_D A (wR cy ad σ8) → va_S A s.heap H locs → lv_has ls 5 [(0, .ref (ad 0)), (1, .int what_), (2, .int x3), (3, .int r12), (4, .int x13)] → W p l e R s m ([.ref (ad 0), .int what_] : List Value).toArray  below meth c H locs 0 0 Z (F0 m 49 ls []) := by
              intro nn49
              induction nn49 with
              | zero => intro x13 H locs ls hv; exact absurd hv id
              | succ mm49 ih49 =>
                intro x13 H locs ls hv hP hD hS hl
                refine lv_iload hx hb dX9_clash_49 (lv_at hl 4 rfl) ?_
                refine lv_aload_n hx hb dX9_clash_51 rfl (lv_at hl 0 rfl) ?_
                refine va_get (ci := 9) (v := .int (rdI σ8 8)) (C := RX9) (T := TX9) (N := 38) hx hb hts hinX9 hown hK hP 0 (wR_0 cy ad σ8) rfl 25 (by decide) (hts (.fieldLink RX9 167 "TaleBansModel" "needs" "I") (List.mem_of_getElem? (i := 2) rfl)) (fun x h => h) rfl dX9_clash_52 ?_
                refine lv_icmp_ge (tgt := 103) hx hb dX9_clash_55 (by decide) (fun c17 => ?_) (fun c17 => ?_)
                · have hv := hv.1 c17
                  refine lv_iinc (v := (x3 + 1)) (lv' := [(2, .int (x3 + 1)), (0, .ref (ad 0)), (1, .int what_), (3, .int r12), (4, .int x13)]) hx hb dX9_clash_103 hl (k := 2) rfl rfl (by decide) rfl (fun ls hl => ?_)
                  refine lv_goto (tgt := 29) hx hb dX9_clash_106 (by decide) ?_
                  exact ih29 (x3 + 1) σ8 _ _ _ hv hP hD hS (lv_sub hl [1, 2, 0] rfl)
                · have hv := hv.2 c17
                  refine lv_iload_n hx hb dX9_clash_58 rfl (lv_at hl 3 rfl) ?_
                  refine lv_aload_n hx hb dX9_clash_59 rfl (lv_at hl 0 rfl) ?_
                  refine va_get (ci := 9) (v := .ref (ad (18))) (C := RX9) (T := TX9) (N := 38) hx hb hts hinX9 hown hK hP 0 (wR_0 cy ad σ8) rfl 26 (by decide) (hts (.fieldLink RX9 62 "TaleBansModel" "needOne" "[I") (List.mem_of_getElem? (i := 3) rfl)) (fun x h => h) rfl dX9_clash_60 ?_
                  refine lv_iload hx hb dX9_clash_63 (lv_at hl 4 rfl) ?_
                  obtain ⟨hi, hv⟩ := hv
                  refine va_iald hx hb hK hP 18 0 (wR_18 cy ad σ8) rfl hi dX9_clash_65 ?_
                  refine k_pure_i (va_runS (As := [.int r12, .int (rdA σ8 18 (Int32.toNatClampNeg x13))]) (rest := []) ⟨hx, hb, hml, hown, hts⟩ (h_X9_isIn r12 (rdA σ8 18 (Int32.toNatClampNeg x13))) (va_cwS 2 hts gX9_clash_X9_isIn rfl rfl rfl (by decide +kernel) ⟨le_R hRf (Nat.le_of_ble_eq_true rfl), le_R hRl (Nat.le_of_ble_eq_true rfl)⟩) ⟨(fun a U g mk q => ⟨q.1, trivial⟩), (fun U hU hW => ⟨rfl, trivial⟩)⟩ rfl rfl hl.1 rfl (lv_room (Nat.le_of_ble_eq_true rfl)) dX9_clash_66 ⟨le_R hRc (Nat.le_refl 0), le_R hRs (Nat.le_refl 0)⟩) hS hP (fun r H locs hr1 hP hS => ?_)
                  subst hr1
                  refine lv_if_eq (tgt := 97) hx hb dX9_clash_69 (by decide) (fun c16 => ?_) (fun c16 => ?_)
                  · have hv := hv.1 c16
                    refine lv_iinc (v := (x13 + 1)) (lv' := [(4, .int (x13 + 1)), (0, .ref (ad 0)), (1, .int what_), (2, .int x3), (3, .int r12)]) hx hb dX9_clash_97 hl (k := 4) rfl rfl (by decide) rfl (fun ls hl => ?_)
                    refine lv_goto (tgt := 49) hx hb dX9_clash_100 (by decide) ?_
                    exact ih49 (x13 + 1) _ _ _ hv hP hD hS (lv_sub hl [1, 2, 3, 4, 0] rfl)
                  · have hv := hv.2 c16
                    refine lv_iload_n hx hb dX9_clash_72 rfl (lv_at hl 3 rfl) ?_
                    refine lv_aload_n hx hb dX9_clash_73 rfl (lv_at hl 0 rfl) ?_
                    refine va_get (ci := 9) (v := .ref (ad (19))) (C := RX9) (T := TX9) (N := 38) hx hb hts hinX9 hown hK hP 0 (wR_0 cy ad σ8) rfl 27 (by decide) (hts (.fieldLink RX9 65 "TaleBansModel" "needOther" "[I") (List.mem_of_getElem? (i := 4) rfl)) (fun x h => h) rfl dX9_clash_74 ?_
                    refine lv_iload hx hb dX9_clash_77 (lv_at hl 4 rfl) ?_
                    obtain ⟨hi, hv⟩ := hv
                    refine va_iald hx hb hK hP 19 0 (wR_19 cy ad σ8) rfl hi dX9_clash_79 ?_
                    refine k_pure_i (va_runS (As := [.int r12, .int (rdA σ8 19 (Int32.toNatClampNeg x13))]) (rest := []) ⟨hx, hb, hml, hown, hts⟩ (h_X9_isIn r12 (rdA σ8 19 (Int32.toNatClampNeg x13))) (va_cwS 2 hts gX9_clash_X9_isIn rfl rfl rfl (by decide +kernel) ⟨le_R hRf (Nat.le_of_ble_eq_true rfl), le_R hRl (Nat.le_of_ble_eq_true rfl)⟩) ⟨(fun a U g mk q => ⟨q.1, trivial⟩), (fun U hU hW => ⟨rfl, trivial⟩)⟩ rfl rfl hl.1 rfl (lv_room (Nat.le_of_ble_eq_true rfl)) dX9_clash_80 ⟨le_R hRc (Nat.le_refl 0), le_R hRs (Nat.le_refl 0)⟩) hS hP (fun r H locs hr1 hP hS => ?_)
                    subst hr1
                    refine lv_if_eq (tgt := 97) hx hb dX9_clash_83 (by decide) (fun c15 => ?_) (fun c15 => ?_)
                    · have hv := hv.1 c15
                      refine lv_iinc (v := (x13 + 1)) (lv' := [(4, .int (x13 + 1)), (0, .ref (ad 0)), (1, .int what_), (2, .int x3), (3, .int r12)]) hx hb dX9_clash_97 hl (k := 4) rfl rfl (by decide) rfl (fun ls hl => ?_)
                      refine lv_goto (tgt := 49) hx hb dX9_clash_100 (by decide) ?_
                      exact ih49 (x13 + 1) _ _ _ hv hP hD hS (lv_sub hl [1, 2, 3, 4, 0] rfl)
                    · have hv := hv.2 c15
                      refine lv_iload_n hx hb dX9_clash_86 rfl (lv_at hl 1 rfl) ?_
                      refine lv_if_ne (tgt := 94) hx hb dX9_clash_87 (by decide) (fun c14 => ?_) (fun c14 => ?_)
                      · have hv := hv.1 c14
                        refine lv_iload hx hb dX9_clash_94 (lv_at hl 4 rfl) ?_
                        rw [hZ]; rw [hQ] at hv
                        exact W.iret (v := x13) hx hb hr (fun t ht hW => ⟨⟨x13, σ8, rfl, hv, ⟨P_of ht hP, hD⟩⟩, hS.F ht⟩) hS.2.2 dX9_clash_96
                      · have hv := hv.2 c14
                        refine lv_iload_n hx hb dX9_clash_90 rfl (lv_at hl 2 rfl) ?_
                        refine lv_goto (tgt := 96) hx hb dX9_clash_91 (by decide) ?_
                        rw [hZ]; rw [hQ] at hv
                        exact W.iret (v := x3) hx hb hr (fun t ht hW => ⟨⟨x3, σ8, rfl, hv, ⟨P_of ht hP, hD⟩⟩, hS.F ht⟩) hS.2.2 dX9_clash_96
            exact lp49 n49 0 _ _ _ hv hP hD hS (lv_sub hl [2, 3, 4, 1, 0] rfl)
      exact lp29 n29 0 σ2 _ _ _ hv hP hD hS (lv_sub hl [1, 2, 0] rfl)
    · have hv := hv.2 c19
      refine lv_bipush (v := (-3)) hx hb dX9_clash_20 (by decide) ?_
      rw [hZ]; rw [hQ] at hv
      exact W.iret (v := (-3)) hx hb hr (fun t ht hW => ⟨⟨(-3), σ0, rfl, hv, ⟨P_of ht hP, hD⟩⟩, hS.F ht⟩) hS.2.2 dX9_clash_22
  · have hv := hv.2 c20
    refine lv_bipush (v := (-2)) hx hb dX9_clash_10 (by decide) ?_
    rw [hZ]; rw [hQ] at hv
    exact W.iret (v := (-2)) hx hb hr (fun t ht hW => ⟨⟨(-2), σ0, rfl, hv, ⟨P_of ht hP, hD⟩⟩, hS.F ht⟩) hS.2.2 dX9_clash_12
set_option maxHeartbeats 4000000 in
set_option maxRecDepth 100000 in
theorem wk_X9_plan (l : Launch) (h_X9_cellsBarred : Ct_X9_cellsBarred l) (h_X9_in : Ct_X9_in l) (h_X9_isForbidden : Ct_X9_isForbidden l) (h_X9_isSeason : Ct_X9_isSeason l) (h_X9_noDeed : Ct_X9_noDeed l) (h_X9_noSheet : Ct_X9_noSheet l) (h_X9_refused : Ct_X9_refused l) (sp : ∀ (season_ : Int32) (sh_ : Int32) (lane_ : Int32) (i_ : Int32) (n_ : Int32) (ag : AS) (σ0 : S_), pre_X9_plan season_ sh_ lane_ i_ n_ ag σ0 → vc_X9_plan season_ sh_ lane_ i_ n_ σ0 (post_X9_plan season_ sh_ lane_ i_ n_ ag σ0)) : Ct_X9_plan l := by
  intro D cy ad A season_ sh_ lane_ i_ n_ ag σ0  hpre
  refine Met.ofW (cc := cX9_plan) (maxL := 8) (ret := (some .int)) (by decide) rfl ?_
  intro p e s m args below meth c s₁ B hml hv0
  obtain ⟨rfl, hP, hK, hD, hN⟩ := hv0
  have hx := B.exec
  have hb := B.bytes
  have hr := B.returns
  have hts := atoms_spec (ws := wsX9_plan) B.pre
  have hown : s.vm.findClass RX9 = some m.cls := findClass_of_methodNamed B.named
  have hlocks := B.notSynchronized
  have hv := sp season_ sh_ lane_ i_ n_ ag σ0 hpre
  have hl := lv_entry ([.ref (ad 0), .int season_, .int sh_, .int lane_, .int i_, .int n_]) (n := 8) (Nat.le_of_ble_eq_true rfl)
  rw [lg_entry_eq]
  generalize (lg_sl ([.ref (ad 0), .int season_, .int sh_, .int lane_, .int i_, .int n_]) ++ List.replicate (8 - (lg_sl ([.ref (ad 0), .int season_, .int sh_, .int lane_, .int i_, .int n_])).length) Slot.unset).toArray = ls at hl ⊢
  have hl : lv_has ls 8 [(0, .ref (ad 0)), (1, .int season_), (2, .int sh_), (3, .int lane_), (4, .int i_), (5, .int n_)] := hl
  refine W_gen (fun R Z H locs hR hZ hH hlo => ?_)
  have hRf : R.frames = 7 := by rw [hR]; rfl
  have hRl : R.locals = 161 := by rw [hR]; rfl
  have hRc : R.cells = 0 := by rw [hR]; rfl
  have hRs : R.slots = 0 := by rw [hR]; rfl
  have hS : va_S A s.heap H locs := by rw [hH, hlo]; exact va_S.rf
  rw [← hH] at hP
  obtain ⟨Q, hQ⟩ : ∃ q : Int32 → S_ → Prop, q = (post_X9_plan season_ sh_ lane_ i_ n_ ag σ0) := ⟨_, rfl⟩
  rw [← hQ] at hv
  have hinX9 : ∀ w ∈ wsX90, w ∈ wsX9_plan := by decide +kernel
  refine lv_iload_n hx hb dX9_plan_0 rfl (lv_at hl 2 rfl) ?_
  refine k_pure_i (va_runS (As := [.int sh_]) (rest := []) ⟨hx, hb, hml, hown, hts⟩ (h_X9_noSheet sh_) (va_cwS 1 hts gX9_plan_X9_noSheet rfl rfl rfl (by decide +kernel) ⟨le_R hRf (Nat.le_of_ble_eq_true rfl), le_R hRl (Nat.le_of_ble_eq_true rfl)⟩) ⟨(fun a U g mk q => ⟨q.1, trivial⟩), (fun U hU hW => ⟨rfl, trivial⟩)⟩ rfl rfl hl.1 rfl (lv_room (Nat.le_of_ble_eq_true rfl)) dX9_plan_1 ⟨le_R hRc (Nat.le_refl 0), le_R hRs (Nat.le_refl 0)⟩) hS hP (fun r H locs hr1 hP hS => ?_)
  subst hr1
  refine lv_if_eq (tgt := 13) hx hb dX9_plan_4 (by decide) (fun c36 => ?_) (fun c36 => ?_)
  · have hv := hv.1 c36
    refine lv_iload_n hx hb dX9_plan_13 rfl (lv_at hl 3 rfl) ?_
    refine lv_i2l hx hb dX9_plan_14 rfl ?_
    refine lv_lconst (v := 0) hx hb dX9_plan_15 rfl ?_
    refine lv_ldc2 (v := (2)) hx hb hown (hts (.constantLong RX9 114 (2)) (List.mem_of_getElem? (i := 1) rfl)) dX9_plan_16 ?_
    refine k_pure_i (va_runS (As := [.long (Int32.toInt64 lane_), .long 0, .long (2)]) (rest := []) ⟨hx, hb, hml, hown, hts⟩ (h_X9_in (Int32.toInt64 lane_) 0 (2)) (va_cwS 3 hts gX9_plan_X9_in rfl rfl rfl (by decide +kernel) ⟨le_R hRf (Nat.le_of_ble_eq_true rfl), le_R hRl (Nat.le_of_ble_eq_true rfl)⟩) ⟨(fun a U g mk q => ⟨q.1, trivial⟩), (fun U hU hW => ⟨rfl, trivial⟩)⟩ rfl rfl hl.1 rfl (lv_room (Nat.le_of_ble_eq_true rfl)) dX9_plan_19 ⟨le_R hRc (Nat.le_refl 0), le_R hRs (Nat.le_refl 0)⟩) hS hP (fun r H locs hr1 hP hS => ?_)
    subst hr1
    refine lv_if_eq (tgt := 32) hx hb dX9_plan_22 (by decide) (fun c33 => ?_) (fun c33 => ?_)
    · have hv := hv.1 c33
      refine lv_aload_n hx hb dX9_plan_32 rfl (lv_at hl 0 rfl) ?_
      refine lv_bipush (v := (-2)) hx hb dX9_plan_33 (by decide) ?_
      have hp := True.intro
      refine k_rel_i (w := wR cy ad) (va_runV (As := [.int (-2)]) (rest := []) ⟨hx, hb, hml, hown, hts⟩ (h_X9_refused D cy ad A (-2) σ0 hp) (cwV 1 hts gX9_plan_X9_refused rfl rfl rfl (by decide +kernel) ⟨le_R hRf (Nat.le_of_ble_eq_true rfl), le_R hRl (Nat.le_of_ble_eq_true rfl)⟩) ⟨(fun a U g mk q => ⟨q.1, q.2.blind⟩), va_recv hK hP (ci := 9) (q0 := 0) rfl (wR_0 cy ad σ0), (fun U hU hW => ⟨rfl, WdR.pre hP hK hD hN hU hW⟩)⟩ rfl rfl hl.1 rfl (lv_room (Nat.le_of_ble_eq_true rfl)) dX9_plan_35 ⟨le_R hRc (Nat.le_refl 0), le_R hRs (Nat.le_refl 0)⟩) hS (fun r2 σ1 H locs hr1 hP hD hS => ?_)
      have hv := hv r2 σ1 hr1
      rw [hZ]; rw [hQ] at hv
      exact W.iret (v := r2) hx hb hr (fun t ht hW => ⟨⟨r2, σ1, rfl, hv, ⟨P_of ht hP, hD⟩⟩, hS.F ht⟩) hS.2.2 dX9_plan_38
    · have hv := hv.2 c33
      refine lv_iload_n hx hb dX9_plan_25 rfl (lv_at hl 1 rfl) ?_
      refine k_pure_i (va_runS (As := [.int season_]) (rest := []) ⟨hx, hb, hml, hown, hts⟩ (h_X9_isSeason season_) (va_cwS 1 hts gX9_plan_X9_isSeason rfl rfl rfl (by decide +kernel) ⟨le_R hRf (Nat.le_of_ble_eq_true rfl), le_R hRl (Nat.le_of_ble_eq_true rfl)⟩) ⟨(fun a U g mk q => ⟨q.1, trivial⟩), (fun U hU hW => ⟨rfl, trivial⟩)⟩ rfl rfl hl.1 rfl (lv_room (Nat.le_of_ble_eq_true rfl)) dX9_plan_26 ⟨le_R hRc (Nat.le_refl 0), le_R hRs (Nat.le_refl 0)⟩) hS hP (fun r H locs hr1 hP hS => ?_)
      subst hr1
      refine lv_if_ne (tgt := 39) hx hb dX9_plan_29 (by decide) (fun c32 => ?_) (fun c32 => ?_)
      · have hv := hv.1 c32
        refine lv_aload_n hx hb dX9_plan_39 rfl (lv_at hl 0 rfl) ?_
        refine va_get (ci := 9) (v := .int (rdI σ0 1)) (C := RX9) (T := TX9) (N := 38) hx hb hts hinX9 hown hK hP 0 (wR_0 cy ad σ0) rfl 1 (by decide) (hts (.fieldLink RX9 102 "TaleBansModel" "persons" "I") (List.mem_of_getElem? (i := 2) rfl)) (fun x h => h) rfl dX9_plan_40 ?_
        refine lv_if_ne (tgt := 53) hx hb dX9_plan_43 (by decide) (fun c29 => ?_) (fun c29 => ?_)
        · have hv := hv.1 c29
          refine lv_aload_n hx hb dX9_plan_53 rfl (lv_at hl 0 rfl) ?_
          refine lv_iload_n hx hb dX9_plan_54 rfl (lv_at hl 2 rfl) ?_
          refine lv_iload_n hx hb dX9_plan_55 rfl (lv_at hl 3 rfl) ?_
          refine lv_iload hx hb dX9_plan_56 (lv_at hl 4 rfl) ?_
          refine lv_iload hx hb dX9_plan_58 (lv_at hl 5 rfl) ?_
          refine lv_i2l hx hb dX9_plan_60 rfl ?_
          obtain ⟨hp, hv⟩ := hv
          refine k_rel_i (w := wR cy ad) (va_runV (As := [.int sh_, .int lane_, .int i_, .long (Int32.toInt64 n_)]) (rest := []) ⟨hx, hb, hml, hown, hts⟩ (h_X9_cellsBarred D cy ad A sh_ lane_ i_ (Int32.toInt64 n_) σ0 hp) (cwV 4 hts gX9_plan_X9_cellsBarred rfl rfl rfl (by decide +kernel) ⟨le_R hRf (Nat.le_of_ble_eq_true rfl), le_R hRl (Nat.le_of_ble_eq_true rfl)⟩) ⟨(fun a U g mk q => ⟨q.1, q.2.blind⟩), va_recv hK hP (ci := 9) (q0 := 0) rfl (wR_0 cy ad σ0), (fun U hU hW => ⟨rfl, WdR.pre hP hK hD hN hU hW⟩)⟩ rfl rfl hl.1 rfl (lv_room (Nat.le_of_ble_eq_true rfl)) dX9_plan_61 ⟨le_R hRc (Nat.le_refl 0), le_R hRs (Nat.le_refl 0)⟩) hS (fun r4 σ3 H locs hr1 hP hD hS => ?_)
          have hv := hv r4 σ3 hr1
          refine lv_istore (lv' := [(6, .int r4), (0, .ref (ad 0)), (1, .int season_), (2, .int sh_), (3, .int lane_), (4, .int i_), (5, .int n_)]) hx hb dX9_plan_64 hl (by decide) rfl (fun ls hl => ?_)
          refine lv_iload hx hb dX9_plan_66 (lv_at hl 0 rfl) ?_
          refine lv_if_ge (tgt := 74) hx hb dX9_plan_68 (by decide) (fun c26 => ?_) (fun c26 => ?_)
          · have hv := hv.1 c26
            refine lv_iload_n hx hb dX9_plan_74 rfl (lv_at hl 2 rfl) ?_
            refine lv_iload hx hb dX9_plan_75 (lv_at hl 6 rfl) ?_
            refine lv_iadd hx hb dX9_plan_77 ?_
            refine lv_bipush (v := 40) hx hb dX9_plan_78 (by decide) ?_
            refine lv_icmp_le (tgt := 90) hx hb dX9_plan_80 (by decide) (fun c25 => ?_) (fun c25 => ?_)
            · have hv := hv.1 c25
              refine lv_iconst (v := 0) hx hb dX9_plan_90 (by decide) ?_
              refine lv_istore (lv' := [(7, .int 0), (6, .int r4), (0, .ref (ad 0)), (1, .int season_), (2, .int sh_), (3, .int lane_), (4, .int i_), (5, .int n_)]) hx hb dX9_plan_91 hl (by decide) rfl (fun ls hl => ?_)
              obtain ⟨n93, hv⟩ := hv
              have lp93 : ∀ (nn93 : Nat) (x5 : Int32) (H : Heap) (locs : List Loc) (ls : Array Slot), vl_X9_plan_93 season_ sh_ i_ n_ σ3 Q nn93 x5 → va_P D vwCl (wR cy ad σ3) H → va_D A (wR cy ad σ3) → va_S A s.heap H locs → lv_has ls 8 [(0, .ref (ad 0)), (1, .int season_), (2, .int sh_), (4, .int i_), (5, .int n_), (7, .int x5)] → W p l e R s m ([.ref (ad 0), .int season_, .int sh_, .int lane_, .int i_, .int n_] : List Value).toArray  below meth c H locs 0 0 Z (F0 m 93 ls []) := by
                intro nn93
                induction nn93 with
                | zero => intro x5 H locs ls hv; exact absurd hv id
                | succ mm93 ih93 =>
                  intro x5 H locs ls hv hP hD hS hl
                  refine lv_iload hx hb dX9_plan_93 (lv_at hl 5 rfl) ?_
                  refine lv_iload hx hb dX9_plan_95 (lv_at hl 4 rfl) ?_
                  refine lv_icmp_ge (tgt := 133) hx hb dX9_plan_97 (by decide) (fun c22 => ?_) (fun c22 => ?_)
                  · have hv := hv.1 c22
                    refine lv_iconst (v := 0) hx hb dX9_plan_133 (by decide) ?_
                    refine lv_istore (lv' := [(7, .int 0), (0, .ref (ad 0)), (1, .int season_), (2, .int sh_), (4, .int i_), (5, .int n_)]) hx hb dX9_plan_134 hl (by decide) rfl (fun ls hl => ?_)
                    obtain ⟨n136, hv⟩ := hv
                    have lp136 : ∀ (nn136 : Nat) (x6 : Int32) (σ7 : S_) (H : Heap) (locs : List Loc) (ls : Array Slot), vl_X9_plan_136 season_ sh_ i_ n_ Q nn136 x6 σ7 → va_P D vwCl (wR cy ad σ7) H → va_D A (wR cy ad σ7) → va_S A s.heap H locs → lv_has ls 8 [(0, .ref (ad 0)), (1, .int season_), (2, .int sh_), (4, .int i_), (5, .int n_), (7, .int x6)] → W p l e R s m ([.ref (ad 0), .int season_, .int sh_, .int lane_, .int i_, .int n_] : List Value).toArray  below meth c H locs 0 0 Z (F0 m 136 ls []) := by
                      intro nn136
                      induction nn136 with
                      | zero => intro x6 σ7 H locs ls hv; exact absurd hv id
                      | succ mm136 ih136 =>
                        intro x6 σ7 H locs ls hv hP hD hS hl
                        refine lv_iload hx hb dX9_plan_136 (lv_at hl 5 rfl) ?_
                        refine lv_iload hx hb dX9_plan_138 (lv_at hl 4 rfl) ?_
                        refine lv_icmp_ge (tgt := 182) hx hb dX9_plan_140 (by decide) (fun c18 => ?_) (fun c18 => ?_)
                        · have hv := hv.1 c18
                          refine lv_aload_n hx hb dX9_plan_182 rfl (lv_at hl 0 rfl) ?_
                          refine lv_bipush (v := (-9)) hx hb dX9_plan_183 (by decide) ?_
                          have hp := True.intro
                          refine k_rel_i (w := wR cy ad) (va_runV (As := [.int (-9)]) (rest := []) ⟨hx, hb, hml, hown, hts⟩ (h_X9_refused D cy ad A (-9) σ7 hp) (cwV 1 hts gX9_plan_X9_refused rfl rfl rfl (by decide +kernel) ⟨le_R hRf (Nat.le_of_ble_eq_true rfl), le_R hRl (Nat.le_of_ble_eq_true rfl)⟩) ⟨(fun a U g mk q => ⟨q.1, q.2.blind⟩), va_recv hK hP (ci := 9) (q0 := 0) rfl (wR_0 cy ad σ7), (fun U hU hW => ⟨rfl, WdR.pre hP hK hD hN hU hW⟩)⟩ rfl rfl hl.1 rfl (lv_room (Nat.le_of_ble_eq_true rfl)) dX9_plan_185 ⟨le_R hRc (Nat.le_refl 0), le_R hRs (Nat.le_refl 0)⟩) hS (fun r9 σ8 H locs hr1 hP hD hS => ?_)
                          have hv := hv r9 σ8 hr1
                          rw [hZ]; rw [hQ] at hv
                          exact W.iret (v := r9) hx hb hr (fun t ht hW => ⟨⟨r9, σ8, rfl, hv, ⟨P_of ht hP, hD⟩⟩, hS.F ht⟩) hS.2.2 dX9_plan_188
                        · have hv := hv.2 c18
                          refine lv_aload_n hx hb dX9_plan_143 rfl (lv_at hl 0 rfl) ?_
                          refine lv_aload_n hx hb dX9_plan_144 rfl (lv_at hl 0 rfl) ?_
                          refine va_get (ci := 9) (v := .ref (ad (26))) (C := RX9) (T := TX9) (N := 38) hx hb hts hinX9 hown hK hP 0 (wR_0 cy ad σ7) rfl 35 (by decide) (hts (.fieldLink RX9 86 "TaleBansModel" "sheet" "[I") (List.mem_of_getElem? (i := 3) rfl)) (fun x h => h) rfl dX9_plan_145 ?_
                          refine lv_bipush (v := 60) hx hb dX9_plan_148 (by decide) ?_
                          refine lv_iload_n hx hb dX9_plan_150 rfl (lv_at hl 2 rfl) ?_
                          refine lv_imul hx hb dX9_plan_151 ?_
                          refine lv_iload hx hb dX9_plan_152 (lv_at hl 3 rfl) ?_
                          refine lv_iadd hx hb dX9_plan_154 ?_
                          refine lv_iload hx hb dX9_plan_155 (lv_at hl 5 rfl) ?_
                          refine lv_iadd hx hb dX9_plan_157 ?_
                          obtain ⟨hi, hv⟩ := hv
                          refine va_iald hx hb hK hP 26 0 (wR_26 cy ad σ7) rfl hi dX9_plan_158 ?_
                          refine lv_iload_n hx hb dX9_plan_159 rfl (lv_at hl 1 rfl) ?_
                          refine lv_iload hx hb dX9_plan_160 (lv_at hl 5 rfl) ?_
                          refine lv_iadd hx hb dX9_plan_162 ?_
                          obtain ⟨g10, g11, g12, hv⟩ := hv
                          obtain ⟨hp, hv⟩ := hv
                          refine k_rel_i (w := wR cy ad) (va_runV (As := [.int (rdA σ7 26 (Int32.toNatClampNeg (((60 * sh_) + i_) + x6))), .int (season_ + x6)]) (rest := []) ⟨hx, hb, hml, hown, hts⟩ (h_X9_isForbidden D cy ad A (rdA σ7 26 (Int32.toNatClampNeg (((60 * sh_) + i_) + x6))) (season_ + x6) g10 g11 g12 σ7 hp) (cwV 2 hts gX9_plan_X9_isForbidden rfl rfl rfl (by decide +kernel) ⟨le_R hRf (Nat.le_of_ble_eq_true rfl), le_R hRl (Nat.le_of_ble_eq_true rfl)⟩) ⟨(fun a U g mk q => ⟨q.1, q.2.blind⟩), va_recv hK hP (ci := 9) (q0 := 0) rfl (wR_0 cy ad σ7), (fun U hU hW => ⟨rfl, WdR.pre hP hK hD hN hU hW⟩)⟩ rfl rfl hl.1 rfl (lv_room (Nat.le_of_ble_eq_true rfl)) dX9_plan_163 ⟨le_R hRc (Nat.le_refl 0), le_R hRs (Nat.le_refl 0)⟩) hS (fun r14 σ13 H locs hr1 hP hD hS => ?_)
                          have hv := hv r14 σ13 hr1
                          refine lv_if_eq (tgt := 176) hx hb dX9_plan_166 (by decide) (fun c17 => ?_) (fun c17 => ?_)
                          · have hv := hv.1 c17
                            refine lv_iinc (v := (x6 + 1)) (lv' := [(7, .int (x6 + 1)), (0, .ref (ad 0)), (1, .int season_), (2, .int sh_), (4, .int i_), (5, .int n_)]) hx hb dX9_plan_176 hl (k := 5) rfl rfl (by decide) rfl (fun ls hl => ?_)
                            refine lv_goto (tgt := 136) hx hb dX9_plan_179 (by decide) ?_
                            exact ih136 (x6 + 1) σ13 _ _ _ hv hP hD hS (lv_sub hl [1, 2, 3, 4, 5, 0] rfl)
                          · have hv := hv.2 c17
                            refine lv_aload_n hx hb dX9_plan_169 rfl (lv_at hl 0 rfl) ?_
                            refine lv_iload hx hb dX9_plan_170 (lv_at hl 5 rfl) ?_
                            have hp := True.intro
                            refine k_rel_i (w := wR cy ad) (va_runV (As := [.int x6]) (rest := []) ⟨hx, hb, hml, hown, hts⟩ (h_X9_refused D cy ad A x6 σ13 hp) (cwV 1 hts gX9_plan_X9_refused rfl rfl rfl (by decide +kernel) ⟨le_R hRf (Nat.le_of_ble_eq_true rfl), le_R hRl (Nat.le_of_ble_eq_true rfl)⟩) ⟨(fun a U g mk q => ⟨q.1, q.2.blind⟩), va_recv hK hP (ci := 9) (q0 := 0) rfl (wR_0 cy ad σ13), (fun U hU hW => ⟨rfl, WdR.pre hP hK hD hN hU hW⟩)⟩ rfl rfl hl.1 rfl (lv_room (Nat.le_of_ble_eq_true rfl)) dX9_plan_172 ⟨le_R hRc (Nat.le_refl 0), le_R hRs (Nat.le_refl 0)⟩) hS (fun r16 σ15 H locs hr1 hP hD hS => ?_)
                            have hv := hv r16 σ15 hr1
                            rw [hZ]; rw [hQ] at hv
                            exact W.iret (v := r16) hx hb hr (fun t ht hW => ⟨⟨r16, σ15, rfl, hv, ⟨P_of ht hP, hD⟩⟩, hS.F ht⟩) hS.2.2 dX9_plan_175
                    exact lp136 n136 0 σ3 _ _ _ hv hP hD hS (lv_sub hl [1, 2, 3, 4, 5, 0] rfl)
                  · have hv := hv.2 c22
                    refine lv_aload_n hx hb dX9_plan_100 rfl (lv_at hl 0 rfl) ?_
                    refine va_get (ci := 9) (v := .ref (ad (26))) (C := RX9) (T := TX9) (N := 38) hx hb hts hinX9 hown hK hP 0 (wR_0 cy ad σ3) rfl 35 (by decide) (hts (.fieldLink RX9 86 "TaleBansModel" "sheet" "[I") (List.mem_of_getElem? (i := 3) rfl)) (fun x h => h) rfl dX9_plan_101 ?_
                    refine lv_bipush (v := 60) hx hb dX9_plan_104 (by decide) ?_
                    refine lv_iload_n hx hb dX9_plan_106 rfl (lv_at hl 2 rfl) ?_
                    refine lv_imul hx hb dX9_plan_107 ?_
                    refine lv_iload hx hb dX9_plan_108 (lv_at hl 3 rfl) ?_
                    refine lv_iadd hx hb dX9_plan_110 ?_
                    refine lv_iload hx hb dX9_plan_111 (lv_at hl 5 rfl) ?_
                    refine lv_iadd hx hb dX9_plan_113 ?_
                    obtain ⟨hi, hv⟩ := hv
                    refine va_iald hx hb hK hP 26 0 (wR_26 cy ad σ3) rfl hi dX9_plan_114 ?_
                    refine k_pure_i (va_runS (As := [.int (rdA σ3 26 (Int32.toNatClampNeg (((60 * sh_) + i_) + x5)))]) (rest := []) ⟨hx, hb, hml, hown, hts⟩ (h_X9_noDeed (rdA σ3 26 (Int32.toNatClampNeg (((60 * sh_) + i_) + x5)))) (va_cwS 1 hts gX9_plan_X9_noDeed rfl rfl rfl (by decide +kernel) ⟨le_R hRf (Nat.le_of_ble_eq_true rfl), le_R hRl (Nat.le_of_ble_eq_true rfl)⟩) ⟨(fun a U g mk q => ⟨q.1, trivial⟩), (fun U hU hW => ⟨rfl, trivial⟩)⟩ rfl rfl hl.1 rfl (lv_room (Nat.le_of_ble_eq_true rfl)) dX9_plan_115 ⟨le_R hRc (Nat.le_refl 0), le_R hRs (Nat.le_refl 0)⟩) hS hP (fun r H locs hr1 hP hS => ?_)
                    subst hr1
                    refine lv_if_eq (tgt := 127) hx hb dX9_plan_118 (by decide) (fun c21 => ?_) (fun c21 => ?_)
                    · have hv := hv.1 c21
                      refine lv_iinc (v := (x5 + 1)) (lv' := [(7, .int (x5 + 1)), (0, .ref (ad 0)), (1, .int season_), (2, .int sh_), (4, .int i_), (5, .int n_)]) hx hb dX9_plan_127 hl (k := 5) rfl rfl (by decide) rfl (fun ls hl => ?_)
                      refine lv_goto (tgt := 93) hx hb dX9_plan_130 (by decide) ?_
                      exact ih93 (x5 + 1) _ _ _ hv hP hD hS (lv_sub hl [1, 2, 3, 4, 5, 0] rfl)
                    · have hv := hv.2 c21
                      refine lv_aload_n hx hb dX9_plan_121 rfl (lv_at hl 0 rfl) ?_
                      refine lv_iconst (v := (-1)) hx hb dX9_plan_122 (by decide) ?_
                      have hp := True.intro
                      refine k_rel_i (w := wR cy ad) (va_runV (As := [.int (-1)]) (rest := []) ⟨hx, hb, hml, hown, hts⟩ (h_X9_refused D cy ad A (-1) σ3 hp) (cwV 1 hts gX9_plan_X9_refused rfl rfl rfl (by decide +kernel) ⟨le_R hRf (Nat.le_of_ble_eq_true rfl), le_R hRl (Nat.le_of_ble_eq_true rfl)⟩) ⟨(fun a U g mk q => ⟨q.1, q.2.blind⟩), va_recv hK hP (ci := 9) (q0 := 0) rfl (wR_0 cy ad σ3), (fun U hU hW => ⟨rfl, WdR.pre hP hK hD hN hU hW⟩)⟩ rfl rfl hl.1 rfl (lv_room (Nat.le_of_ble_eq_true rfl)) dX9_plan_123 ⟨le_R hRc (Nat.le_refl 0), le_R hRs (Nat.le_refl 0)⟩) hS (fun r20 σ19 H locs hr1 hP hD hS => ?_)
                      have hv := hv r20 σ19 hr1
                      rw [hZ]; rw [hQ] at hv
                      exact W.iret (v := r20) hx hb hr (fun t ht hW => ⟨⟨r20, σ19, rfl, hv, ⟨P_of ht hP, hD⟩⟩, hS.F ht⟩) hS.2.2 dX9_plan_126
              exact lp93 n93 0 _ _ _ hv hP hD hS (lv_sub hl [2, 3, 4, 6, 7, 0] rfl)
            · have hv := hv.2 c25
              refine lv_aload_n hx hb dX9_plan_83 rfl (lv_at hl 1 rfl) ?_
              refine lv_bipush (v := (-2)) hx hb dX9_plan_84 (by decide) ?_
              have hp := True.intro
              refine k_rel_i (w := wR cy ad) (va_runV (As := [.int (-2)]) (rest := []) ⟨hx, hb, hml, hown, hts⟩ (h_X9_refused D cy ad A (-2) σ3 hp) (cwV 1 hts gX9_plan_X9_refused rfl rfl rfl (by decide +kernel) ⟨le_R hRf (Nat.le_of_ble_eq_true rfl), le_R hRl (Nat.le_of_ble_eq_true rfl)⟩) ⟨(fun a U g mk q => ⟨q.1, q.2.blind⟩), va_recv hK hP (ci := 9) (q0 := 0) rfl (wR_0 cy ad σ3), (fun U hU hW => ⟨rfl, WdR.pre hP hK hD hN hU hW⟩)⟩ rfl rfl hl.1 rfl (lv_room (Nat.le_of_ble_eq_true rfl)) dX9_plan_86 ⟨le_R hRc (Nat.le_refl 0), le_R hRs (Nat.le_refl 0)⟩) hS (fun r24 σ23 H locs hr1 hP hD hS => ?_)
              have hv := hv r24 σ23 hr1
              rw [hZ]; rw [hQ] at hv
              exact W.iret (v := r24) hx hb hr (fun t ht hW => ⟨⟨r24, σ23, rfl, hv, ⟨P_of ht hP, hD⟩⟩, hS.F ht⟩) hS.2.2 dX9_plan_89
          · have hv := hv.2 c26
            refine lv_iload hx hb dX9_plan_71 (lv_at hl 0 rfl) ?_
            rw [hZ]; rw [hQ] at hv
            exact W.iret (v := r4) hx hb hr (fun t ht hW => ⟨⟨r4, σ3, rfl, hv, ⟨P_of ht hP, hD⟩⟩, hS.F ht⟩) hS.2.2 dX9_plan_73
        · have hv := hv.2 c29
          refine lv_aload_n hx hb dX9_plan_46 rfl (lv_at hl 0 rfl) ?_
          refine lv_bipush (v := (-3)) hx hb dX9_plan_47 (by decide) ?_
          have hp := True.intro
          refine k_rel_i (w := wR cy ad) (va_runV (As := [.int (-3)]) (rest := []) ⟨hx, hb, hml, hown, hts⟩ (h_X9_refused D cy ad A (-3) σ0 hp) (cwV 1 hts gX9_plan_X9_refused rfl rfl rfl (by decide +kernel) ⟨le_R hRf (Nat.le_of_ble_eq_true rfl), le_R hRl (Nat.le_of_ble_eq_true rfl)⟩) ⟨(fun a U g mk q => ⟨q.1, q.2.blind⟩), va_recv hK hP (ci := 9) (q0 := 0) rfl (wR_0 cy ad σ0), (fun U hU hW => ⟨rfl, WdR.pre hP hK hD hN hU hW⟩)⟩ rfl rfl hl.1 rfl (lv_room (Nat.le_of_ble_eq_true rfl)) dX9_plan_49 ⟨le_R hRc (Nat.le_refl 0), le_R hRs (Nat.le_refl 0)⟩) hS (fun r28 σ27 H locs hr1 hP hD hS => ?_)
          have hv := hv r28 σ27 hr1
          rw [hZ]; rw [hQ] at hv
          exact W.iret (v := r28) hx hb hr (fun t ht hW => ⟨⟨r28, σ27, rfl, hv, ⟨P_of ht hP, hD⟩⟩, hS.F ht⟩) hS.2.2 dX9_plan_52
      · have hv := hv.2 c32
        refine lv_aload_n hx hb dX9_plan_32 rfl (lv_at hl 0 rfl) ?_
        refine lv_bipush (v := (-2)) hx hb dX9_plan_33 (by decide) ?_
        have hp := True.intro
        refine k_rel_i (w := wR cy ad) (va_runV (As := [.int (-2)]) (rest := []) ⟨hx, hb, hml, hown, hts⟩ (h_X9_refused D cy ad A (-2) σ0 hp) (cwV 1 hts gX9_plan_X9_refused rfl rfl rfl (by decide +kernel) ⟨le_R hRf (Nat.le_of_ble_eq_true rfl), le_R hRl (Nat.le_of_ble_eq_true rfl)⟩) ⟨(fun a U g mk q => ⟨q.1, q.2.blind⟩), va_recv hK hP (ci := 9) (q0 := 0) rfl (wR_0 cy ad σ0), (fun U hU hW => ⟨rfl, WdR.pre hP hK hD hN hU hW⟩)⟩ rfl rfl hl.1 rfl (lv_room (Nat.le_of_ble_eq_true rfl)) dX9_plan_35 ⟨le_R hRc (Nat.le_refl 0), le_R hRs (Nat.le_refl 0)⟩) hS (fun r31 σ30 H locs hr1 hP hD hS => ?_)
        have hv := hv r31 σ30 hr1
        rw [hZ]; rw [hQ] at hv
        exact W.iret (v := r31) hx hb hr (fun t ht hW => ⟨⟨r31, σ30, rfl, hv, ⟨P_of ht hP, hD⟩⟩, hS.F ht⟩) hS.2.2 dX9_plan_38
  · have hv := hv.2 c36
    refine lv_aload_n hx hb dX9_plan_7 rfl (lv_at hl 0 rfl) ?_
    refine lv_iconst (v := (-1)) hx hb dX9_plan_8 (by decide) ?_
    have hp := True.intro
    refine k_rel_i (w := wR cy ad) (va_runV (As := [.int (-1)]) (rest := []) ⟨hx, hb, hml, hown, hts⟩ (h_X9_refused D cy ad A (-1) σ0 hp) (cwV 1 hts gX9_plan_X9_refused rfl rfl rfl (by decide +kernel) ⟨le_R hRf (Nat.le_of_ble_eq_true rfl), le_R hRl (Nat.le_of_ble_eq_true rfl)⟩) ⟨(fun a U g mk q => ⟨q.1, q.2.blind⟩), va_recv hK hP (ci := 9) (q0 := 0) rfl (wR_0 cy ad σ0), (fun U hU hW => ⟨rfl, WdR.pre hP hK hD hN hU hW⟩)⟩ rfl rfl hl.1 rfl (lv_room (Nat.le_of_ble_eq_true rfl)) dX9_plan_9 ⟨le_R hRc (Nat.le_refl 0), le_R hRs (Nat.le_refl 0)⟩) hS (fun r35 σ34 H locs hr1 hP hD hS => ?_)
    have hv := hv r35 σ34 hr1
    rw [hZ]; rw [hQ] at hv
    exact W.iret (v := r35) hx hb hr (fun t ht hW => ⟨⟨r35, σ34, rfl, hv, ⟨P_of ht hP, hD⟩⟩, hS.F ht⟩) hS.2.2 dX9_plan_12
set_option maxHeartbeats 4000000 in
set_option maxRecDepth 100000 in
theorem wk_X9_reading (l : Launch) (h_X9_isSeason : Ct_X9_isSeason l) (h_X9_noPerson : Ct_X9_noPerson l) (h_X9_noTale : Ct_X9_noTale l) (sp : ∀ (p_ : Int32) (t_ : Int32) (season_ : Int32) (did_ : Int32) (ag : AS) (σ0 : S_), pre_X9_reading p_ t_ season_ did_ ag σ0 → vc_X9_reading p_ t_ season_ did_ σ0 (post_X9_reading p_ t_ season_ did_ ag σ0)) : Ct_X9_reading l := by
  intro D cy ad A p_ t_ season_ did_ ag σ0  hpre
  refine Met.ofW (cc := cX9_reading) (maxL := 5) (ret := (some .int)) (by decide) rfl ?_
  intro p e s m args below meth c s₁ B hml hv0
  obtain ⟨rfl, hP, hK, hD, hN⟩ := hv0
  have hx := B.exec
  have hb := B.bytes
  have hr := B.returns
  have hts := atoms_spec (ws := wsX9_reading) B.pre
  have hown : s.vm.findClass RX9 = some m.cls := findClass_of_methodNamed B.named
  have hlocks := B.notSynchronized
  have hv := sp p_ t_ season_ did_ ag σ0 hpre
  have hl := lv_entry ([.ref (ad 0), .int p_, .int t_, .int season_, .int did_]) (n := 5) (Nat.le_of_ble_eq_true rfl)
  rw [lg_entry_eq]
  generalize (lg_sl ([.ref (ad 0), .int p_, .int t_, .int season_, .int did_]) ++ List.replicate (5 - (lg_sl ([.ref (ad 0), .int p_, .int t_, .int season_, .int did_])).length) Slot.unset).toArray = ls at hl ⊢
  have hl : lv_has ls 5 [(0, .ref (ad 0)), (1, .int p_), (2, .int t_), (3, .int season_), (4, .int did_)] := hl
  refine W_gen (fun R Z H locs hR hZ hH hlo => ?_)
  have hRf : R.frames = 2 := by rw [hR]; rfl
  have hRl : R.locals = 46 := by rw [hR]; rfl
  have hRc : R.cells = 0 := by rw [hR]; rfl
  have hRs : R.slots = 0 := by rw [hR]; rfl
  have hS : va_S A s.heap H locs := by rw [hH, hlo]; exact va_S.rf
  rw [← hH] at hP
  obtain ⟨Q, hQ⟩ : ∃ q : Int32 → S_ → Prop, q = (post_X9_reading p_ t_ season_ did_ ag σ0) := ⟨_, rfl⟩
  rw [← hQ] at hv
  have hinX9 : ∀ w ∈ wsX90, w ∈ wsX9_reading := by decide +kernel
  refine lv_aload_n hx hb dX9_reading_0 rfl (lv_at hl 0 rfl) ?_
  refine lv_iload_n hx hb dX9_reading_1 rfl (lv_at hl 1 rfl) ?_
  have hp := True.intro
  refine k_read_i (w := wR cy ad) (va_runV (As := [.int p_]) (rest := []) ⟨hx, hb, hml, hown, hts⟩ (h_X9_noPerson D cy ad A p_ σ0 hp) (cwV 1 hts gX9_reading_X9_noPerson rfl rfl rfl (by decide +kernel) ⟨le_R hRf (Nat.le_of_ble_eq_true rfl), le_R hRl (Nat.le_of_ble_eq_true rfl)⟩) ⟨(fun a U g mk q => ⟨q.1, q.2.blind⟩), va_recv hK hP (ci := 9) (q0 := 0) rfl (wR_0 cy ad σ0), (fun U hU hW => ⟨rfl, WdR.pre hP hK hD hN hU hW⟩)⟩ rfl rfl hl.1 rfl (lv_room (Nat.le_of_ble_eq_true rfl)) dX9_reading_2 ⟨le_R hRc (Nat.le_refl 0), le_R hRs (Nat.le_refl 0)⟩) hS (fun r H locs hr1 hP hS => ?_)
  subst hr1
  refine lv_if_ne (tgt := 16) hx hb dX9_reading_5 (by decide) (fun c14 => ?_) (fun c14 => ?_)
  · have hv := hv.1 c14
    refine lv_iconst (v := (-1)) hx hb dX9_reading_16 (by decide) ?_
    rw [hZ]; rw [hQ] at hv
    exact W.iret (v := (-1)) hx hb hr (fun t ht hW => ⟨⟨(-1), σ0, rfl, hv, ⟨P_of ht hP, hD⟩⟩, hS.F ht⟩) hS.2.2 dX9_reading_17
  · have hv := hv.2 c14
    refine lv_aload_n hx hb dX9_reading_8 rfl (lv_at hl 0 rfl) ?_
    refine lv_iload_n hx hb dX9_reading_9 rfl (lv_at hl 2 rfl) ?_
    have hp := True.intro
    refine k_read_i (w := wR cy ad) (va_runV (As := [.int t_]) (rest := []) ⟨hx, hb, hml, hown, hts⟩ (h_X9_noTale D cy ad A t_ σ0 hp) (cwV 1 hts gX9_reading_X9_noTale rfl rfl rfl (by decide +kernel) ⟨le_R hRf (Nat.le_of_ble_eq_true rfl), le_R hRl (Nat.le_of_ble_eq_true rfl)⟩) ⟨(fun a U g mk q => ⟨q.1, q.2.blind⟩), va_recv hK hP (ci := 9) (q0 := 0) rfl (wR_0 cy ad σ0), (fun U hU hW => ⟨rfl, WdR.pre hP hK hD hN hU hW⟩)⟩ rfl rfl hl.1 rfl (lv_room (Nat.le_of_ble_eq_true rfl)) dX9_reading_10 ⟨le_R hRc (Nat.le_refl 0), le_R hRs (Nat.le_refl 0)⟩) hS (fun r H locs hr1 hP hS => ?_)
    subst hr1
    refine lv_if_eq (tgt := 18) hx hb dX9_reading_13 (by decide) (fun c13 => ?_) (fun c13 => ?_)
    · have hv := hv.1 c13
      refine lv_iload_n hx hb dX9_reading_18 rfl (lv_at hl 3 rfl) ?_
      refine k_pure_i (va_runS (As := [.int season_]) (rest := []) ⟨hx, hb, hml, hown, hts⟩ (h_X9_isSeason season_) (va_cwS 1 hts gX9_reading_X9_isSeason rfl rfl rfl (by decide +kernel) ⟨le_R hRf (Nat.le_of_ble_eq_true rfl), le_R hRl (Nat.le_of_ble_eq_true rfl)⟩) ⟨(fun a U g mk q => ⟨q.1, trivial⟩), (fun U hU hW => ⟨rfl, trivial⟩)⟩ rfl rfl hl.1 rfl (lv_room (Nat.le_of_ble_eq_true rfl)) dX9_reading_19 ⟨le_R hRc (Nat.le_refl 0), le_R hRs (Nat.le_refl 0)⟩) hS hP (fun r H locs hr1 hP hS => ?_)
      subst hr1
      refine lv_if_ne (tgt := 28) hx hb dX9_reading_22 (by decide) (fun c12 => ?_) (fun c12 => ?_)
      · have hv := hv.1 c12
        refine lv_aload_n hx hb dX9_reading_28 rfl (lv_at hl 0 rfl) ?_
        refine va_get (ci := 9) (v := .int (rdI σ0 9)) (C := RX9) (T := TX9) (N := 38) hx hb hts hinX9 hown hK hP 0 (wR_0 cy ad σ0) rfl 28 (by decide) (hts (.fieldLink RX9 170 "TaleBansModel" "readings" "I") (List.mem_of_getElem? (i := 1) rfl)) (fun x h => h) rfl dX9_reading_29 ?_
        refine lv_bipush (v := 8) hx hb dX9_reading_32 (by decide) ?_
        refine lv_icmp_ne (tgt := 40) hx hb dX9_reading_34 (by decide) (fun c11 => ?_) (fun c11 => ?_)
        · have hv := hv.1 c11
          refine lv_aload_n hx hb dX9_reading_40 rfl (lv_at hl 0 rfl) ?_
          refine va_get (ci := 9) (v := .ref (ad (20))) (C := RX9) (T := TX9) (N := 38) hx hb hts hinX9 hown hK hP 0 (wR_0 cy ad σ0) rfl 29 (by decide) (hts (.fieldLink RX9 68 "TaleBansModel" "readingOf" "[I") (List.mem_of_getElem? (i := 2) rfl)) (fun x h => h) rfl dX9_reading_41 ?_
          refine lv_aload_n hx hb dX9_reading_44 rfl (lv_at hl 0 rfl) ?_
          refine va_get (ci := 9) (v := .int (rdI σ0 9)) (C := RX9) (T := TX9) (N := 38) hx hb hts hinX9 hown hK hP 0 (wR_0 cy ad σ0) rfl 28 (by decide) (hts (.fieldLink RX9 170 "TaleBansModel" "readings" "I") (List.mem_of_getElem? (i := 1) rfl)) (fun x h => h) rfl dX9_reading_45 ?_
          refine lv_iload_n hx hb dX9_reading_48 rfl (lv_at hl 1 rfl) ?_
          obtain ⟨hi, hv⟩ := hv
          refine va_iast hx hb hK hP hD hS 20 0 (wR_20 cy ad σ0) rfl hi dX9_reading_49 (fun H locs hP hD hS => ?_)
          obtain ⟨σ1, e2⟩ : ∃ y : S_, y = wr2 σ0 20 (Int32.toNatClampNeg (rdI σ0 9)) p_ := ⟨_, rfl⟩
          have hP : va_P D vwCl (wR cy ad σ1) H := by rw [e2]; exact hP
          have hD : va_D A (wR cy ad σ1) := by rw [e2]; exact hD
          have hv := hv σ1 e2
          refine lv_aload_n hx hb dX9_reading_50 rfl (lv_at hl 0 rfl) ?_
          refine va_get (ci := 9) (v := .ref (ad (21))) (C := RX9) (T := TX9) (N := 38) hx hb hts hinX9 hown hK hP 0 (wR_0 cy ad σ1) rfl 30 (by decide) (hts (.fieldLink RX9 71 "TaleBansModel" "readingTale" "[I") (List.mem_of_getElem? (i := 3) rfl)) (fun x h => h) rfl dX9_reading_51 ?_
          refine lv_aload_n hx hb dX9_reading_54 rfl (lv_at hl 0 rfl) ?_
          refine va_get (ci := 9) (v := .int (rdI σ1 9)) (C := RX9) (T := TX9) (N := 38) hx hb hts hinX9 hown hK hP 0 (wR_0 cy ad σ1) rfl 28 (by decide) (hts (.fieldLink RX9 170 "TaleBansModel" "readings" "I") (List.mem_of_getElem? (i := 1) rfl)) (fun x h => h) rfl dX9_reading_55 ?_
          refine lv_iload_n hx hb dX9_reading_58 rfl (lv_at hl 2 rfl) ?_
          obtain ⟨hi, hv⟩ := hv
          refine va_iast hx hb hK hP hD hS 21 0 (wR_21 cy ad σ1) rfl hi dX9_reading_59 (fun H locs hP hD hS => ?_)
          obtain ⟨σ3, e4⟩ : ∃ y : S_, y = wr2 σ1 21 (Int32.toNatClampNeg (rdI σ1 9)) t_ := ⟨_, rfl⟩
          have hP : va_P D vwCl (wR cy ad σ3) H := by rw [e4]; exact hP
          have hD : va_D A (wR cy ad σ3) := by rw [e4]; exact hD
          have hv := hv σ3 e4
          refine lv_aload_n hx hb dX9_reading_60 rfl (lv_at hl 0 rfl) ?_
          refine va_get (ci := 9) (v := .ref (ad (22))) (C := RX9) (T := TX9) (N := 38) hx hb hts hinX9 hown hK hP 0 (wR_0 cy ad σ3) rfl 31 (by decide) (hts (.fieldLink RX9 74 "TaleBansModel" "readingIn" "[I") (List.mem_of_getElem? (i := 4) rfl)) (fun x h => h) rfl dX9_reading_61 ?_
          refine lv_aload_n hx hb dX9_reading_64 rfl (lv_at hl 0 rfl) ?_
          refine va_get (ci := 9) (v := .int (rdI σ3 9)) (C := RX9) (T := TX9) (N := 38) hx hb hts hinX9 hown hK hP 0 (wR_0 cy ad σ3) rfl 28 (by decide) (hts (.fieldLink RX9 170 "TaleBansModel" "readings" "I") (List.mem_of_getElem? (i := 1) rfl)) (fun x h => h) rfl dX9_reading_65 ?_
          refine lv_iload_n hx hb dX9_reading_68 rfl (lv_at hl 3 rfl) ?_
          obtain ⟨hi, hv⟩ := hv
          refine va_iast hx hb hK hP hD hS 22 0 (wR_22 cy ad σ3) rfl hi dX9_reading_69 (fun H locs hP hD hS => ?_)
          obtain ⟨σ5, e6⟩ : ∃ y : S_, y = wr2 σ3 22 (Int32.toNatClampNeg (rdI σ3 9)) season_ := ⟨_, rfl⟩
          have hP : va_P D vwCl (wR cy ad σ5) H := by rw [e6]; exact hP
          have hD : va_D A (wR cy ad σ5) := by rw [e6]; exact hD
          have hv := hv σ5 e6
          refine lv_aload_n hx hb dX9_reading_70 rfl (lv_at hl 0 rfl) ?_
          refine va_get (ci := 9) (v := .ref (ad (23))) (C := RX9) (T := TX9) (N := 38) hx hb hts hinX9 hown hK hP 0 (wR_0 cy ad σ5) rfl 32 (by decide) (hts (.fieldLink RX9 77 "TaleBansModel" "readingDid" "[Z") (List.mem_of_getElem? (i := 5) rfl)) (fun x h => h) rfl dX9_reading_71 ?_
          refine lv_aload_n hx hb dX9_reading_74 rfl (lv_at hl 0 rfl) ?_
          refine va_get (ci := 9) (v := .int (rdI σ5 9)) (C := RX9) (T := TX9) (N := 38) hx hb hts hinX9 hown hK hP 0 (wR_0 cy ad σ5) rfl 28 (by decide) (hts (.fieldLink RX9 170 "TaleBansModel" "readings" "I") (List.mem_of_getElem? (i := 1) rfl)) (fun x h => h) rfl dX9_reading_75 ?_
          refine lv_iload hx hb dX9_reading_78 (lv_at hl 4 rfl) ?_
          obtain ⟨hi, hv⟩ := hv
          refine va_zast hx hb hK hP hD hS 23 1 (wR_23 cy ad σ5) rfl hi dX9_reading_80 (fun H locs hP hD hS => ?_)
          obtain ⟨σ7, e8⟩ : ∃ y : S_, y = wr2 σ5 23 (Int32.toNatClampNeg (rdI σ5 9)) (vp_nar .boolean did_) := ⟨_, rfl⟩
          have hP : va_P D vwCl (wR cy ad σ7) H := by rw [e8]; exact hP
          have hD : va_D A (wR cy ad σ7) := by rw [e8]; exact hD
          have hv := hv σ7 e8
          refine lv_aload_n hx hb dX9_reading_81 rfl (lv_at hl 0 rfl) ?_
          refine lv_dup hx hb dX9_reading_82 rfl ?_
          refine va_get (ci := 9) (v := .int (rdI σ7 9)) (C := RX9) (T := TX9) (N := 38) hx hb hts hinX9 hown hK hP 0 (wR_0 cy ad σ7) rfl 28 (by decide) (hts (.fieldLink RX9 170 "TaleBansModel" "readings" "I") (List.mem_of_getElem? (i := 1) rfl)) (fun x h => h) rfl dX9_reading_83 ?_
          refine lv_iconst (v := 1) hx hb dX9_reading_86 (by decide) ?_
          refine lv_iadd hx hb dX9_reading_87 ?_
          refine va_put (ci := 9) (v := .int ((rdI σ7 9) + 1)) (ty := .int) (C := RX9) (T := TX9) (N := 38) hx hb hts hinX9 tyX9 tyX9_ok nmX9 hown hK hP hD hS 0 (wR_0 cy ad σ7) rfl 28 (by decide) (hts (.fieldLink RX9 170 "TaleBansModel" "readings" "I") (List.mem_of_getElem? (i := 1) rfl)) (fun x h => h) rfl (by decide +kernel) rfl rfl (Nat.le_of_ble_eq_true rfl) dX9_reading_88 (fun H locs hP hD hS => ?_)
          obtain ⟨σ9, e10⟩ : ∃ y : S_, y = wrI σ7 9 ((rdI σ7 9) + 1) := ⟨_, rfl⟩
          have hP : va_P D vwCl (wR cy ad σ9) H := by rw [e10]; exact hP
          have hD : va_D A (wR cy ad σ9) := by rw [e10]; exact hD
          have hv := hv σ9 e10
          refine lv_aload_n hx hb dX9_reading_91 rfl (lv_at hl 0 rfl) ?_
          refine va_get (ci := 9) (v := .int (rdI σ9 9)) (C := RX9) (T := TX9) (N := 38) hx hb hts hinX9 hown hK hP 0 (wR_0 cy ad σ9) rfl 28 (by decide) (hts (.fieldLink RX9 170 "TaleBansModel" "readings" "I") (List.mem_of_getElem? (i := 1) rfl)) (fun x h => h) rfl dX9_reading_92 ?_
          refine lv_iconst (v := 1) hx hb dX9_reading_95 (by decide) ?_
          refine lv_isub hx hb dX9_reading_96 ?_
          rw [hZ]; rw [hQ] at hv
          exact W.iret (v := ((rdI σ9 9) - 1)) hx hb hr (fun t ht hW => ⟨⟨((rdI σ9 9) - 1), σ9, rfl, hv, ⟨P_of ht hP, hD⟩⟩, hS.F ht⟩) hS.2.2 dX9_reading_97
        · have hv := hv.2 c11
          refine lv_bipush (v := (-4)) hx hb dX9_reading_37 (by decide) ?_
          rw [hZ]; rw [hQ] at hv
          exact W.iret (v := (-4)) hx hb hr (fun t ht hW => ⟨⟨(-4), σ0, rfl, hv, ⟨P_of ht hP, hD⟩⟩, hS.F ht⟩) hS.2.2 dX9_reading_39
      · have hv := hv.2 c12
        refine lv_bipush (v := (-2)) hx hb dX9_reading_25 (by decide) ?_
        rw [hZ]; rw [hQ] at hv
        exact W.iret (v := (-2)) hx hb hr (fun t ht hW => ⟨⟨(-2), σ0, rfl, hv, ⟨P_of ht hP, hD⟩⟩, hS.F ht⟩) hS.2.2 dX9_reading_27
    · have hv := hv.2 c13
      refine lv_iconst (v := (-1)) hx hb dX9_reading_16 (by decide) ?_
      rw [hZ]; rw [hQ] at hv
      exact W.iret (v := (-1)) hx hb hr (fun t ht hW => ⟨⟨(-1), σ0, rfl, hv, ⟨P_of ht hP, hD⟩⟩, hS.F ht⟩) hS.2.2 dX9_reading_17
set_option maxHeartbeats 4000000 in
set_option maxRecDepth 100000 in
theorem wk_X9_back (l : Launch) (h_X9_in : Ct_X9_in l) (sp : ∀ (k_ : Int32) (ag : AS) (σ0 : S_), pre_X9_back k_ ag σ0 → vc_X9_back k_ σ0 (post_X9_back k_ ag σ0)) : Ct_X9_back l := by
  intro D cy ad A k_ ag σ0  hpre
  refine Met.ofW (cc := cX9_back) (maxL := 2) (ret := (some .int)) (by decide) rfl ?_
  intro p e s m args below meth c s₁ B hml hv0
  obtain ⟨rfl, hP, hK, hD, hN⟩ := hv0
  have hx := B.exec
  have hb := B.bytes
  have hr := B.returns
  have hts := atoms_spec (ws := wsX9_back) B.pre
  have hown : s.vm.findClass RX9 = some m.cls := findClass_of_methodNamed B.named
  have hlocks := B.notSynchronized
  have hv := sp k_ ag σ0 hpre
  have hl := lv_entry ([.ref (ad 0), .int k_]) (n := 2) (Nat.le_of_ble_eq_true rfl)
  rw [lg_entry_eq]
  generalize (lg_sl ([.ref (ad 0), .int k_]) ++ List.replicate (2 - (lg_sl ([.ref (ad 0), .int k_])).length) Slot.unset).toArray = ls at hl ⊢
  have hl : lv_has ls 2 [(0, .ref (ad 0)), (1, .int k_)] := hl
  refine W_gen (fun R Z H locs hR hZ hH hlo => ?_)
  have hRf : R.frames = 1 := by rw [hR]; rfl
  have hRl : R.locals = 25 := by rw [hR]; rfl
  have hRc : R.cells = 0 := by rw [hR]; rfl
  have hRs : R.slots = 0 := by rw [hR]; rfl
  have hS : va_S A s.heap H locs := by rw [hH, hlo]; exact va_S.rf
  rw [← hH] at hP
  obtain ⟨Q, hQ⟩ : ∃ q : Int32 → S_ → Prop, q = (post_X9_back k_ ag σ0) := ⟨_, rfl⟩
  rw [← hQ] at hv
  have hinX9 : ∀ w ∈ wsX90, w ∈ wsX9_back := by decide +kernel
  refine lv_iload_n hx hb dX9_back_0 rfl (lv_at hl 1 rfl) ?_
  refine lv_i2l hx hb dX9_back_1 rfl ?_
  refine lv_lconst (v := 0) hx hb dX9_back_2 rfl ?_
  refine lv_aload_n hx hb dX9_back_3 rfl (lv_at hl 0 rfl) ?_
  refine va_get (ci := 9) (v := .int (rdI σ0 9)) (C := RX9) (T := TX9) (N := 38) hx hb hts hinX9 hown hK hP 0 (wR_0 cy ad σ0) rfl 28 (by decide) (hts (.fieldLink RX9 170 "TaleBansModel" "readings" "I") (List.mem_of_getElem? (i := 1) rfl)) (fun x h => h) rfl dX9_back_4 ?_
  refine lv_i2l hx hb dX9_back_7 rfl ?_
  refine k_pure_i (va_runS (As := [.long (Int32.toInt64 k_), .long 0, .long (Int32.toInt64 (rdI σ0 9))]) (rest := []) ⟨hx, hb, hml, hown, hts⟩ (h_X9_in (Int32.toInt64 k_) 0 (Int32.toInt64 (rdI σ0 9))) (va_cwS 3 hts gX9_back_X9_in rfl rfl rfl (by decide +kernel) ⟨le_R hRf (Nat.le_of_ble_eq_true rfl), le_R hRl (Nat.le_of_ble_eq_true rfl)⟩) ⟨(fun a U g mk q => ⟨q.1, trivial⟩), (fun U hU hW => ⟨rfl, trivial⟩)⟩ rfl rfl hl.1 rfl (lv_room (Nat.le_of_ble_eq_true rfl)) dX9_back_8 ⟨le_R hRc (Nat.le_refl 0), le_R hRs (Nat.le_refl 0)⟩) hS hP (fun r H locs hr1 hP hS => ?_)
  subst hr1
  refine lv_if_ne (tgt := 17) hx hb dX9_back_11 (by decide) (fun c3 => ?_) (fun c3 => ?_)
  · have hv := hv.1 c3
    refine lv_aload_n hx hb dX9_back_17 rfl (lv_at hl 0 rfl) ?_
    refine lv_dup hx hb dX9_back_18 rfl ?_
    refine va_get (ci := 9) (v := .int (rdI σ0 9)) (C := RX9) (T := TX9) (N := 38) hx hb hts hinX9 hown hK hP 0 (wR_0 cy ad σ0) rfl 28 (by decide) (hts (.fieldLink RX9 170 "TaleBansModel" "readings" "I") (List.mem_of_getElem? (i := 1) rfl)) (fun x h => h) rfl dX9_back_19 ?_
    refine lv_iload_n hx hb dX9_back_22 rfl (lv_at hl 1 rfl) ?_
    refine lv_isub hx hb dX9_back_23 ?_
    refine va_put (ci := 9) (v := .int ((rdI σ0 9) - k_)) (ty := .int) (C := RX9) (T := TX9) (N := 38) hx hb hts hinX9 tyX9 tyX9_ok nmX9 hown hK hP hD hS 0 (wR_0 cy ad σ0) rfl 28 (by decide) (hts (.fieldLink RX9 170 "TaleBansModel" "readings" "I") (List.mem_of_getElem? (i := 1) rfl)) (fun x h => h) rfl (by decide +kernel) rfl rfl (Nat.le_of_ble_eq_true rfl) dX9_back_24 (fun H locs hP hD hS => ?_)
    obtain ⟨σ1, e2⟩ : ∃ y : S_, y = wrI σ0 9 ((rdI σ0 9) - k_) := ⟨_, rfl⟩
    have hP : va_P D vwCl (wR cy ad σ1) H := by rw [e2]; exact hP
    have hD : va_D A (wR cy ad σ1) := by rw [e2]; exact hD
    have hv := hv σ1 e2
    refine lv_aload_n hx hb dX9_back_27 rfl (lv_at hl 0 rfl) ?_
    refine va_get (ci := 9) (v := .int (rdI σ1 9)) (C := RX9) (T := TX9) (N := 38) hx hb hts hinX9 hown hK hP 0 (wR_0 cy ad σ1) rfl 28 (by decide) (hts (.fieldLink RX9 170 "TaleBansModel" "readings" "I") (List.mem_of_getElem? (i := 1) rfl)) (fun x h => h) rfl dX9_back_28 ?_
    rw [hZ]; rw [hQ] at hv
    exact W.iret (v := (rdI σ1 9)) hx hb hr (fun t ht hW => ⟨⟨(rdI σ1 9), σ1, rfl, hv, ⟨P_of ht hP, hD⟩⟩, hS.F ht⟩) hS.2.2 dX9_back_31
  · have hv := hv.2 c3
    refine lv_bipush (v := (-2)) hx hb dX9_back_14 (by decide) ?_
    rw [hZ]; rw [hQ] at hv
    exact W.iret (v := (-2)) hx hb hr (fun t ht hW => ⟨⟨(-2), σ0, rfl, hv, ⟨P_of ht hP, hD⟩⟩, hS.F ht⟩) hS.2.2 dX9_back_16
set_option maxHeartbeats 4000000 in
set_option maxRecDepth 100000 in
theorem wk_X9_comes (l : Launch) (h_X9_areSo : Ct_X9_areSo l) (h_X9_noTale : Ct_X9_noTale l) (sp : ∀ (t_ : Int32) (ag : AS) (σ0 : S_), pre_X9_comes t_ ag σ0 → vc_X9_comes t_ σ0 (post_X9_comes t_ ag σ0)) : Ct_X9_comes l := by
  intro D cy ad A t_ ag σ0  hpre
  refine Met.ofW (cc := cX9_comes) (maxL := 5) (ret := (some .int)) (by decide) rfl ?_
  intro p e s m args below meth c s₁ B hml hv0
  obtain ⟨rfl, hP, hK, hD, hN⟩ := hv0
  have hx := B.exec
  have hb := B.bytes
  have hr := B.returns
  have hts := atoms_spec (ws := wsX9_comes) B.pre
  have hown : s.vm.findClass RX9 = some m.cls := findClass_of_methodNamed B.named
  have hlocks := B.notSynchronized
  have hv := sp t_ ag σ0 hpre
  have hl := lv_entry ([.ref (ad 0), .int t_]) (n := 5) (Nat.le_of_ble_eq_true rfl)
  rw [lg_entry_eq]
  generalize (lg_sl ([.ref (ad 0), .int t_]) ++ List.replicate (5 - (lg_sl ([.ref (ad 0), .int t_])).length) Slot.unset).toArray = ls at hl ⊢
  have hl : lv_has ls 5 [(0, .ref (ad 0)), (1, .int t_)] := hl
  refine W_gen (fun R Z H locs hR hZ hH hlo => ?_)
  have hRf : R.frames = 6 := by rw [hR]; rfl
  have hRl : R.locals = 140 := by rw [hR]; rfl
  have hRc : R.cells = 0 := by rw [hR]; rfl
  have hRs : R.slots = 0 := by rw [hR]; rfl
  have hS : va_S A s.heap H locs := by rw [hH, hlo]; exact va_S.rf
  rw [← hH] at hP
  obtain ⟨Q, hQ⟩ : ∃ q : Int32 → S_ → Prop, q = (post_X9_comes t_ ag σ0) := ⟨_, rfl⟩
  rw [← hQ] at hv
  have hinX9 : ∀ w ∈ wsX90, w ∈ wsX9_comes := by decide +kernel
  refine lv_aload_n hx hb dX9_comes_0 rfl (lv_at hl 0 rfl) ?_
  refine lv_iload_n hx hb dX9_comes_1 rfl (lv_at hl 1 rfl) ?_
  have hp := True.intro
  refine k_read_i (w := wR cy ad) (va_runV (As := [.int t_]) (rest := []) ⟨hx, hb, hml, hown, hts⟩ (h_X9_noTale D cy ad A t_ σ0 hp) (cwV 1 hts gX9_comes_X9_noTale rfl rfl rfl (by decide +kernel) ⟨le_R hRf (Nat.le_of_ble_eq_true rfl), le_R hRl (Nat.le_of_ble_eq_true rfl)⟩) ⟨(fun a U g mk q => ⟨q.1, q.2.blind⟩), va_recv hK hP (ci := 9) (q0 := 0) rfl (wR_0 cy ad σ0), (fun U hU hW => ⟨rfl, WdR.pre hP hK hD hN hU hW⟩)⟩ rfl rfl hl.1 rfl (lv_room (Nat.le_of_ble_eq_true rfl)) dX9_comes_2 ⟨le_R hRc (Nat.le_refl 0), le_R hRs (Nat.le_refl 0)⟩) hS (fun r H locs hr1 hP hS => ?_)
  subst hr1
  refine lv_if_eq (tgt := 10) hx hb dX9_comes_5 (by decide) (fun c16 => ?_) (fun c16 => ?_)
  · have hv := hv.1 c16
    refine lv_aload_n hx hb dX9_comes_10 rfl (lv_at hl 0 rfl) ?_
    refine va_get (ci := 9) (v := .ref (ad (8))) (C := RX9) (T := TX9) (N := 38) hx hb hts hinX9 hown hK hP 0 (wR_0 cy ad σ0) rfl 14 (by decide) (hts (.fieldLink RX9 31 "TaleBansModel" "taleTo" "[I") (List.mem_of_getElem? (i := 1) rfl)) (fun x h => h) rfl dX9_comes_11 ?_
    refine lv_iload_n hx hb dX9_comes_14 rfl (lv_at hl 1 rfl) ?_
    obtain ⟨hi, hv⟩ := hv
    refine va_iald hx hb hK hP 8 0 (wR_8 cy ad σ0) rfl hi dX9_comes_15 ?_
    refine lv_istore_n (lv' := [(2, .int (rdA σ0 8 (Int32.toNatClampNeg t_))), (0, .ref (ad 0)), (1, .int t_)]) hx hb dX9_comes_16 rfl hl (by decide) rfl (fun ls hl => ?_)
    refine lv_iconst (v := 0) hx hb dX9_comes_17 (by decide) ?_
    refine lv_istore_n (lv' := [(3, .int 0), (2, .int (rdA σ0 8 (Int32.toNatClampNeg t_))), (0, .ref (ad 0)), (1, .int t_)]) hx hb dX9_comes_18 rfl hl (by decide) rfl (fun ls hl => ?_)
    refine lv_iconst (v := 0) hx hb dX9_comes_19 (by decide) ?_
    refine lv_istore (lv' := [(4, .int 0), (3, .int 0), (2, .int (rdA σ0 8 (Int32.toNatClampNeg t_))), (0, .ref (ad 0)), (1, .int t_)]) hx hb dX9_comes_20 hl (by decide) rfl (fun ls hl => ?_)
    obtain ⟨n22, hv⟩ := hv
    have lp22 : ∀ (nn22 : Nat) (x1 : Int32) (x2 : Int32) (σ3 : S_) (H : Heap) (locs : List Loc) (ls : Array Slot), vl_X9_comes_22 t_ σ0 Q nn22 x1 x2 σ3 → va_P D vwCl (wR cy ad σ3) H → va_D A (wR cy ad σ3) → va_S A s.heap H locs → lv_has ls 5 [(0, .ref (ad 0)), (1, .int t_), (2, .int (rdA σ0 8 (Int32.toNatClampNeg t_))), (3, .int x1), (4, .int x2)] → W p l e R s m ([.ref (ad 0), .int t_] : List Value).toArray  below meth c H locs 0 0 Z (F0 m 22 ls []) := by
      intro nn22
      induction nn22 with
      | zero => intro x1 x2 σ3 H locs ls hv; exact absurd hv id
      | succ mm22 ih22 =>
        intro x1 x2 σ3 H locs ls hv hP hD hS hl
        refine lv_iload hx hb dX9_comes_22 (lv_at hl 4 rfl) ?_
        refine lv_aload_n hx hb dX9_comes_24 rfl (lv_at hl 0 rfl) ?_
        refine va_get (ci := 9) (v := .int (rdI σ3 1)) (C := RX9) (T := TX9) (N := 38) hx hb hts hinX9 hown hK hP 0 (wR_0 cy ad σ3) rfl 1 (by decide) (hts (.fieldLink RX9 102 "TaleBansModel" "persons" "I") (List.mem_of_getElem? (i := 2) rfl)) (fun x h => h) rfl dX9_comes_25 ?_
        refine lv_icmp_ge (tgt := 63) hx hb dX9_comes_28 (by decide) (fun c15 => ?_) (fun c15 => ?_)
        · have hv := hv.1 c15
          refine lv_aload_n hx hb dX9_comes_63 rfl (lv_at hl 0 rfl) ?_
          refine va_get (ci := 9) (v := .ref (ad (8))) (C := RX9) (T := TX9) (N := 38) hx hb hts hinX9 hown hK hP 0 (wR_0 cy ad σ3) rfl 14 (by decide) (hts (.fieldLink RX9 31 "TaleBansModel" "taleTo" "[I") (List.mem_of_getElem? (i := 1) rfl)) (fun x h => h) rfl dX9_comes_64 ?_
          refine lv_iload_n hx hb dX9_comes_67 rfl (lv_at hl 1 rfl) ?_
          refine lv_iload_n hx hb dX9_comes_68 rfl (lv_at hl 2 rfl) ?_
          obtain ⟨hi, hv⟩ := hv
          refine va_iast hx hb hK hP hD hS 8 0 (wR_8 cy ad σ3) rfl hi dX9_comes_69 (fun H locs hP hD hS => ?_)
          obtain ⟨σ4, e5⟩ : ∃ y : S_, y = wr2 σ3 8 (Int32.toNatClampNeg t_) (rdA σ0 8 (Int32.toNatClampNeg t_)) := ⟨_, rfl⟩
          have hP : va_P D vwCl (wR cy ad σ4) H := by rw [e5]; exact hP
          have hD : va_D A (wR cy ad σ4) := by rw [e5]; exact hD
          have hv := hv σ4 e5
          refine lv_iload_n hx hb dX9_comes_70 rfl (lv_at hl 3 rfl) ?_
          rw [hZ]; rw [hQ] at hv
          exact W.iret (v := x1) hx hb hr (fun t ht hW => ⟨⟨x1, σ4, rfl, hv, ⟨P_of ht hP, hD⟩⟩, hS.F ht⟩) hS.2.2 dX9_comes_71
        · have hv := hv.2 c15
          refine lv_aload_n hx hb dX9_comes_31 rfl (lv_at hl 0 rfl) ?_
          refine va_get (ci := 9) (v := .ref (ad (8))) (C := RX9) (T := TX9) (N := 38) hx hb hts hinX9 hown hK hP 0 (wR_0 cy ad σ3) rfl 14 (by decide) (hts (.fieldLink RX9 31 "TaleBansModel" "taleTo" "[I") (List.mem_of_getElem? (i := 1) rfl)) (fun x h => h) rfl dX9_comes_32 ?_
          refine lv_iload_n hx hb dX9_comes_35 rfl (lv_at hl 1 rfl) ?_
          refine lv_iload hx hb dX9_comes_36 (lv_at hl 4 rfl) ?_
          obtain ⟨hi, hv⟩ := hv
          refine va_iast hx hb hK hP hD hS 8 0 (wR_8 cy ad σ3) rfl hi dX9_comes_38 (fun H locs hP hD hS => ?_)
          obtain ⟨σ6, e7⟩ : ∃ y : S_, y = wr2 σ3 8 (Int32.toNatClampNeg t_) x2 := ⟨_, rfl⟩
          have hP : va_P D vwCl (wR cy ad σ6) H := by rw [e7]; exact hP
          have hD : va_D A (wR cy ad σ6) := by rw [e7]; exact hD
          have hv := hv σ6 e7
          refine lv_iload_n hx hb dX9_comes_39 rfl (lv_at hl 3 rfl) ?_
          refine lv_aload_n hx hb dX9_comes_40 rfl (lv_at hl 0 rfl) ?_
          obtain ⟨g8, hv⟩ := hv
          obtain ⟨hp, hv⟩ := hv
          refine k_rel_i (w := wR cy ad) (va_runV (As := []) (rest := [.int x1]) ⟨hx, hb, hml, hown, hts⟩ (h_X9_areSo D cy ad A g8 σ6 hp) (cwV 0 hts gX9_comes_X9_areSo rfl rfl rfl (by decide +kernel) ⟨le_R hRf (Nat.le_of_ble_eq_true rfl), le_R hRl (Nat.le_of_ble_eq_true rfl)⟩) ⟨(fun a U g mk q => ⟨q.1, q.2.blind⟩), va_recv hK hP (ci := 9) (q0 := 0) rfl (wR_0 cy ad σ6), (fun U hU hW => ⟨rfl, WdR.pre hP hK hD hN hU hW⟩)⟩ rfl rfl hl.1 rfl (lv_room (Nat.le_of_ble_eq_true rfl)) dX9_comes_41 ⟨le_R hRc (Nat.le_refl 0), le_R hRs (Nat.le_refl 0)⟩) hS (fun r10 σ9 H locs hr1 hP hD hS => ?_)
          have hv := hv r10 σ9 hr1
          obtain ⟨P11, hv, hvr⟩ := hv
          have jn12 : ∀ (b13 : Int32) (H : Heap) (locs : List Loc) (ls : Array Slot), P11 b13 → va_P D vwCl (wR cy ad σ9) H → va_S A s.heap H locs → lv_has ls 5 [(0, .ref (ad 0)), (1, .int t_), (2, .int (rdA σ0 8 (Int32.toNatClampNeg t_))), (3, .int x1), (4, .int x2)] → W p l e R s m ([.ref (ad 0), .int t_] : List Value).toArray below meth c H locs 0 0 Z (F0 m 55 ls [.int b13, .int x1]) := by
            intro b13 H locs ls hv hP hS hl
            have hv := hvr b13 hv
            refine lv_ior hx hb dX9_comes_55 ?_
            refine lv_istore_n (lv' := [(3, .int (x1 ||| b13)), (0, .ref (ad 0)), (1, .int t_), (2, .int (rdA σ0 8 (Int32.toNatClampNeg t_))), (4, .int x2)]) hx hb dX9_comes_56 rfl hl (by decide) rfl (fun ls hl => ?_)
            refine lv_iinc (v := (x2 + 1)) (lv' := [(4, .int (x2 + 1)), (3, .int (x1 ||| b13)), (0, .ref (ad 0)), (1, .int t_), (2, .int (rdA σ0 8 (Int32.toNatClampNeg t_)))]) hx hb dX9_comes_57 hl (k := 4) rfl rfl (by decide) rfl (fun ls hl => ?_)
            refine lv_goto (tgt := 22) hx hb dX9_comes_60 (by decide) ?_
            exact ih22 (x1 ||| b13) (x2 + 1) σ9 _ _ _ hv hP hD hS (lv_sub hl [2, 3, 4, 1, 0] rfl)
          refine lv_if_eq (tgt := 54) hx hb dX9_comes_44 (by decide) (fun c14 => ?_) (fun c14 => ?_)
          · have hv := hv.1 c14
            refine lv_iconst (v := 0) hx hb dX9_comes_54 (by decide) ?_
            exact jn12 0 _ _ _ hv hP hS hl
          · have hv := hv.2 c14
            refine lv_iconst (v := 1) hx hb dX9_comes_47 (by decide) ?_
            refine lv_iload hx hb dX9_comes_48 (lv_at hl 4 rfl) ?_
            refine lv_ishl hx hb dX9_comes_50 ?_
            refine lv_goto (tgt := 55) hx hb dX9_comes_51 (by decide) ?_
            exact jn12 (1 <<< (x2 &&& 31)) _ _ _ hv hP hS hl
    exact lp22 n22 0 0 σ0 _ _ _ hv hP hD hS (lv_sub hl [3, 4, 2, 1, 0] rfl)
  · have hv := hv.2 c16
    refine lv_iconst (v := (-1)) hx hb dX9_comes_8 (by decide) ?_
    rw [hZ]; rw [hQ] at hv
    exact W.iret (v := (-1)) hx hb hr (fun t ht hW => ⟨⟨(-1), σ0, rfl, hv, ⟨P_of ht hP, hD⟩⟩, hS.F ht⟩) hS.2.2 dX9_comes_9
set_option maxHeartbeats 4000000 in
set_option maxRecDepth 100000 in
theorem wk_X9_paid (l : Launch) (h_X9_areSo : Ct_X9_areSo l) (sp : ∀ (ag : AS) (σ0 : S_), pre_X9_paid ag σ0 → vc_X9_paid σ0 (post_X9_paid ag σ0)) : Ct_X9_paid l := by
  intro D cy ad A  ag σ0  hpre
  refine Met.ofW (cc := cX9_paid) (maxL := 4) (ret := (some .int)) (by decide) rfl ?_
  intro p e s m args below meth c s₁ B hml hv0
  obtain ⟨rfl, hP, hK, hD, hN⟩ := hv0
  have hx := B.exec
  have hb := B.bytes
  have hr := B.returns
  have hts := atoms_spec (ws := wsX9_paid) B.pre
  have hown : s.vm.findClass RX9 = some m.cls := findClass_of_methodNamed B.named
  have hlocks := B.notSynchronized
  have hv := sp  ag σ0 hpre
  have hl := lv_entry ([.ref (ad 0)]) (n := 4) (Nat.le_of_ble_eq_true rfl)
  rw [lg_entry_eq]
  generalize (lg_sl ([.ref (ad 0)]) ++ List.replicate (4 - (lg_sl ([.ref (ad 0)])).length) Slot.unset).toArray = ls at hl ⊢
  have hl : lv_has ls 4 [(0, .ref (ad 0))] := hl
  refine W_gen (fun R Z H locs hR hZ hH hlo => ?_)
  have hRf : R.frames = 6 := by rw [hR]; rfl
  have hRl : R.locals = 140 := by rw [hR]; rfl
  have hRc : R.cells = 0 := by rw [hR]; rfl
  have hRs : R.slots = 0 := by rw [hR]; rfl
  have hS : va_S A s.heap H locs := by rw [hH, hlo]; exact va_S.rf
  rw [← hH] at hP
  obtain ⟨Q, hQ⟩ : ∃ q : Int32 → S_ → Prop, q = (post_X9_paid  ag σ0) := ⟨_, rfl⟩
  rw [← hQ] at hv
  have hinX9 : ∀ w ∈ wsX90, w ∈ wsX9_paid := by decide +kernel
  refine lv_aload_n hx hb dX9_paid_0 rfl (lv_at hl 0 rfl) ?_
  refine va_get (ci := 9) (v := .int (rdI σ0 1)) (C := RX9) (T := TX9) (N := 38) hx hb hts hinX9 hown hK hP 0 (wR_0 cy ad σ0) rfl 1 (by decide) (hts (.fieldLink RX9 102 "TaleBansModel" "persons" "I") (List.mem_of_getElem? (i := 1) rfl)) (fun x h => h) rfl dX9_paid_1 ?_
  refine lv_if_ne (tgt := 10) hx hb dX9_paid_4 (by decide) (fun c16 => ?_) (fun c16 => ?_)
  · have hv := hv.1 c16
    refine lv_aload_n hx hb dX9_paid_10 rfl (lv_at hl 0 rfl) ?_
    refine va_get (ci := 9) (v := .int (rdI σ0 2)) (C := RX9) (T := TX9) (N := 38) hx hb hts hinX9 hown hK hP 0 (wR_0 cy ad σ0) rfl 5 (by decide) (hts (.fieldLink RX9 158 "TaleBansModel" "paidNow" "I") (List.mem_of_getElem? (i := 2) rfl)) (fun x h => h) rfl dX9_paid_11 ?_
    refine lv_istore_n (lv' := [(1, .int (rdI σ0 2)), (0, .ref (ad 0))]) hx hb dX9_paid_14 rfl hl (by decide) rfl (fun ls hl => ?_)
    refine lv_iconst (v := 0) hx hb dX9_paid_15 (by decide) ?_
    refine lv_istore_n (lv' := [(2, .int 0), (1, .int (rdI σ0 2)), (0, .ref (ad 0))]) hx hb dX9_paid_16 rfl hl (by decide) rfl (fun ls hl => ?_)
    refine lv_iconst (v := 0) hx hb dX9_paid_17 (by decide) ?_
    refine lv_istore_n (lv' := [(3, .int 0), (2, .int 0), (1, .int (rdI σ0 2)), (0, .ref (ad 0))]) hx hb dX9_paid_18 rfl hl (by decide) rfl (fun ls hl => ?_)
    obtain ⟨n19, hv⟩ := hv
    have lp19 : ∀ (nn19 : Nat) (x1 : Int32) (x2 : Int32) (σ3 : S_) (H : Heap) (locs : List Loc) (ls : Array Slot), vl_X9_paid_19 σ0 Q nn19 x1 x2 σ3 → va_P D vwCl (wR cy ad σ3) H → va_D A (wR cy ad σ3) → va_S A s.heap H locs → lv_has ls 4 [(0, .ref (ad 0)), (1, .int (rdI σ0 2)), (2, .int x1), (3, .int x2)] → W p l e R s m ([.ref (ad 0)] : List Value).toArray  below meth c H locs 0 0 Z (F0 m 19 ls []) := by
      intro nn19
      induction nn19 with
      | zero => intro x1 x2 σ3 H locs ls hv; exact absurd hv id
      | succ mm19 ih19 =>
        intro x1 x2 σ3 H locs ls hv hP hD hS hl
        refine lv_iload_n hx hb dX9_paid_19 rfl (lv_at hl 3 rfl) ?_
        refine lv_aload_n hx hb dX9_paid_20 rfl (lv_at hl 0 rfl) ?_
        refine va_get (ci := 9) (v := .int (rdI σ3 1)) (C := RX9) (T := TX9) (N := 38) hx hb hts hinX9 hown hK hP 0 (wR_0 cy ad σ3) rfl 1 (by decide) (hts (.fieldLink RX9 102 "TaleBansModel" "persons" "I") (List.mem_of_getElem? (i := 1) rfl)) (fun x h => h) rfl dX9_paid_21 ?_
        refine lv_icmp_ge (tgt := 59) hx hb dX9_paid_24 (by decide) (fun c15 => ?_) (fun c15 => ?_)
        · have hv := hv.1 c15
          refine lv_aload_n hx hb dX9_paid_59 rfl (lv_at hl 0 rfl) ?_
          refine lv_iload_n hx hb dX9_paid_60 rfl (lv_at hl 1 rfl) ?_
          refine va_put (ci := 9) (v := .int (rdI σ0 2)) (ty := .int) (C := RX9) (T := TX9) (N := 38) hx hb hts hinX9 tyX9 tyX9_ok nmX9 hown hK hP hD hS 0 (wR_0 cy ad σ3) rfl 5 (by decide) (hts (.fieldLink RX9 158 "TaleBansModel" "paidNow" "I") (List.mem_of_getElem? (i := 2) rfl)) (fun x h => h) rfl (by decide +kernel) rfl rfl (Nat.le_of_ble_eq_true rfl) dX9_paid_61 (fun H locs hP hD hS => ?_)
          obtain ⟨σ4, e5⟩ : ∃ y : S_, y = wrI σ3 2 (rdI σ0 2) := ⟨_, rfl⟩
          have hP : va_P D vwCl (wR cy ad σ4) H := by rw [e5]; exact hP
          have hD : va_D A (wR cy ad σ4) := by rw [e5]; exact hD
          have hv := hv σ4 e5
          refine lv_iload_n hx hb dX9_paid_64 rfl (lv_at hl 2 rfl) ?_
          rw [hZ]; rw [hQ] at hv
          exact W.iret (v := x1) hx hb hr (fun t ht hW => ⟨⟨x1, σ4, rfl, hv, ⟨P_of ht hP, hD⟩⟩, hS.F ht⟩) hS.2.2 dX9_paid_65
        · have hv := hv.2 c15
          refine lv_aload_n hx hb dX9_paid_27 rfl (lv_at hl 0 rfl) ?_
          refine lv_iload_n hx hb dX9_paid_28 rfl (lv_at hl 1 rfl) ?_
          refine lv_iconst (v := 1) hx hb dX9_paid_29 (by decide) ?_
          refine lv_iload_n hx hb dX9_paid_30 rfl (lv_at hl 3 rfl) ?_
          refine lv_ishl hx hb dX9_paid_31 ?_
          refine lv_ior hx hb dX9_paid_32 ?_
          refine va_put (ci := 9) (v := .int ((rdI σ0 2) ||| (1 <<< (x2 &&& 31)))) (ty := .int) (C := RX9) (T := TX9) (N := 38) hx hb hts hinX9 tyX9 tyX9_ok nmX9 hown hK hP hD hS 0 (wR_0 cy ad σ3) rfl 5 (by decide) (hts (.fieldLink RX9 158 "TaleBansModel" "paidNow" "I") (List.mem_of_getElem? (i := 2) rfl)) (fun x h => h) rfl (by decide +kernel) rfl rfl (Nat.le_of_ble_eq_true rfl) dX9_paid_33 (fun H locs hP hD hS => ?_)
          obtain ⟨σ6, e7⟩ : ∃ y : S_, y = wrI σ3 2 ((rdI σ0 2) ||| (1 <<< (x2 &&& 31))) := ⟨_, rfl⟩
          have hP : va_P D vwCl (wR cy ad σ6) H := by rw [e7]; exact hP
          have hD : va_D A (wR cy ad σ6) := by rw [e7]; exact hD
          have hv := hv σ6 e7
          refine lv_iload_n hx hb dX9_paid_36 rfl (lv_at hl 2 rfl) ?_
          refine lv_aload_n hx hb dX9_paid_37 rfl (lv_at hl 0 rfl) ?_
          obtain ⟨g8, hv⟩ := hv
          obtain ⟨hp, hv⟩ := hv
          refine k_rel_i (w := wR cy ad) (va_runV (As := []) (rest := [.int x1]) ⟨hx, hb, hml, hown, hts⟩ (h_X9_areSo D cy ad A g8 σ6 hp) (cwV 0 hts gX9_paid_X9_areSo rfl rfl rfl (by decide +kernel) ⟨le_R hRf (Nat.le_of_ble_eq_true rfl), le_R hRl (Nat.le_of_ble_eq_true rfl)⟩) ⟨(fun a U g mk q => ⟨q.1, q.2.blind⟩), va_recv hK hP (ci := 9) (q0 := 0) rfl (wR_0 cy ad σ6), (fun U hU hW => ⟨rfl, WdR.pre hP hK hD hN hU hW⟩)⟩ rfl rfl hl.1 rfl (lv_room (Nat.le_of_ble_eq_true rfl)) dX9_paid_38 ⟨le_R hRc (Nat.le_refl 0), le_R hRs (Nat.le_refl 0)⟩) hS (fun r10 σ9 H locs hr1 hP hD hS => ?_)
          have hv := hv r10 σ9 hr1
          obtain ⟨P11, hv, hvr⟩ := hv
          have jn12 : ∀ (b13 : Int32) (H : Heap) (locs : List Loc) (ls : Array Slot), P11 b13 → va_P D vwCl (wR cy ad σ9) H → va_S A s.heap H locs → lv_has ls 4 [(0, .ref (ad 0)), (1, .int (rdI σ0 2)), (2, .int x1), (3, .int x2)] → W p l e R s m ([.ref (ad 0)] : List Value).toArray below meth c H locs 0 0 Z (F0 m 51 ls [.int b13, .int x1]) := by
            intro b13 H locs ls hv hP hS hl
            have hv := hvr b13 hv
            refine lv_ior hx hb dX9_paid_51 ?_
            refine lv_istore_n (lv' := [(2, .int (x1 ||| b13)), (0, .ref (ad 0)), (1, .int (rdI σ0 2)), (3, .int x2)]) hx hb dX9_paid_52 rfl hl (by decide) rfl (fun ls hl => ?_)
            refine lv_iinc (v := (x2 + 1)) (lv' := [(3, .int (x2 + 1)), (2, .int (x1 ||| b13)), (0, .ref (ad 0)), (1, .int (rdI σ0 2))]) hx hb dX9_paid_53 hl (k := 3) rfl rfl (by decide) rfl (fun ls hl => ?_)
            refine lv_goto (tgt := 19) hx hb dX9_paid_56 (by decide) ?_
            exact ih19 (x1 ||| b13) (x2 + 1) σ9 _ _ _ hv hP hD hS (lv_sub hl [2, 3, 1, 0] rfl)
          refine lv_if_eq (tgt := 50) hx hb dX9_paid_41 (by decide) (fun c14 => ?_) (fun c14 => ?_)
          · have hv := hv.1 c14
            refine lv_iconst (v := 0) hx hb dX9_paid_50 (by decide) ?_
            exact jn12 0 _ _ _ hv hP hS hl
          · have hv := hv.2 c14
            refine lv_iconst (v := 1) hx hb dX9_paid_44 (by decide) ?_
            refine lv_iload_n hx hb dX9_paid_45 rfl (lv_at hl 3 rfl) ?_
            refine lv_ishl hx hb dX9_paid_46 ?_
            refine lv_goto (tgt := 51) hx hb dX9_paid_47 (by decide) ?_
            exact jn12 (1 <<< (x2 &&& 31)) _ _ _ hv hP hS hl
    exact lp19 n19 0 0 σ0 _ _ _ hv hP hD hS (lv_sub hl [3, 2, 1, 0] rfl)
  · have hv := hv.2 c16
    refine lv_bipush (v := (-3)) hx hb dX9_paid_7 (by decide) ?_
    rw [hZ]; rw [hQ] at hv
    exact W.iret (v := (-3)) hx hb hr (fun t ht hW => ⟨⟨(-3), σ0, rfl, hv, ⟨P_of ht hP, hD⟩⟩, hS.F ht⟩) hS.2.2 dX9_paid_9
set_option maxHeartbeats 4000000 in
set_option maxRecDepth 100000 in
theorem wk_X9_laws (l : Launch) (h_X9_areSo : Ct_X9_areSo l) (sp : ∀ (ag : AS) (σ0 : S_), pre_X9_laws ag σ0 → vc_X9_laws σ0 (post_X9_laws ag σ0)) : Ct_X9_laws l := by
  intro D cy ad A  ag σ0  hpre
  refine Met.ofW (cc := cX9_laws) (maxL := 4) (ret := (some .int)) (by decide) rfl ?_
  intro p e s m args below meth c s₁ B hml hv0
  obtain ⟨rfl, hP, hK, hD, hN⟩ := hv0
  have hx := B.exec
  have hb := B.bytes
  have hr := B.returns
  have hts := atoms_spec (ws := wsX9_laws) B.pre
  have hown : s.vm.findClass RX9 = some m.cls := findClass_of_methodNamed B.named
  have hlocks := B.notSynchronized
  have hv := sp  ag σ0 hpre
  have hl := lv_entry ([.ref (ad 0)]) (n := 4) (Nat.le_of_ble_eq_true rfl)
  rw [lg_entry_eq]
  generalize (lg_sl ([.ref (ad 0)]) ++ List.replicate (4 - (lg_sl ([.ref (ad 0)])).length) Slot.unset).toArray = ls at hl ⊢
  have hl : lv_has ls 4 [(0, .ref (ad 0))] := hl
  refine W_gen (fun R Z H locs hR hZ hH hlo => ?_)
  have hRf : R.frames = 6 := by rw [hR]; rfl
  have hRl : R.locals = 140 := by rw [hR]; rfl
  have hRc : R.cells = 0 := by rw [hR]; rfl
  have hRs : R.slots = 0 := by rw [hR]; rfl
  have hS : va_S A s.heap H locs := by rw [hH, hlo]; exact va_S.rf
  rw [← hH] at hP
  obtain ⟨Q, hQ⟩ : ∃ q : Int32 → S_ → Prop, q = (post_X9_laws  ag σ0) := ⟨_, rfl⟩
  rw [← hQ] at hv
  have hinX9 : ∀ w ∈ wsX90, w ∈ wsX9_laws := by decide +kernel
  refine lv_aload_n hx hb dX9_laws_0 rfl (lv_at hl 0 rfl) ?_
  refine va_get (ci := 9) (v := .int (rdI σ0 1)) (C := RX9) (T := TX9) (N := 38) hx hb hts hinX9 hown hK hP 0 (wR_0 cy ad σ0) rfl 1 (by decide) (hts (.fieldLink RX9 102 "TaleBansModel" "persons" "I") (List.mem_of_getElem? (i := 1) rfl)) (fun x h => h) rfl dX9_laws_1 ?_
  refine lv_if_ne (tgt := 10) hx hb dX9_laws_4 (by decide) (fun c16 => ?_) (fun c16 => ?_)
  · have hv := hv.1 c16
    refine lv_aload_n hx hb dX9_laws_10 rfl (lv_at hl 0 rfl) ?_
    refine va_get (ci := 9) (v := .int (rdI σ0 3)) (C := RX9) (T := TX9) (N := 38) hx hb hts hinX9 hown hK hP 0 (wR_0 cy ad σ0) rfl 6 (by decide) (hts (.fieldLink RX9 161 "TaleBansModel" "lawNow" "I") (List.mem_of_getElem? (i := 2) rfl)) (fun x h => h) rfl dX9_laws_11 ?_
    refine lv_istore_n (lv' := [(1, .int (rdI σ0 3)), (0, .ref (ad 0))]) hx hb dX9_laws_14 rfl hl (by decide) rfl (fun ls hl => ?_)
    refine lv_iconst (v := 0) hx hb dX9_laws_15 (by decide) ?_
    refine lv_istore_n (lv' := [(2, .int 0), (1, .int (rdI σ0 3)), (0, .ref (ad 0))]) hx hb dX9_laws_16 rfl hl (by decide) rfl (fun ls hl => ?_)
    refine lv_iconst (v := 0) hx hb dX9_laws_17 (by decide) ?_
    refine lv_istore_n (lv' := [(3, .int 0), (2, .int 0), (1, .int (rdI σ0 3)), (0, .ref (ad 0))]) hx hb dX9_laws_18 rfl hl (by decide) rfl (fun ls hl => ?_)
    obtain ⟨n19, hv⟩ := hv
    have lp19 : ∀ (nn19 : Nat) (x1 : Int32) (x2 : Int32) (σ3 : S_) (H : Heap) (locs : List Loc) (ls : Array Slot), vl_X9_laws_19 σ0 Q nn19 x1 x2 σ3 → va_P D vwCl (wR cy ad σ3) H → va_D A (wR cy ad σ3) → va_S A s.heap H locs → lv_has ls 4 [(0, .ref (ad 0)), (1, .int (rdI σ0 3)), (2, .int x1), (3, .int x2)] → W p l e R s m ([.ref (ad 0)] : List Value).toArray  below meth c H locs 0 0 Z (F0 m 19 ls []) := by
      intro nn19
      induction nn19 with
      | zero => intro x1 x2 σ3 H locs ls hv; exact absurd hv id
      | succ mm19 ih19 =>
        intro x1 x2 σ3 H locs ls hv hP hD hS hl
        refine lv_iload_n hx hb dX9_laws_19 rfl (lv_at hl 3 rfl) ?_
        refine lv_iconst (v := 3) hx hb dX9_laws_20 (by decide) ?_
        refine lv_icmp_ge (tgt := 52) hx hb dX9_laws_21 (by decide) (fun c15 => ?_) (fun c15 => ?_)
        · have hv := hv.1 c15
          refine lv_aload_n hx hb dX9_laws_52 rfl (lv_at hl 0 rfl) ?_
          refine lv_iload_n hx hb dX9_laws_53 rfl (lv_at hl 1 rfl) ?_
          refine va_put (ci := 9) (v := .int (rdI σ0 3)) (ty := .int) (C := RX9) (T := TX9) (N := 38) hx hb hts hinX9 tyX9 tyX9_ok nmX9 hown hK hP hD hS 0 (wR_0 cy ad σ3) rfl 6 (by decide) (hts (.fieldLink RX9 161 "TaleBansModel" "lawNow" "I") (List.mem_of_getElem? (i := 2) rfl)) (fun x h => h) rfl (by decide +kernel) rfl rfl (Nat.le_of_ble_eq_true rfl) dX9_laws_54 (fun H locs hP hD hS => ?_)
          obtain ⟨σ4, e5⟩ : ∃ y : S_, y = wrI σ3 3 (rdI σ0 3) := ⟨_, rfl⟩
          have hP : va_P D vwCl (wR cy ad σ4) H := by rw [e5]; exact hP
          have hD : va_D A (wR cy ad σ4) := by rw [e5]; exact hD
          have hv := hv σ4 e5
          refine lv_iload_n hx hb dX9_laws_57 rfl (lv_at hl 2 rfl) ?_
          rw [hZ]; rw [hQ] at hv
          exact W.iret (v := x1) hx hb hr (fun t ht hW => ⟨⟨x1, σ4, rfl, hv, ⟨P_of ht hP, hD⟩⟩, hS.F ht⟩) hS.2.2 dX9_laws_58
        · have hv := hv.2 c15
          refine lv_aload_n hx hb dX9_laws_24 rfl (lv_at hl 0 rfl) ?_
          refine lv_iload_n hx hb dX9_laws_25 rfl (lv_at hl 3 rfl) ?_
          refine va_put (ci := 9) (v := .int x2) (ty := .int) (C := RX9) (T := TX9) (N := 38) hx hb hts hinX9 tyX9 tyX9_ok nmX9 hown hK hP hD hS 0 (wR_0 cy ad σ3) rfl 6 (by decide) (hts (.fieldLink RX9 161 "TaleBansModel" "lawNow" "I") (List.mem_of_getElem? (i := 2) rfl)) (fun x h => h) rfl (by decide +kernel) rfl rfl (Nat.le_of_ble_eq_true rfl) dX9_laws_26 (fun H locs hP hD hS => ?_)
          obtain ⟨σ6, e7⟩ : ∃ y : S_, y = wrI σ3 3 x2 := ⟨_, rfl⟩
          have hP : va_P D vwCl (wR cy ad σ6) H := by rw [e7]; exact hP
          have hD : va_D A (wR cy ad σ6) := by rw [e7]; exact hD
          have hv := hv σ6 e7
          refine lv_iload_n hx hb dX9_laws_29 rfl (lv_at hl 2 rfl) ?_
          refine lv_aload_n hx hb dX9_laws_30 rfl (lv_at hl 0 rfl) ?_
          obtain ⟨g8, hv⟩ := hv
          obtain ⟨hp, hv⟩ := hv
          refine k_rel_i (w := wR cy ad) (va_runV (As := []) (rest := [.int x1]) ⟨hx, hb, hml, hown, hts⟩ (h_X9_areSo D cy ad A g8 σ6 hp) (cwV 0 hts gX9_laws_X9_areSo rfl rfl rfl (by decide +kernel) ⟨le_R hRf (Nat.le_of_ble_eq_true rfl), le_R hRl (Nat.le_of_ble_eq_true rfl)⟩) ⟨(fun a U g mk q => ⟨q.1, q.2.blind⟩), va_recv hK hP (ci := 9) (q0 := 0) rfl (wR_0 cy ad σ6), (fun U hU hW => ⟨rfl, WdR.pre hP hK hD hN hU hW⟩)⟩ rfl rfl hl.1 rfl (lv_room (Nat.le_of_ble_eq_true rfl)) dX9_laws_31 ⟨le_R hRc (Nat.le_refl 0), le_R hRs (Nat.le_refl 0)⟩) hS (fun r10 σ9 H locs hr1 hP hD hS => ?_)
          have hv := hv r10 σ9 hr1
          obtain ⟨P11, hv, hvr⟩ := hv
          have jn12 : ∀ (b13 : Int32) (H : Heap) (locs : List Loc) (ls : Array Slot), P11 b13 → va_P D vwCl (wR cy ad σ9) H → va_S A s.heap H locs → lv_has ls 4 [(0, .ref (ad 0)), (1, .int (rdI σ0 3)), (2, .int x1), (3, .int x2)] → W p l e R s m ([.ref (ad 0)] : List Value).toArray below meth c H locs 0 0 Z (F0 m 44 ls [.int b13, .int x1]) := by
            intro b13 H locs ls hv hP hS hl
            have hv := hvr b13 hv
            refine lv_ior hx hb dX9_laws_44 ?_
            refine lv_istore_n (lv' := [(2, .int (x1 ||| b13)), (0, .ref (ad 0)), (1, .int (rdI σ0 3)), (3, .int x2)]) hx hb dX9_laws_45 rfl hl (by decide) rfl (fun ls hl => ?_)
            refine lv_iinc (v := (x2 + 1)) (lv' := [(3, .int (x2 + 1)), (2, .int (x1 ||| b13)), (0, .ref (ad 0)), (1, .int (rdI σ0 3))]) hx hb dX9_laws_46 hl (k := 3) rfl rfl (by decide) rfl (fun ls hl => ?_)
            refine lv_goto (tgt := 19) hx hb dX9_laws_49 (by decide) ?_
            exact ih19 (x1 ||| b13) (x2 + 1) σ9 _ _ _ hv hP hD hS (lv_sub hl [2, 3, 1, 0] rfl)
          refine lv_if_eq (tgt := 43) hx hb dX9_laws_34 (by decide) (fun c14 => ?_) (fun c14 => ?_)
          · have hv := hv.1 c14
            refine lv_iconst (v := 0) hx hb dX9_laws_43 (by decide) ?_
            exact jn12 0 _ _ _ hv hP hS hl
          · have hv := hv.2 c14
            refine lv_iconst (v := 1) hx hb dX9_laws_37 (by decide) ?_
            refine lv_iload_n hx hb dX9_laws_38 rfl (lv_at hl 3 rfl) ?_
            refine lv_ishl hx hb dX9_laws_39 ?_
            refine lv_goto (tgt := 44) hx hb dX9_laws_40 (by decide) ?_
            exact jn12 (1 <<< (x2 &&& 31)) _ _ _ hv hP hS hl
    exact lp19 n19 0 0 σ0 _ _ _ hv hP hD hS (lv_sub hl [3, 2, 1, 0] rfl)
  · have hv := hv.2 c16
    refine lv_bipush (v := (-3)) hx hb dX9_laws_7 (by decide) ?_
    rw [hZ]; rw [hQ] at hv
    exact W.iret (v := (-3)) hx hb hr (fun t ht hW => ⟨⟨(-3), σ0, rfl, hv, ⟨P_of ht hP, hD⟩⟩, hS.F ht⟩) hS.2.2 dX9_laws_9
set_option maxHeartbeats 4000000 in
set_option maxRecDepth 100000 in
theorem wk_X9_odds (l : Launch) (h_X9_all : Ct_X9_all l) (h_X9_in : Ct_X9_in l) (h_X9_isForbidden : Ct_X9_isForbidden l) (h_X9_isSeason : Ct_X9_isSeason l) (h_X9_lost : Ct_X9_lost l) (h_X9_noDeed : Ct_X9_noDeed l) (h_X9_shareOf : Ct_X9_shareOf l) (sp : ∀ (deed_ : Int32) (season_ : Int32) (which_ : Int32) (ag : AS) (σ0 : S_), pre_X9_odds deed_ season_ which_ ag σ0 → vc_X9_odds deed_ season_ which_ σ0 (post_X9_odds deed_ season_ which_ ag σ0)) : Ct_X9_odds l := by
  intro D cy ad A deed_ season_ which_ ag σ0  hpre
  refine Met.ofW (cc := cX9_odds) (maxL := 8) (ret := (some .long)) (by decide) rfl ?_
  intro p e s m args below meth c s₁ B hml hv0
  obtain ⟨rfl, hP, hK, hD, hN⟩ := hv0
  have hx := B.exec
  have hb := B.bytes
  have hr := B.returns
  have hts := atoms_spec (ws := wsX9_odds) B.pre
  have hown : s.vm.findClass RX9 = some m.cls := findClass_of_methodNamed B.named
  have hlocks := B.notSynchronized
  have hv := sp deed_ season_ which_ ag σ0 hpre
  have hl := lv_entry ([.ref (ad 0), .int deed_, .int season_, .int which_]) (n := 8) (Nat.le_of_ble_eq_true rfl)
  rw [lg_entry_eq]
  generalize (lg_sl ([.ref (ad 0), .int deed_, .int season_, .int which_]) ++ List.replicate (8 - (lg_sl ([.ref (ad 0), .int deed_, .int season_, .int which_])).length) Slot.unset).toArray = ls at hl ⊢
  have hl : lv_has ls 8 [(0, .ref (ad 0)), (1, .int deed_), (2, .int season_), (3, .int which_)] := hl
  refine W_gen (fun R Z H locs hR hZ hH hlo => ?_)
  have hRf : R.frames = 7 := by rw [hR]; rfl
  have hRl : R.locals = 161 := by rw [hR]; rfl
  have hRc : R.cells = 0 := by rw [hR]; rfl
  have hRs : R.slots = 0 := by rw [hR]; rfl
  have hS : va_S A s.heap H locs := by rw [hH, hlo]; exact va_S.rf
  rw [← hH] at hP
  obtain ⟨Q, hQ⟩ : ∃ q : Int64 → S_ → Prop, q = (post_X9_odds deed_ season_ which_ ag σ0) := ⟨_, rfl⟩
  rw [← hQ] at hv
  have hinX9 : ∀ w ∈ wsX90, w ∈ wsX9_odds := by decide +kernel
  refine lv_iload_n hx hb dX9_odds_0 rfl (lv_at hl 1 rfl) ?_
  refine k_pure_i (va_runS (As := [.int deed_]) (rest := []) ⟨hx, hb, hml, hown, hts⟩ (h_X9_noDeed deed_) (va_cwS 1 hts gX9_odds_X9_noDeed rfl rfl rfl (by decide +kernel) ⟨le_R hRf (Nat.le_of_ble_eq_true rfl), le_R hRl (Nat.le_of_ble_eq_true rfl)⟩) ⟨(fun a U g mk q => ⟨q.1, trivial⟩), (fun U hU hW => ⟨rfl, trivial⟩)⟩ rfl rfl hl.1 rfl (lv_room (Nat.le_of_ble_eq_true rfl)) dX9_odds_1 ⟨le_R hRc (Nat.le_refl 0), le_R hRs (Nat.le_refl 0)⟩) hS hP (fun r H locs hr1 hP hS => ?_)
  subst hr1
  refine lv_if_ne (tgt := 31) hx hb dX9_odds_4 (by decide) (fun c21 => ?_) (fun c21 => ?_)
  · have hv := hv.1 c21
    refine k_pure_l (va_runS (As := []) (rest := []) ⟨hx, hb, hml, hown, hts⟩ (h_X9_lost ) (va_cwS 0 hts gX9_odds_X9_lost rfl rfl rfl (by decide +kernel) ⟨le_R hRf (Nat.le_of_ble_eq_true rfl), le_R hRl (Nat.le_of_ble_eq_true rfl)⟩) ⟨(fun a U g mk q => ⟨q.1, trivial⟩), (fun U hU hW => ⟨rfl, trivial⟩)⟩ rfl rfl hl.1 rfl (lv_room (Nat.le_of_ble_eq_true rfl)) dX9_odds_31 ⟨le_R hRc (Nat.le_refl 0), le_R hRs (Nat.le_refl 0)⟩) hS hP (fun r H locs hr1 hP hS => ?_)
    subst hr1
    rw [hZ]; rw [hQ] at hv
    exact W.lret (v := fn_X9_lost) hx hb hr (fun t ht hW => ⟨⟨fn_X9_lost, σ0, rfl, hv, ⟨P_of ht hP, hD⟩⟩, hS.F ht⟩) hS.2.2 dX9_odds_34
  · have hv := hv.2 c21
    refine lv_iload_n hx hb dX9_odds_7 rfl (lv_at hl 2 rfl) ?_
    refine k_pure_i (va_runS (As := [.int season_]) (rest := []) ⟨hx, hb, hml, hown, hts⟩ (h_X9_isSeason season_) (va_cwS 1 hts gX9_odds_X9_isSeason rfl rfl rfl (by decide +kernel) ⟨le_R hRf (Nat.le_of_ble_eq_true rfl), le_R hRl (Nat.le_of_ble_eq_true rfl)⟩) ⟨(fun a U g mk q => ⟨q.1, trivial⟩), (fun U hU hW => ⟨rfl, trivial⟩)⟩ rfl rfl hl.1 rfl (lv_room (Nat.le_of_ble_eq_true rfl)) dX9_odds_8 ⟨le_R hRc (Nat.le_refl 0), le_R hRs (Nat.le_refl 0)⟩) hS hP (fun r H locs hr1 hP hS => ?_)
    subst hr1
    refine lv_if_eq (tgt := 31) hx hb dX9_odds_11 (by decide) (fun c20 => ?_) (fun c20 => ?_)
    · have hv := hv.1 c20
      refine k_pure_l (va_runS (As := []) (rest := []) ⟨hx, hb, hml, hown, hts⟩ (h_X9_lost ) (va_cwS 0 hts gX9_odds_X9_lost rfl rfl rfl (by decide +kernel) ⟨le_R hRf (Nat.le_of_ble_eq_true rfl), le_R hRl (Nat.le_of_ble_eq_true rfl)⟩) ⟨(fun a U g mk q => ⟨q.1, trivial⟩), (fun U hU hW => ⟨rfl, trivial⟩)⟩ rfl rfl hl.1 rfl (lv_room (Nat.le_of_ble_eq_true rfl)) dX9_odds_31 ⟨le_R hRc (Nat.le_refl 0), le_R hRs (Nat.le_refl 0)⟩) hS hP (fun r H locs hr1 hP hS => ?_)
      subst hr1
      rw [hZ]; rw [hQ] at hv
      exact W.lret (v := fn_X9_lost) hx hb hr (fun t ht hW => ⟨⟨fn_X9_lost, σ0, rfl, hv, ⟨P_of ht hP, hD⟩⟩, hS.F ht⟩) hS.2.2 dX9_odds_34
    · have hv := hv.2 c20
      refine lv_iload_n hx hb dX9_odds_14 rfl (lv_at hl 3 rfl) ?_
      refine lv_i2l hx hb dX9_odds_15 rfl ?_
      refine lv_lconst (v := 0) hx hb dX9_odds_16 rfl ?_
      refine lv_lconst (v := 1) hx hb dX9_odds_17 rfl ?_
      refine k_pure_i (va_runS (As := [.long (Int32.toInt64 which_), .long 0, .long 1]) (rest := []) ⟨hx, hb, hml, hown, hts⟩ (h_X9_in (Int32.toInt64 which_) 0 1) (va_cwS 3 hts gX9_odds_X9_in rfl rfl rfl (by decide +kernel) ⟨le_R hRf (Nat.le_of_ble_eq_true rfl), le_R hRl (Nat.le_of_ble_eq_true rfl)⟩) ⟨(fun a U g mk q => ⟨q.1, trivial⟩), (fun U hU hW => ⟨rfl, trivial⟩)⟩ rfl rfl hl.1 rfl (lv_room (Nat.le_of_ble_eq_true rfl)) dX9_odds_18 ⟨le_R hRc (Nat.le_refl 0), le_R hRs (Nat.le_refl 0)⟩) hS hP (fun r H locs hr1 hP hS => ?_)
      subst hr1
      refine lv_if_eq (tgt := 31) hx hb dX9_odds_21 (by decide) (fun c19 => ?_) (fun c19 => ?_)
      · have hv := hv.1 c19
        refine k_pure_l (va_runS (As := []) (rest := []) ⟨hx, hb, hml, hown, hts⟩ (h_X9_lost ) (va_cwS 0 hts gX9_odds_X9_lost rfl rfl rfl (by decide +kernel) ⟨le_R hRf (Nat.le_of_ble_eq_true rfl), le_R hRl (Nat.le_of_ble_eq_true rfl)⟩) ⟨(fun a U g mk q => ⟨q.1, trivial⟩), (fun U hU hW => ⟨rfl, trivial⟩)⟩ rfl rfl hl.1 rfl (lv_room (Nat.le_of_ble_eq_true rfl)) dX9_odds_31 ⟨le_R hRc (Nat.le_refl 0), le_R hRs (Nat.le_refl 0)⟩) hS hP (fun r H locs hr1 hP hS => ?_)
        subst hr1
        rw [hZ]; rw [hQ] at hv
        exact W.lret (v := fn_X9_lost) hx hb hr (fun t ht hW => ⟨⟨fn_X9_lost, σ0, rfl, hv, ⟨P_of ht hP, hD⟩⟩, hS.F ht⟩) hS.2.2 dX9_odds_34
      · have hv := hv.2 c19
        refine lv_aload_n hx hb dX9_odds_24 rfl (lv_at hl 0 rfl) ?_
        refine va_get (ci := 9) (v := .int (rdI σ0 1)) (C := RX9) (T := TX9) (N := 38) hx hb hts hinX9 hown hK hP 0 (wR_0 cy ad σ0) rfl 1 (by decide) (hts (.fieldLink RX9 102 "TaleBansModel" "persons" "I") (List.mem_of_getElem? (i := 1) rfl)) (fun x h => h) rfl dX9_odds_25 ?_
        refine lv_if_ne (tgt := 35) hx hb dX9_odds_28 (by decide) (fun c18 => ?_) (fun c18 => ?_)
        · have hv := hv.1 c18
          refine lv_aload_n hx hb dX9_odds_35 rfl (lv_at hl 0 rfl) ?_
          refine va_get (ci := 9) (v := .int (rdI σ0 2)) (C := RX9) (T := TX9) (N := 38) hx hb hts hinX9 hown hK hP 0 (wR_0 cy ad σ0) rfl 5 (by decide) (hts (.fieldLink RX9 158 "TaleBansModel" "paidNow" "I") (List.mem_of_getElem? (i := 2) rfl)) (fun x h => h) rfl dX9_odds_36 ?_
          refine lv_istore (lv' := [(4, .int (rdI σ0 2)), (0, .ref (ad 0)), (1, .int deed_), (2, .int season_), (3, .int which_)]) hx hb dX9_odds_39 hl (by decide) rfl (fun ls hl => ?_)
          refine lv_lconst (v := 0) hx hb dX9_odds_41 rfl ?_
          refine lv_lstore (lv' := [(5, .long 0), (4, .int (rdI σ0 2)), (0, .ref (ad 0)), (1, .int deed_), (2, .int season_), (3, .int which_)]) hx hb dX9_odds_42 hl (by decide) rfl (fun ls hl => ?_)
          refine lv_iconst (v := 0) hx hb dX9_odds_44 (by decide) ?_
          refine lv_istore (lv' := [(7, .int 0), (5, .long 0), (4, .int (rdI σ0 2)), (0, .ref (ad 0)), (1, .int deed_), (2, .int season_), (3, .int which_)]) hx hb dX9_odds_45 hl (by decide) rfl (fun ls hl => ?_)
          obtain ⟨n47, hv⟩ := hv
          have lp47 : ∀ (nn47 : Nat) (x1 : Int64) (x2 : Int32) (σ3 : S_) (H : Heap) (locs : List Loc) (ls : Array Slot), vl_X9_odds_47 deed_ season_ which_ σ0 Q nn47 x1 x2 σ3 → va_P D vwCl (wR cy ad σ3) H → va_D A (wR cy ad σ3) → va_S A s.heap H locs → lv_has ls 8 [(0, .ref (ad 0)), (1, .int deed_), (2, .int season_), (3, .int which_), (4, .int (rdI σ0 2)), (5, .long x1), (7, .int x2)] → W p l e R s m ([.ref (ad 0), .int deed_, .int season_, .int which_] : List Value).toArray  below meth c H locs 0 0 Z (F0 m 47 ls []) := by
            intro nn47
            induction nn47 with
            | zero => intro x1 x2 σ3 H locs ls hv; exact absurd hv id
            | succ mm47 ih47 =>
              intro x1 x2 σ3 H locs ls hv hP hD hS hl
              refine lv_iload hx hb dX9_odds_47 (lv_at hl 6 rfl) ?_
              refine lv_aload_n hx hb dX9_odds_49 rfl (lv_at hl 0 rfl) ?_
              have hp := True.intro
              refine k_read_i (w := wR cy ad) (va_runV (As := []) (rest := [.int x2]) ⟨hx, hb, hml, hown, hts⟩ (h_X9_all D cy ad A σ3 hp) (cwV 0 hts gX9_odds_X9_all rfl rfl rfl (by decide +kernel) ⟨le_R hRf (Nat.le_of_ble_eq_true rfl), le_R hRl (Nat.le_of_ble_eq_true rfl)⟩) ⟨(fun a U g mk q => ⟨q.1, q.2.blind⟩), va_recv hK hP (ci := 9) (q0 := 0) rfl (wR_0 cy ad σ3), (fun U hU hW => ⟨rfl, WdR.pre hP hK hD hN hU hW⟩)⟩ rfl rfl hl.1 rfl (lv_room (Nat.le_of_ble_eq_true rfl)) dX9_odds_50 ⟨le_R hRc (Nat.le_refl 0), le_R hRs (Nat.le_refl 0)⟩) hS (fun r H locs hr1 hP hS => ?_)
              subst hr1
              refine lv_icmp_gt (tgt := 87) hx hb dX9_odds_53 (by decide) (fun c17 => ?_) (fun c17 => ?_)
              · have hv := hv.1 c17
                refine lv_aload_n hx hb dX9_odds_87 rfl (lv_at hl 0 rfl) ?_
                refine lv_iload hx hb dX9_odds_88 (lv_at hl 4 rfl) ?_
                refine va_put (ci := 9) (v := .int (rdI σ0 2)) (ty := .int) (C := RX9) (T := TX9) (N := 38) hx hb hts hinX9 tyX9 tyX9_ok nmX9 hown hK hP hD hS 0 (wR_0 cy ad σ3) rfl 5 (by decide) (hts (.fieldLink RX9 158 "TaleBansModel" "paidNow" "I") (List.mem_of_getElem? (i := 2) rfl)) (fun x h => h) rfl (by decide +kernel) rfl rfl (Nat.le_of_ble_eq_true rfl) dX9_odds_90 (fun H locs hP hD hS => ?_)
                obtain ⟨σ4, e5⟩ : ∃ y : S_, y = wrI σ3 2 (rdI σ0 2) := ⟨_, rfl⟩
                have hP : va_P D vwCl (wR cy ad σ4) H := by rw [e5]; exact hP
                have hD : va_D A (wR cy ad σ4) := by rw [e5]; exact hD
                have hv := hv σ4 e5
                refine lv_lload hx hb dX9_odds_93 (lv_at hl 5 rfl) ?_
                refine lv_aload_n hx hb dX9_odds_95 rfl (lv_at hl 0 rfl) ?_
                have hp := True.intro
                refine k_read_i (w := wR cy ad) (va_runV (As := []) (rest := [.long x1]) ⟨hx, hb, hml, hown, hts⟩ (h_X9_all D cy ad A σ4 hp) (cwV 0 hts gX9_odds_X9_all rfl rfl rfl (by decide +kernel) ⟨le_R hRf (Nat.le_of_ble_eq_true rfl), le_R hRl (Nat.le_of_ble_eq_true rfl)⟩) ⟨(fun a U g mk q => ⟨q.1, q.2.blind⟩), va_recv hK hP (ci := 9) (q0 := 0) rfl (wR_0 cy ad σ4), (fun U hU hW => ⟨rfl, WdR.pre hP hK hD hN hU hW⟩)⟩ rfl rfl hl.1 rfl (lv_room (Nat.le_of_ble_eq_true rfl)) dX9_odds_96 ⟨le_R hRc (Nat.le_refl 0), le_R hRs (Nat.le_refl 0)⟩) hS (fun r H locs hr1 hP hS => ?_)
                subst hr1
                refine lv_i2l hx hb dX9_odds_99 rfl ?_
                refine lv_lconst (v := 1) hx hb dX9_odds_100 rfl ?_
                refine lv_ladd hx hb dX9_odds_101 ?_
                refine lv_iload_n hx hb dX9_odds_102 rfl (lv_at hl 3 rfl) ?_
                refine k_pure_l (va_runS (As := [.long x1, .long ((Int32.toInt64 (fn_X9_all σ4)) + 1), .int which_]) (rest := []) ⟨hx, hb, hml, hown, hts⟩ (h_X9_shareOf x1 ((Int32.toInt64 (fn_X9_all σ4)) + 1) which_) (va_cwS 3 hts gX9_odds_X9_shareOf rfl rfl rfl (by decide +kernel) ⟨le_R hRf (Nat.le_of_ble_eq_true rfl), le_R hRl (Nat.le_of_ble_eq_true rfl)⟩) ⟨(fun a U g mk q => ⟨q.1, trivial⟩), (fun U hU hW => ⟨rfl, trivial⟩)⟩ rfl rfl hl.1 rfl (lv_room (Nat.le_of_ble_eq_true rfl)) dX9_odds_103 ⟨le_R hRc (Nat.le_refl 0), le_R hRs (Nat.le_refl 0)⟩) hS hP (fun r H locs hr1 hP hS => ?_)
                subst hr1
                rw [hZ]; rw [hQ] at hv
                exact W.lret (v := (fn_X9_shareOf x1 ((Int32.toInt64 (fn_X9_all σ4)) + 1) which_)) hx hb hr (fun t ht hW => ⟨⟨(fn_X9_shareOf x1 ((Int32.toInt64 (fn_X9_all σ4)) + 1) which_), σ4, rfl, hv, ⟨P_of ht hP, hD⟩⟩, hS.F ht⟩) hS.2.2 dX9_odds_106
              · have hv := hv.2 c17
                refine lv_aload_n hx hb dX9_odds_56 rfl (lv_at hl 0 rfl) ?_
                refine lv_iload hx hb dX9_odds_57 (lv_at hl 6 rfl) ?_
                refine va_put (ci := 9) (v := .int x2) (ty := .int) (C := RX9) (T := TX9) (N := 38) hx hb hts hinX9 tyX9 tyX9_ok nmX9 hown hK hP hD hS 0 (wR_0 cy ad σ3) rfl 5 (by decide) (hts (.fieldLink RX9 158 "TaleBansModel" "paidNow" "I") (List.mem_of_getElem? (i := 2) rfl)) (fun x h => h) rfl (by decide +kernel) rfl rfl (Nat.le_of_ble_eq_true rfl) dX9_odds_59 (fun H locs hP hD hS => ?_)
                obtain ⟨σ6, e7⟩ : ∃ y : S_, y = wrI σ3 2 x2 := ⟨_, rfl⟩
                have hP : va_P D vwCl (wR cy ad σ6) H := by rw [e7]; exact hP
                have hD : va_D A (wR cy ad σ6) := by rw [e7]; exact hD
                have hv := hv σ6 e7
                refine lv_lload hx hb dX9_odds_62 (lv_at hl 5 rfl) ?_
                refine lv_aload_n hx hb dX9_odds_64 rfl (lv_at hl 0 rfl) ?_
                refine lv_iload_n hx hb dX9_odds_65 rfl (lv_at hl 1 rfl) ?_
                refine lv_iload_n hx hb dX9_odds_66 rfl (lv_at hl 2 rfl) ?_
                obtain ⟨g8, g9, g10, hv⟩ := hv
                obtain ⟨hp, hv⟩ := hv
                refine k_rel_i (w := wR cy ad) (va_runV (As := [.int deed_, .int season_]) (rest := [.long x1]) ⟨hx, hb, hml, hown, hts⟩ (h_X9_isForbidden D cy ad A deed_ season_ g8 g9 g10 σ6 hp) (cwV 2 hts gX9_odds_X9_isForbidden rfl rfl rfl (by decide +kernel) ⟨le_R hRf (Nat.le_of_ble_eq_true rfl), le_R hRl (Nat.le_of_ble_eq_true rfl)⟩) ⟨(fun a U g mk q => ⟨q.1, q.2.blind⟩), va_recv hK hP (ci := 9) (q0 := 0) rfl (wR_0 cy ad σ6), (fun U hU hW => ⟨rfl, WdR.pre hP hK hD hN hU hW⟩)⟩ rfl rfl hl.1 rfl (lv_room (Nat.le_of_ble_eq_true rfl)) dX9_odds_67 ⟨le_R hRc (Nat.le_refl 0), le_R hRs (Nat.le_refl 0)⟩) hS (fun r12 σ11 H locs hr1 hP hD hS => ?_)
                have hv := hv r12 σ11 hr1
                obtain ⟨P13, hv, hvr⟩ := hv
                have jn14 : ∀ (b15 : Int64) (H : Heap) (locs : List Loc) (ls : Array Slot), P13 b15 → va_P D vwCl (wR cy ad σ11) H → va_S A s.heap H locs → lv_has ls 8 [(0, .ref (ad 0)), (1, .int deed_), (2, .int season_), (3, .int which_), (4, .int (rdI σ0 2)), (5, .long x1), (7, .int x2)] → W p l e R s m ([.ref (ad 0), .int deed_, .int season_, .int which_] : List Value).toArray below meth c H locs 0 0 Z (F0 m 78 ls [.long b15, .long x1]) := by
                  intro b15 H locs ls hv hP hS hl
                  have hv := hvr b15 hv
                  refine lv_ladd hx hb dX9_odds_78 ?_
                  refine lv_lstore (lv' := [(5, .long (x1 + b15)), (0, .ref (ad 0)), (1, .int deed_), (2, .int season_), (3, .int which_), (4, .int (rdI σ0 2)), (7, .int x2)]) hx hb dX9_odds_79 hl (by decide) rfl (fun ls hl => ?_)
                  refine lv_iinc (v := (x2 + 1)) (lv' := [(7, .int (x2 + 1)), (5, .long (x1 + b15)), (0, .ref (ad 0)), (1, .int deed_), (2, .int season_), (3, .int which_), (4, .int (rdI σ0 2))]) hx hb dX9_odds_81 hl (k := 6) rfl rfl (by decide) rfl (fun ls hl => ?_)
                  refine lv_goto (tgt := 47) hx hb dX9_odds_84 (by decide) ?_
                  exact ih47 (x1 + b15) (x2 + 1) σ11 _ _ _ hv hP hD hS (lv_sub hl [2, 3, 4, 5, 6, 1, 0] rfl)
                refine lv_if_eq (tgt := 77) hx hb dX9_odds_70 (by decide) (fun c16 => ?_) (fun c16 => ?_)
                · have hv := hv.1 c16
                  refine lv_lconst (v := 1) hx hb dX9_odds_77 rfl ?_
                  exact jn14 1 _ _ _ hv hP hS hl
                · have hv := hv.2 c16
                  refine lv_lconst (v := 0) hx hb dX9_odds_73 rfl ?_
                  refine lv_goto (tgt := 78) hx hb dX9_odds_74 (by decide) ?_
                  exact jn14 0 _ _ _ hv hP hS hl
          exact lp47 n47 0 0 σ0 _ _ _ hv hP hD hS (lv_sub hl [3, 4, 5, 6, 2, 1, 0] rfl)
        · have hv := hv.2 c18
          refine k_pure_l (va_runS (As := []) (rest := []) ⟨hx, hb, hml, hown, hts⟩ (h_X9_lost ) (va_cwS 0 hts gX9_odds_X9_lost rfl rfl rfl (by decide +kernel) ⟨le_R hRf (Nat.le_of_ble_eq_true rfl), le_R hRl (Nat.le_of_ble_eq_true rfl)⟩) ⟨(fun a U g mk q => ⟨q.1, trivial⟩), (fun U hU hW => ⟨rfl, trivial⟩)⟩ rfl rfl hl.1 rfl (lv_room (Nat.le_of_ble_eq_true rfl)) dX9_odds_31 ⟨le_R hRc (Nat.le_refl 0), le_R hRs (Nat.le_refl 0)⟩) hS hP (fun r H locs hr1 hP hS => ?_)
          subst hr1
          rw [hZ]; rw [hQ] at hv
          exact W.lret (v := fn_X9_lost) hx hb hr (fun t ht hW => ⟨⟨fn_X9_lost, σ0, rfl, hv, ⟨P_of ht hP, hD⟩⟩, hS.F ht⟩) hS.2.2 dX9_odds_34
set_option maxHeartbeats 4000000 in
set_option maxRecDepth 100000 in
theorem wk_X9_sheet (l : Launch) (h_X9_failed : Ct_X9_failed l) (h_X9_in : Ct_X9_in l) (h_X9_noSheet : Ct_X9_noSheet l) (h_X9_refused : Ct_X9_refused l) (sp : ∀ (k_ : Int32) (lane_ : Int32) (n_ : Int32) (ag : AS) (σ0 : S_), pre_X9_sheet k_ lane_ n_ ag σ0 → vc_X9_sheet k_ lane_ n_ σ0 (post_X9_sheet k_ lane_ n_ ag σ0)) : Ct_X9_sheet l := by
  intro D cy ad A k_ lane_ n_ ag σ0  hpre
  refine Met.ofW (cc := cX9_sheet) (maxL := 5) (ret := (some .int)) (by decide) rfl ?_
  intro p e s m args below meth c s₁ B hml hv0
  obtain ⟨rfl, hP, hK, hD, hN⟩ := hv0
  have hx := B.exec
  have hb := B.bytes
  have hr := B.returns
  have hts := atoms_spec (ws := wsX9_sheet) B.pre
  have hown : s.vm.findClass RX9 = some m.cls := findClass_of_methodNamed B.named
  have hlocks := B.notSynchronized
  have hv := sp k_ lane_ n_ ag σ0 hpre
  have hl := lv_entry ([.ref (ad 0), .int k_, .int lane_, .int n_]) (n := 5) (Nat.le_of_ble_eq_true rfl)
  rw [lg_entry_eq]
  generalize (lg_sl ([.ref (ad 0), .int k_, .int lane_, .int n_]) ++ List.replicate (5 - (lg_sl ([.ref (ad 0), .int k_, .int lane_, .int n_])).length) Slot.unset).toArray = ls at hl ⊢
  have hl : lv_has ls 5 [(0, .ref (ad 0)), (1, .int k_), (2, .int lane_), (3, .int n_)] := hl
  refine W_gen (fun R Z H locs hR hZ hH hlo => ?_)
  have hRf : R.frames = 2 := by rw [hR]; rfl
  have hRl : R.locals = 45 := by rw [hR]; rfl
  have hRc : R.cells = 0 := by rw [hR]; rfl
  have hRs : R.slots = 0 := by rw [hR]; rfl
  have hS : va_S A s.heap H locs := by rw [hH, hlo]; exact va_S.rf
  rw [← hH] at hP
  obtain ⟨Q, hQ⟩ : ∃ q : Int32 → S_ → Prop, q = (post_X9_sheet k_ lane_ n_ ag σ0) := ⟨_, rfl⟩
  rw [← hQ] at hv
  have hinX9 : ∀ w ∈ wsX90, w ∈ wsX9_sheet := by decide +kernel
  refine lv_iload_n hx hb dX9_sheet_0 rfl (lv_at hl 1 rfl) ?_
  refine k_pure_i (va_runS (As := [.int k_]) (rest := []) ⟨hx, hb, hml, hown, hts⟩ (h_X9_noSheet k_) (va_cwS 1 hts gX9_sheet_X9_noSheet rfl rfl rfl (by decide +kernel) ⟨le_R hRf (Nat.le_of_ble_eq_true rfl), le_R hRl (Nat.le_of_ble_eq_true rfl)⟩) ⟨(fun a U g mk q => ⟨q.1, trivial⟩), (fun U hU hW => ⟨rfl, trivial⟩)⟩ rfl rfl hl.1 rfl (lv_room (Nat.le_of_ble_eq_true rfl)) dX9_sheet_1 ⟨le_R hRc (Nat.le_refl 0), le_R hRs (Nat.le_refl 0)⟩) hS hP (fun r H locs hr1 hP hS => ?_)
  subst hr1
  refine lv_if_eq (tgt := 13) hx hb dX9_sheet_4 (by decide) (fun c23 => ?_) (fun c23 => ?_)
  · have hv := hv.1 c23
    refine lv_iload_n hx hb dX9_sheet_13 rfl (lv_at hl 2 rfl) ?_
    refine lv_i2l hx hb dX9_sheet_14 rfl ?_
    refine lv_lconst (v := 0) hx hb dX9_sheet_15 rfl ?_
    refine lv_ldc2 (v := (2)) hx hb hown (hts (.constantLong RX9 114 (2)) (List.mem_of_getElem? (i := 1) rfl)) dX9_sheet_16 ?_
    refine k_pure_i (va_runS (As := [.long (Int32.toInt64 lane_), .long 0, .long (2)]) (rest := []) ⟨hx, hb, hml, hown, hts⟩ (h_X9_in (Int32.toInt64 lane_) 0 (2)) (va_cwS 3 hts gX9_sheet_X9_in rfl rfl rfl (by decide +kernel) ⟨le_R hRf (Nat.le_of_ble_eq_true rfl), le_R hRl (Nat.le_of_ble_eq_true rfl)⟩) ⟨(fun a U g mk q => ⟨q.1, trivial⟩), (fun U hU hW => ⟨rfl, trivial⟩)⟩ rfl rfl hl.1 rfl (lv_room (Nat.le_of_ble_eq_true rfl)) dX9_sheet_19 ⟨le_R hRc (Nat.le_refl 0), le_R hRs (Nat.le_refl 0)⟩) hS hP (fun r H locs hr1 hP hS => ?_)
    subst hr1
    refine lv_if_eq (tgt := 31) hx hb dX9_sheet_22 (by decide) (fun c20 => ?_) (fun c20 => ?_)
    · have hv := hv.1 c20
      refine lv_aload_n hx hb dX9_sheet_31 rfl (lv_at hl 0 rfl) ?_
      refine lv_bipush (v := (-2)) hx hb dX9_sheet_32 (by decide) ?_
      have hp := True.intro
      refine k_rel_i (w := wR cy ad) (va_runV (As := [.int (-2)]) (rest := []) ⟨hx, hb, hml, hown, hts⟩ (h_X9_refused D cy ad A (-2) σ0 hp) (cwV 1 hts gX9_sheet_X9_refused rfl rfl rfl (by decide +kernel) ⟨le_R hRf (Nat.le_of_ble_eq_true rfl), le_R hRl (Nat.le_of_ble_eq_true rfl)⟩) ⟨(fun a U g mk q => ⟨q.1, q.2.blind⟩), va_recv hK hP (ci := 9) (q0 := 0) rfl (wR_0 cy ad σ0), (fun U hU hW => ⟨rfl, WdR.pre hP hK hD hN hU hW⟩)⟩ rfl rfl hl.1 rfl (lv_room (Nat.le_of_ble_eq_true rfl)) dX9_sheet_34 ⟨le_R hRc (Nat.le_refl 0), le_R hRs (Nat.le_refl 0)⟩) hS (fun r2 σ1 H locs hr1 hP hD hS => ?_)
      have hv := hv r2 σ1 hr1
      rw [hZ]; rw [hQ] at hv
      exact W.iret (v := r2) hx hb hr (fun t ht hW => ⟨⟨r2, σ1, rfl, hv, ⟨P_of ht hP, hD⟩⟩, hS.F ht⟩) hS.2.2 dX9_sheet_37
    · have hv := hv.2 c20
      refine lv_iload_n hx hb dX9_sheet_25 rfl (lv_at hl 3 rfl) ?_
      refine lv_bipush (v := 60) hx hb dX9_sheet_26 (by decide) ?_
      refine lv_icmp_le (tgt := 38) hx hb dX9_sheet_28 (by decide) (fun c19 => ?_) (fun c19 => ?_)
      · have hv := hv.1 c19
        refine lv_iload_n hx hb dX9_sheet_38 rfl (lv_at hl 3 rfl) ?_
        refine lv_if_ge (tgt := 48) hx hb dX9_sheet_39 (by decide) (fun c16 => ?_) (fun c16 => ?_)
        · have hv := hv.1 c16
          refine lv_aload_n hx hb dX9_sheet_48 rfl (lv_at hl 0 rfl) ?_
          refine va_get (ci := 9) (v := .ref (ad (24))) (C := RX9) (T := TX9) (N := 38) hx hb hts hinX9 hown hK hP 0 (wR_0 cy ad σ0) rfl 33 (by decide) (hts (.fieldLink RX9 80 "TaleBansModel" "sheetSize" "[I") (List.mem_of_getElem? (i := 2) rfl)) (fun x h => h) rfl dX9_sheet_49 ?_
          refine lv_iload_n hx hb dX9_sheet_52 rfl (lv_at hl 1 rfl) ?_
          refine lv_iload_n hx hb dX9_sheet_53 rfl (lv_at hl 3 rfl) ?_
          obtain ⟨hi, hv⟩ := hv
          refine va_iast hx hb hK hP hD hS 24 0 (wR_24 cy ad σ0) rfl hi dX9_sheet_54 (fun H locs hP hD hS => ?_)
          obtain ⟨σ3, e4⟩ : ∃ y : S_, y = wr2 σ0 24 (Int32.toNatClampNeg k_) n_ := ⟨_, rfl⟩
          have hP : va_P D vwCl (wR cy ad σ3) H := by rw [e4]; exact hP
          have hD : va_D A (wR cy ad σ3) := by rw [e4]; exact hD
          have hv := hv σ3 e4
          refine lv_aload_n hx hb dX9_sheet_55 rfl (lv_at hl 0 rfl) ?_
          refine va_get (ci := 9) (v := .ref (ad (25))) (C := RX9) (T := TX9) (N := 38) hx hb hts hinX9 hown hK hP 0 (wR_0 cy ad σ3) rfl 34 (by decide) (hts (.fieldLink RX9 83 "TaleBansModel" "sheetLane" "[I") (List.mem_of_getElem? (i := 3) rfl)) (fun x h => h) rfl dX9_sheet_56 ?_
          refine lv_iload_n hx hb dX9_sheet_59 rfl (lv_at hl 1 rfl) ?_
          refine lv_iload_n hx hb dX9_sheet_60 rfl (lv_at hl 2 rfl) ?_
          obtain ⟨hi, hv⟩ := hv
          refine va_iast hx hb hK hP hD hS 25 0 (wR_25 cy ad σ3) rfl hi dX9_sheet_61 (fun H locs hP hD hS => ?_)
          obtain ⟨σ5, e6⟩ : ∃ y : S_, y = wr2 σ3 25 (Int32.toNatClampNeg k_) lane_ := ⟨_, rfl⟩
          have hP : va_P D vwCl (wR cy ad σ5) H := by rw [e6]; exact hP
          have hD : va_D A (wR cy ad σ5) := by rw [e6]; exact hD
          have hv := hv σ5 e6
          refine lv_iconst (v := 0) hx hb dX9_sheet_62 (by decide) ?_
          refine lv_istore (lv' := [(4, .int 0), (0, .ref (ad 0)), (1, .int k_), (2, .int lane_), (3, .int n_)]) hx hb dX9_sheet_63 hl (by decide) rfl (fun ls hl => ?_)
          obtain ⟨n65, hv⟩ := hv
          have lp65 : ∀ (nn65 : Nat) (x7 : Int32) (σ8 : S_) (H : Heap) (locs : List Loc) (ls : Array Slot), vl_X9_sheet_65 k_ n_ Q nn65 x7 σ8 → va_P D vwCl (wR cy ad σ8) H → va_D A (wR cy ad σ8) → va_S A s.heap H locs → lv_has ls 5 [(0, .ref (ad 0)), (1, .int k_), (3, .int n_), (4, .int x7)] → W p l e R s m ([.ref (ad 0), .int k_, .int lane_, .int n_] : List Value).toArray  below meth c H locs 0 0 Z (F0 m 65 ls []) := by
            intro nn65
            induction nn65 with
            | zero => intro x7 σ8 H locs ls hv; exact absurd hv id
            | succ mm65 ih65 =>
              intro x7 σ8 H locs ls hv hP hD hS hl
              refine lv_iload hx hb dX9_sheet_65 (lv_at hl 3 rfl) ?_
              refine lv_iload_n hx hb dX9_sheet_67 rfl (lv_at hl 2 rfl) ?_
              refine lv_icmp_ge (tgt := 90) hx hb dX9_sheet_68 (by decide) (fun c13 => ?_) (fun c13 => ?_)
              · have hv := hv.1 c13
                refine lv_aload_n hx hb dX9_sheet_90 rfl (lv_at hl 0 rfl) ?_
                refine lv_iconst (v := 1) hx hb dX9_sheet_91 (by decide) ?_
                have hp := True.intro
                refine k_rel_i (w := wR cy ad) (va_runV (As := [.int 1]) (rest := []) ⟨hx, hb, hml, hown, hts⟩ (h_X9_refused D cy ad A 1 σ8 hp) (cwV 1 hts gX9_sheet_X9_refused rfl rfl rfl (by decide +kernel) ⟨le_R hRf (Nat.le_of_ble_eq_true rfl), le_R hRl (Nat.le_of_ble_eq_true rfl)⟩) ⟨(fun a U g mk q => ⟨q.1, q.2.blind⟩), va_recv hK hP (ci := 9) (q0 := 0) rfl (wR_0 cy ad σ8), (fun U hU hW => ⟨rfl, WdR.pre hP hK hD hN hU hW⟩)⟩ rfl rfl hl.1 rfl (lv_room (Nat.le_of_ble_eq_true rfl)) dX9_sheet_92 ⟨le_R hRc (Nat.le_refl 0), le_R hRs (Nat.le_refl 0)⟩) hS (fun r10 σ9 H locs hr1 hP hD hS => ?_)
                have hv := hv r10 σ9 hr1
                rw [hZ]; rw [hQ] at hv
                exact W.iret (v := r10) hx hb hr (fun t ht hW => ⟨⟨r10, σ9, rfl, hv, ⟨P_of ht hP, hD⟩⟩, hS.F ht⟩) hS.2.2 dX9_sheet_95
              · have hv := hv.2 c13
                refine lv_aload_n hx hb dX9_sheet_71 rfl (lv_at hl 0 rfl) ?_
                refine va_get (ci := 9) (v := .ref (ad (26))) (C := RX9) (T := TX9) (N := 38) hx hb hts hinX9 hown hK hP 0 (wR_0 cy ad σ8) rfl 35 (by decide) (hts (.fieldLink RX9 86 "TaleBansModel" "sheet" "[I") (List.mem_of_getElem? (i := 4) rfl)) (fun x h => h) rfl dX9_sheet_72 ?_
                refine lv_bipush (v := 60) hx hb dX9_sheet_75 (by decide) ?_
                refine lv_iload_n hx hb dX9_sheet_77 rfl (lv_at hl 1 rfl) ?_
                refine lv_imul hx hb dX9_sheet_78 ?_
                refine lv_iload hx hb dX9_sheet_79 (lv_at hl 3 rfl) ?_
                refine lv_iadd hx hb dX9_sheet_81 ?_
                refine lv_iconst (v := 0) hx hb dX9_sheet_82 (by decide) ?_
                obtain ⟨hi, hv⟩ := hv
                refine va_iast hx hb hK hP hD hS 26 0 (wR_26 cy ad σ8) rfl hi dX9_sheet_83 (fun H locs hP hD hS => ?_)
                obtain ⟨σ11, e12⟩ : ∃ y : S_, y = wr2 σ8 26 (Int32.toNatClampNeg ((60 * k_) + x7)) 0 := ⟨_, rfl⟩
                have hP : va_P D vwCl (wR cy ad σ11) H := by rw [e12]; exact hP
                have hD : va_D A (wR cy ad σ11) := by rw [e12]; exact hD
                have hv := hv σ11 e12
                refine lv_iinc (v := (x7 + 1)) (lv' := [(4, .int (x7 + 1)), (0, .ref (ad 0)), (1, .int k_), (3, .int n_)]) hx hb dX9_sheet_84 hl (k := 3) rfl rfl (by decide) rfl (fun ls hl => ?_)
                refine lv_goto (tgt := 65) hx hb dX9_sheet_87 (by decide) ?_
                exact ih65 (x7 + 1) σ11 _ _ _ hv hP hD hS (lv_sub hl [1, 2, 3, 0] rfl)
          exact lp65 n65 0 σ5 _ _ _ hv hP hD hS (lv_sub hl [1, 2, 4, 0] rfl)
        · have hv := hv.2 c16
          refine lv_aload_n hx hb dX9_sheet_42 rfl (lv_at hl 0 rfl) ?_
          refine lv_iconst (v := 4) hx hb dX9_sheet_43 (by decide) ?_
          have hp := True.intro
          refine k_rel_i (w := wR cy ad) (va_runV (As := [.int 4]) (rest := []) ⟨hx, hb, hml, hown, hts⟩ (h_X9_failed D cy ad A 4 σ0 hp) (cwV 1 hts gX9_sheet_X9_failed rfl rfl rfl (by decide +kernel) ⟨le_R hRf (Nat.le_of_ble_eq_true rfl), le_R hRl (Nat.le_of_ble_eq_true rfl)⟩) ⟨(fun a U g mk q => ⟨q.1, q.2.blind⟩), va_recv hK hP (ci := 9) (q0 := 0) rfl (wR_0 cy ad σ0), (fun U hU hW => ⟨rfl, WdR.pre hP hK hD hN hU hW⟩)⟩ rfl rfl hl.1 rfl (lv_room (Nat.le_of_ble_eq_true rfl)) dX9_sheet_44 ⟨le_R hRc (Nat.le_refl 0), le_R hRs (Nat.le_refl 0)⟩) hS (fun r15 σ14 H locs hr1 hP hD hS => ?_)
          have hv := hv r15 σ14 hr1
          rw [hZ]; rw [hQ] at hv
          exact W.iret (v := r15) hx hb hr (fun t ht hW => ⟨⟨r15, σ14, rfl, hv, ⟨P_of ht hP, hD⟩⟩, hS.F ht⟩) hS.2.2 dX9_sheet_47
      · have hv := hv.2 c19
        refine lv_aload_n hx hb dX9_sheet_31 rfl (lv_at hl 0 rfl) ?_
        refine lv_bipush (v := (-2)) hx hb dX9_sheet_32 (by decide) ?_
        have hp := True.intro
        refine k_rel_i (w := wR cy ad) (va_runV (As := [.int (-2)]) (rest := []) ⟨hx, hb, hml, hown, hts⟩ (h_X9_refused D cy ad A (-2) σ0 hp) (cwV 1 hts gX9_sheet_X9_refused rfl rfl rfl (by decide +kernel) ⟨le_R hRf (Nat.le_of_ble_eq_true rfl), le_R hRl (Nat.le_of_ble_eq_true rfl)⟩) ⟨(fun a U g mk q => ⟨q.1, q.2.blind⟩), va_recv hK hP (ci := 9) (q0 := 0) rfl (wR_0 cy ad σ0), (fun U hU hW => ⟨rfl, WdR.pre hP hK hD hN hU hW⟩)⟩ rfl rfl hl.1 rfl (lv_room (Nat.le_of_ble_eq_true rfl)) dX9_sheet_34 ⟨le_R hRc (Nat.le_refl 0), le_R hRs (Nat.le_refl 0)⟩) hS (fun r18 σ17 H locs hr1 hP hD hS => ?_)
        have hv := hv r18 σ17 hr1
        rw [hZ]; rw [hQ] at hv
        exact W.iret (v := r18) hx hb hr (fun t ht hW => ⟨⟨r18, σ17, rfl, hv, ⟨P_of ht hP, hD⟩⟩, hS.F ht⟩) hS.2.2 dX9_sheet_37
  · have hv := hv.2 c23
    refine lv_aload_n hx hb dX9_sheet_7 rfl (lv_at hl 0 rfl) ?_
    refine lv_iconst (v := (-1)) hx hb dX9_sheet_8 (by decide) ?_
    have hp := True.intro
    refine k_rel_i (w := wR cy ad) (va_runV (As := [.int (-1)]) (rest := []) ⟨hx, hb, hml, hown, hts⟩ (h_X9_refused D cy ad A (-1) σ0 hp) (cwV 1 hts gX9_sheet_X9_refused rfl rfl rfl (by decide +kernel) ⟨le_R hRf (Nat.le_of_ble_eq_true rfl), le_R hRl (Nat.le_of_ble_eq_true rfl)⟩) ⟨(fun a U g mk q => ⟨q.1, q.2.blind⟩), va_recv hK hP (ci := 9) (q0 := 0) rfl (wR_0 cy ad σ0), (fun U hU hW => ⟨rfl, WdR.pre hP hK hD hN hU hW⟩)⟩ rfl rfl hl.1 rfl (lv_room (Nat.le_of_ble_eq_true rfl)) dX9_sheet_9 ⟨le_R hRc (Nat.le_refl 0), le_R hRs (Nat.le_refl 0)⟩) hS (fun r22 σ21 H locs hr1 hP hD hS => ?_)
    have hv := hv r22 σ21 hr1
    rw [hZ]; rw [hQ] at hv
    exact W.iret (v := r22) hx hb hr (fun t ht hW => ⟨⟨r22, σ21, rfl, hv, ⟨P_of ht hP, hD⟩⟩, hS.F ht⟩) hS.2.2 dX9_sheet_12
set_option maxHeartbeats 4000000 in
set_option maxRecDepth 100000 in
theorem wk_X9_lose (l : Launch) (h_X9_noSheet : Ct_X9_noSheet l) (sp : ∀ (k_ : Int32) (ag : AS) (σ0 : S_), pre_X9_lose k_ ag σ0 → vc_X9_lose k_ σ0 (post_X9_lose k_ ag σ0)) : Ct_X9_lose l := by
  intro D cy ad A k_ ag σ0  hpre
  refine Met.ofW (cc := cX9_lose) (maxL := 3) (ret := (some .int)) (by decide) rfl ?_
  intro p e s m args below meth c s₁ B hml hv0
  obtain ⟨rfl, hP, hK, hD, hN⟩ := hv0
  have hx := B.exec
  have hb := B.bytes
  have hr := B.returns
  have hts := atoms_spec (ws := wsX9_lose) B.pre
  have hown : s.vm.findClass RX9 = some m.cls := findClass_of_methodNamed B.named
  have hlocks := B.notSynchronized
  have hv := sp k_ ag σ0 hpre
  have hl := lv_entry ([.ref (ad 0), .int k_]) (n := 3) (Nat.le_of_ble_eq_true rfl)
  rw [lg_entry_eq]
  generalize (lg_sl ([.ref (ad 0), .int k_]) ++ List.replicate (3 - (lg_sl ([.ref (ad 0), .int k_])).length) Slot.unset).toArray = ls at hl ⊢
  have hl : lv_has ls 3 [(0, .ref (ad 0)), (1, .int k_)] := hl
  refine W_gen (fun R Z H locs hR hZ hH hlo => ?_)
  have hRf : R.frames = 2 := by rw [hR]; rfl
  have hRl : R.locals = 45 := by rw [hR]; rfl
  have hRc : R.cells = 0 := by rw [hR]; rfl
  have hRs : R.slots = 0 := by rw [hR]; rfl
  have hS : va_S A s.heap H locs := by rw [hH, hlo]; exact va_S.rf
  rw [← hH] at hP
  obtain ⟨Q, hQ⟩ : ∃ q : Int32 → S_ → Prop, q = (post_X9_lose k_ ag σ0) := ⟨_, rfl⟩
  rw [← hQ] at hv
  have hinX9 : ∀ w ∈ wsX90, w ∈ wsX9_lose := by decide +kernel
  refine lv_iload_n hx hb dX9_lose_0 rfl (lv_at hl 1 rfl) ?_
  refine k_pure_i (va_runS (As := [.int k_]) (rest := []) ⟨hx, hb, hml, hown, hts⟩ (h_X9_noSheet k_) (va_cwS 1 hts gX9_lose_X9_noSheet rfl rfl rfl (by decide +kernel) ⟨le_R hRf (Nat.le_of_ble_eq_true rfl), le_R hRl (Nat.le_of_ble_eq_true rfl)⟩) ⟨(fun a U g mk q => ⟨q.1, trivial⟩), (fun U hU hW => ⟨rfl, trivial⟩)⟩ rfl rfl hl.1 rfl (lv_room (Nat.le_of_ble_eq_true rfl)) dX9_lose_1 ⟨le_R hRc (Nat.le_refl 0), le_R hRs (Nat.le_refl 0)⟩) hS hP (fun r H locs hr1 hP hS => ?_)
  subst hr1
  refine lv_if_eq (tgt := 9) hx hb dX9_lose_4 (by decide) (fun c7 => ?_) (fun c7 => ?_)
  · have hv := hv.1 c7
    refine lv_aload_n hx hb dX9_lose_9 rfl (lv_at hl 0 rfl) ?_
    refine va_get (ci := 9) (v := .ref (ad (24))) (C := RX9) (T := TX9) (N := 38) hx hb hts hinX9 hown hK hP 0 (wR_0 cy ad σ0) rfl 33 (by decide) (hts (.fieldLink RX9 80 "TaleBansModel" "sheetSize" "[I") (List.mem_of_getElem? (i := 1) rfl)) (fun x h => h) rfl dX9_lose_10 ?_
    refine lv_iload_n hx hb dX9_lose_13 rfl (lv_at hl 1 rfl) ?_
    obtain ⟨hi, hv⟩ := hv
    refine va_iald hx hb hK hP 24 0 (wR_24 cy ad σ0) rfl hi dX9_lose_14 ?_
    obtain ⟨P1, hv, hvr⟩ := hv
    have jn2 : ∀ (b3 : Int32) (H : Heap) (locs : List Loc) (ls : Array Slot), P1 b3 → va_P D vwCl (wR cy ad σ0) H → va_S A s.heap H locs → lv_has ls 3 [(0, .ref (ad 0)), (1, .int k_)] → W p l e R s m ([.ref (ad 0), .int k_] : List Value).toArray below meth c H locs 0 0 Z (F0 m 23 ls [.int b3]) := by
      intro b3 H locs ls hv hP hS hl
      have hv := hvr b3 hv
      refine lv_istore_n (lv' := [(2, .int b3), (0, .ref (ad 0)), (1, .int k_)]) hx hb dX9_lose_23 rfl hl (by decide) rfl (fun ls hl => ?_)
      refine lv_aload_n hx hb dX9_lose_24 rfl (lv_at hl 1 rfl) ?_
      refine va_get (ci := 9) (v := .ref (ad (24))) (C := RX9) (T := TX9) (N := 38) hx hb hts hinX9 hown hK hP 0 (wR_0 cy ad σ0) rfl 33 (by decide) (hts (.fieldLink RX9 80 "TaleBansModel" "sheetSize" "[I") (List.mem_of_getElem? (i := 1) rfl)) (fun x h => h) rfl dX9_lose_25 ?_
      refine lv_iload_n hx hb dX9_lose_28 rfl (lv_at hl 2 rfl) ?_
      refine lv_iconst (v := (-1)) hx hb dX9_lose_29 (by decide) ?_
      obtain ⟨hi, hv⟩ := hv
      refine va_iast hx hb hK hP hD hS 24 0 (wR_24 cy ad σ0) rfl hi dX9_lose_30 (fun H locs hP hD hS => ?_)
      obtain ⟨σ5, e6⟩ : ∃ y : S_, y = wr2 σ0 24 (Int32.toNatClampNeg k_) (-1) := ⟨_, rfl⟩
      have hP : va_P D vwCl (wR cy ad σ5) H := by rw [e6]; exact hP
      have hD : va_D A (wR cy ad σ5) := by rw [e6]; exact hD
      have hv := hv σ5 e6
      refine lv_iload_n hx hb dX9_lose_31 rfl (lv_at hl 0 rfl) ?_
      rw [hZ]; rw [hQ] at hv
      exact W.iret (v := b3) hx hb hr (fun t ht hW => ⟨⟨b3, σ5, rfl, hv, ⟨P_of ht hP, hD⟩⟩, hS.F ht⟩) hS.2.2 dX9_lose_32
    refine lv_if_ge (tgt := 22) hx hb dX9_lose_15 (by decide) (fun c4 => ?_) (fun c4 => ?_)
    · have hv := hv.1 c4
      refine lv_iconst (v := 1) hx hb dX9_lose_22 (by decide) ?_
      exact jn2 1 _ _ _ hv hP hS hl
    · have hv := hv.2 c4
      refine lv_iconst (v := 0) hx hb dX9_lose_18 (by decide) ?_
      refine lv_goto (tgt := 23) hx hb dX9_lose_19 (by decide) ?_
      exact jn2 0 _ _ _ hv hP hS hl
  · have hv := hv.2 c7
    refine lv_iconst (v := (-1)) hx hb dX9_lose_7 (by decide) ?_
    rw [hZ]; rw [hQ] at hv
    exact W.iret (v := (-1)) hx hb hr (fun t ht hW => ⟨⟨(-1), σ0, rfl, hv, ⟨P_of ht hP, hD⟩⟩, hS.F ht⟩) hS.2.2 dX9_lose_8
set_option maxHeartbeats 4000000 in
set_option maxRecDepth 100000 in
theorem wk_X9_put (l : Launch) (h_X9_failed : Ct_X9_failed l) (h_X9_noCell : Ct_X9_noCell l) (h_X9_noSheet : Ct_X9_noSheet l) (h_X9_refused : Ct_X9_refused l) (sp : ∀ (k_ : Int32) (i_ : Int32) (v_ : Int32) (ag : AS) (σ0 : S_), pre_X9_put k_ i_ v_ ag σ0 → vc_X9_put k_ i_ v_ σ0 (post_X9_put k_ i_ v_ ag σ0)) : Ct_X9_put l := by
  intro D cy ad A k_ i_ v_ ag σ0  hpre
  refine Met.ofW (cc := cX9_put) (maxL := 4) (ret := (some .int)) (by decide) rfl ?_
  intro p e s m args below meth c s₁ B hml hv0
  obtain ⟨rfl, hP, hK, hD, hN⟩ := hv0
  have hx := B.exec
  have hb := B.bytes
  have hr := B.returns
  have hts := atoms_spec (ws := wsX9_put) B.pre
  have hown : s.vm.findClass RX9 = some m.cls := findClass_of_methodNamed B.named
  have hlocks := B.notSynchronized
  have hv := sp k_ i_ v_ ag σ0 hpre
  have hl := lv_entry ([.ref (ad 0), .int k_, .int i_, .int v_]) (n := 4) (Nat.le_of_ble_eq_true rfl)
  rw [lg_entry_eq]
  generalize (lg_sl ([.ref (ad 0), .int k_, .int i_, .int v_]) ++ List.replicate (4 - (lg_sl ([.ref (ad 0), .int k_, .int i_, .int v_])).length) Slot.unset).toArray = ls at hl ⊢
  have hl : lv_has ls 4 [(0, .ref (ad 0)), (1, .int k_), (2, .int i_), (3, .int v_)] := hl
  refine W_gen (fun R Z H locs hR hZ hH hlo => ?_)
  have hRf : R.frames = 2 := by rw [hR]; rfl
  have hRl : R.locals = 47 := by rw [hR]; rfl
  have hRc : R.cells = 0 := by rw [hR]; rfl
  have hRs : R.slots = 0 := by rw [hR]; rfl
  have hS : va_S A s.heap H locs := by rw [hH, hlo]; exact va_S.rf
  rw [← hH] at hP
  obtain ⟨Q, hQ⟩ : ∃ q : Int32 → S_ → Prop, q = (post_X9_put k_ i_ v_ ag σ0) := ⟨_, rfl⟩
  rw [← hQ] at hv
  have hinX9 : ∀ w ∈ wsX90, w ∈ wsX9_put := by decide +kernel
  refine lv_iload_n hx hb dX9_put_0 rfl (lv_at hl 1 rfl) ?_
  refine k_pure_i (va_runS (As := [.int k_]) (rest := []) ⟨hx, hb, hml, hown, hts⟩ (h_X9_noSheet k_) (va_cwS 1 hts gX9_put_X9_noSheet rfl rfl rfl (by decide +kernel) ⟨le_R hRf (Nat.le_of_ble_eq_true rfl), le_R hRl (Nat.le_of_ble_eq_true rfl)⟩) ⟨(fun a U g mk q => ⟨q.1, trivial⟩), (fun U hU hW => ⟨rfl, trivial⟩)⟩ rfl rfl hl.1 rfl (lv_room (Nat.le_of_ble_eq_true rfl)) dX9_put_1 ⟨le_R hRc (Nat.le_refl 0), le_R hRs (Nat.le_refl 0)⟩) hS hP (fun r H locs hr1 hP hS => ?_)
  subst hr1
  refine lv_if_eq (tgt := 13) hx hb dX9_put_4 (by decide) (fun c15 => ?_) (fun c15 => ?_)
  · have hv := hv.1 c15
    refine lv_aload_n hx hb dX9_put_13 rfl (lv_at hl 0 rfl) ?_
    refine lv_iload_n hx hb dX9_put_14 rfl (lv_at hl 1 rfl) ?_
    refine lv_iload_n hx hb dX9_put_15 rfl (lv_at hl 2 rfl) ?_
    obtain ⟨hp, hv⟩ := hv
    refine k_read_i (w := wR cy ad) (va_runV (As := [.int k_, .int i_]) (rest := []) ⟨hx, hb, hml, hown, hts⟩ (h_X9_noCell D cy ad A k_ i_ σ0 hp) (cwV 2 hts gX9_put_X9_noCell rfl rfl rfl (by decide +kernel) ⟨le_R hRf (Nat.le_of_ble_eq_true rfl), le_R hRl (Nat.le_of_ble_eq_true rfl)⟩) ⟨(fun a U g mk q => ⟨q.1, q.2.blind⟩), va_recv hK hP (ci := 9) (q0 := 0) rfl (wR_0 cy ad σ0), (fun U hU hW => ⟨rfl, WdR.pre hP hK hD hN hU hW⟩)⟩ rfl rfl hl.1 rfl (lv_room (Nat.le_of_ble_eq_true rfl)) dX9_put_16 ⟨le_R hRc (Nat.le_refl 0), le_R hRs (Nat.le_refl 0)⟩) hS (fun r H locs hr1 hP hS => ?_)
    subst hr1
    refine lv_if_le (tgt := 33) hx hb dX9_put_19 (by decide) (fun c12 => ?_) (fun c12 => ?_)
    · have hv := hv.1 c12
      refine lv_aload_n hx hb dX9_put_33 rfl (lv_at hl 0 rfl) ?_
      refine va_get (ci := 9) (v := .ref (ad (26))) (C := RX9) (T := TX9) (N := 38) hx hb hts hinX9 hown hK hP 0 (wR_0 cy ad σ0) rfl 35 (by decide) (hts (.fieldLink RX9 86 "TaleBansModel" "sheet" "[I") (List.mem_of_getElem? (i := 1) rfl)) (fun x h => h) rfl dX9_put_34 ?_
      refine lv_bipush (v := 60) hx hb dX9_put_37 (by decide) ?_
      refine lv_iload_n hx hb dX9_put_39 rfl (lv_at hl 1 rfl) ?_
      refine lv_imul hx hb dX9_put_40 ?_
      refine lv_iload_n hx hb dX9_put_41 rfl (lv_at hl 2 rfl) ?_
      refine lv_iadd hx hb dX9_put_42 ?_
      refine lv_aload_n hx hb dX9_put_43 rfl (lv_at hl 0 rfl) ?_
      refine va_get (ci := 9) (v := .ref (ad (25))) (C := RX9) (T := TX9) (N := 38) hx hb hts hinX9 hown hK hP 0 (wR_0 cy ad σ0) rfl 34 (by decide) (hts (.fieldLink RX9 83 "TaleBansModel" "sheetLane" "[I") (List.mem_of_getElem? (i := 2) rfl)) (fun x h => h) rfl dX9_put_44 ?_
      refine lv_iload_n hx hb dX9_put_47 rfl (lv_at hl 1 rfl) ?_
      obtain ⟨hi, hv⟩ := hv
      refine va_iald hx hb hK hP 25 0 (wR_25 cy ad σ0) rfl hi dX9_put_48 ?_
      obtain ⟨P1, hv, hvr⟩ := hv
      have jn2 : ∀ (b3 : Int32) (H : Heap) (locs : List Loc) (ls : Array Slot), P1 b3 → va_P D vwCl (wR cy ad σ0) H → va_S A s.heap H locs → lv_has ls 4 [(0, .ref (ad 0)), (1, .int k_), (2, .int i_), (3, .int v_)] → W p l e R s m ([.ref (ad 0), .int k_, .int i_, .int v_] : List Value).toArray below meth c H locs 0 0 Z (F0 m 73 ls [.int b3, .int ((60 * k_) + i_), .ref (ad (26))]) := by
        intro b3 H locs ls hv hP hS hl
        have hv := hvr b3 hv
        obtain ⟨hi, hv⟩ := hv
        refine va_iast hx hb hK hP hD hS 26 0 (wR_26 cy ad σ0) rfl hi dX9_put_73 (fun H locs hP hD hS => ?_)
        obtain ⟨σ6, e7⟩ : ∃ y : S_, y = wr2 σ0 26 (Int32.toNatClampNeg ((60 * k_) + i_)) b3 := ⟨_, rfl⟩
        have hP : va_P D vwCl (wR cy ad σ6) H := by rw [e7]; exact hP
        have hD : va_D A (wR cy ad σ6) := by rw [e7]; exact hD
        have hv := hv σ6 e7
        refine lv_aload_n hx hb dX9_put_74 rfl (lv_at hl 0 rfl) ?_
        refine lv_iconst (v := 1) hx hb dX9_put_75 (by decide) ?_
        have hp := True.intro
        refine k_rel_i (w := wR cy ad) (va_runV (As := [.int 1]) (rest := []) ⟨hx, hb, hml, hown, hts⟩ (h_X9_refused D cy ad A 1 σ6 hp) (cwV 1 hts gX9_put_X9_refused rfl rfl rfl (by decide +kernel) ⟨le_R hRf (Nat.le_of_ble_eq_true rfl), le_R hRl (Nat.le_of_ble_eq_true rfl)⟩) ⟨(fun a U g mk q => ⟨q.1, q.2.blind⟩), va_recv hK hP (ci := 9) (q0 := 0) rfl (wR_0 cy ad σ6), (fun U hU hW => ⟨rfl, WdR.pre hP hK hD hN hU hW⟩)⟩ rfl rfl hl.1 rfl (lv_room (Nat.le_of_ble_eq_true rfl)) dX9_put_76 ⟨le_R hRc (Nat.le_refl 0), le_R hRs (Nat.le_refl 0)⟩) hS (fun r9 σ8 H locs hr1 hP hD hS => ?_)
        have hv := hv r9 σ8 hr1
        rw [hZ]; rw [hQ] at hv
        exact W.iret (v := r9) hx hb hr (fun t ht hW => ⟨⟨r9, σ8, rfl, hv, ⟨P_of ht hP, hD⟩⟩, hS.F ht⟩) hS.2.2 dX9_put_79
      refine lv_if_ne (tgt := 57) hx hb dX9_put_49 (by decide) (fun c5 => ?_) (fun c5 => ?_)
      · have hv := hv.1 c5
        refine lv_aload_n hx hb dX9_put_57 rfl (lv_at hl 0 rfl) ?_
        refine va_get (ci := 9) (v := .ref (ad (25))) (C := RX9) (T := TX9) (N := 38) hx hb hts hinX9 hown hK hP 0 (wR_0 cy ad σ0) rfl 34 (by decide) (hts (.fieldLink RX9 83 "TaleBansModel" "sheetLane" "[I") (List.mem_of_getElem? (i := 2) rfl)) (fun x h => h) rfl dX9_put_58 ?_
        refine lv_iload_n hx hb dX9_put_61 rfl (lv_at hl 1 rfl) ?_
        obtain ⟨hi, hv⟩ := hv
        refine va_iald hx hb hK hP 25 0 (wR_25 cy ad σ0) rfl hi dX9_put_62 ?_
        refine lv_iconst (v := 1) hx hb dX9_put_63 (by decide) ?_
        refine lv_icmp_ne (tgt := 72) hx hb dX9_put_64 (by decide) (fun c4 => ?_) (fun c4 => ?_)
        · have hv := hv.1 c4
          refine lv_iload_n hx hb dX9_put_72 rfl (lv_at hl 3 rfl) ?_
          exact jn2 v_ _ _ _ hv hP hS hl
        · have hv := hv.2 c4
          refine lv_iload_n hx hb dX9_put_67 rfl (lv_at hl 3 rfl) ?_
          refine lv_i2s hx hb dX9_put_68 rfl ?_
          refine lv_goto (tgt := 73) hx hb dX9_put_69 (by decide) ?_
          exact jn2 (Int16.toInt32 (Int32.toInt16 v_)) _ _ _ hv hP hS hl
      · have hv := hv.2 c5
        refine lv_iload_n hx hb dX9_put_52 rfl (lv_at hl 3 rfl) ?_
        refine lv_i2b hx hb dX9_put_53 rfl ?_
        refine lv_goto (tgt := 73) hx hb dX9_put_54 (by decide) ?_
        exact jn2 (Int8.toInt32 (Int32.toInt8 v_)) _ _ _ hv hP hS hl
    · have hv := hv.2 c12
      refine lv_aload_n hx hb dX9_put_22 rfl (lv_at hl 0 rfl) ?_
      refine lv_aload_n hx hb dX9_put_23 rfl (lv_at hl 0 rfl) ?_
      refine lv_iload_n hx hb dX9_put_24 rfl (lv_at hl 1 rfl) ?_
      refine lv_iload_n hx hb dX9_put_25 rfl (lv_at hl 2 rfl) ?_
      obtain ⟨hp, hv⟩ := hv
      refine k_read_i (w := wR cy ad) (va_runV (As := [.int k_, .int i_]) (rest := [.ref (ad 0)]) ⟨hx, hb, hml, hown, hts⟩ (h_X9_noCell D cy ad A k_ i_ σ0 hp) (cwV 2 hts gX9_put_X9_noCell rfl rfl rfl (by decide +kernel) ⟨le_R hRf (Nat.le_of_ble_eq_true rfl), le_R hRl (Nat.le_of_ble_eq_true rfl)⟩) ⟨(fun a U g mk q => ⟨q.1, q.2.blind⟩), va_recv hK hP (ci := 9) (q0 := 0) rfl (wR_0 cy ad σ0), (fun U hU hW => ⟨rfl, WdR.pre hP hK hD hN hU hW⟩)⟩ rfl rfl hl.1 rfl (lv_room (Nat.le_of_ble_eq_true rfl)) dX9_put_26 ⟨le_R hRc (Nat.le_refl 0), le_R hRs (Nat.le_refl 0)⟩) hS (fun r H locs hr1 hP hS => ?_)
      subst hr1
      have hp := True.intro
      refine k_rel_i (w := wR cy ad) (va_runV (As := [.int (fn_X9_noCell k_ i_ σ0)]) (rest := []) ⟨hx, hb, hml, hown, hts⟩ (h_X9_failed D cy ad A (fn_X9_noCell k_ i_ σ0) σ0 hp) (cwV 1 hts gX9_put_X9_failed rfl rfl rfl (by decide +kernel) ⟨le_R hRf (Nat.le_of_ble_eq_true rfl), le_R hRl (Nat.le_of_ble_eq_true rfl)⟩) ⟨(fun a U g mk q => ⟨q.1, q.2.blind⟩), va_recv hK hP (ci := 9) (q0 := 0) rfl (wR_0 cy ad σ0), (fun U hU hW => ⟨rfl, WdR.pre hP hK hD hN hU hW⟩)⟩ rfl rfl hl.1 rfl (lv_room (Nat.le_of_ble_eq_true rfl)) dX9_put_29 ⟨le_R hRc (Nat.le_refl 0), le_R hRs (Nat.le_refl 0)⟩) hS (fun r11 σ10 H locs hr1 hP hD hS => ?_)
      have hv := hv r11 σ10 hr1
      rw [hZ]; rw [hQ] at hv
      exact W.iret (v := r11) hx hb hr (fun t ht hW => ⟨⟨r11, σ10, rfl, hv, ⟨P_of ht hP, hD⟩⟩, hS.F ht⟩) hS.2.2 dX9_put_32
  · have hv := hv.2 c15
    refine lv_aload_n hx hb dX9_put_7 rfl (lv_at hl 0 rfl) ?_
    refine lv_iconst (v := (-1)) hx hb dX9_put_8 (by decide) ?_
    have hp := True.intro
    refine k_rel_i (w := wR cy ad) (va_runV (As := [.int (-1)]) (rest := []) ⟨hx, hb, hml, hown, hts⟩ (h_X9_refused D cy ad A (-1) σ0 hp) (cwV 1 hts gX9_put_X9_refused rfl rfl rfl (by decide +kernel) ⟨le_R hRf (Nat.le_of_ble_eq_true rfl), le_R hRl (Nat.le_of_ble_eq_true rfl)⟩) ⟨(fun a U g mk q => ⟨q.1, q.2.blind⟩), va_recv hK hP (ci := 9) (q0 := 0) rfl (wR_0 cy ad σ0), (fun U hU hW => ⟨rfl, WdR.pre hP hK hD hN hU hW⟩)⟩ rfl rfl hl.1 rfl (lv_room (Nat.le_of_ble_eq_true rfl)) dX9_put_9 ⟨le_R hRc (Nat.le_refl 0), le_R hRs (Nat.le_refl 0)⟩) hS (fun r14 σ13 H locs hr1 hP hD hS => ?_)
    have hv := hv r14 σ13 hr1
    rw [hZ]; rw [hQ] at hv
    exact W.iret (v := r14) hx hb hr (fun t ht hW => ⟨⟨r14, σ13, rfl, hv, ⟨P_of ht hP, hD⟩⟩, hS.F ht⟩) hS.2.2 dX9_put_12
set_option maxHeartbeats 4000000 in
set_option maxRecDepth 100000 in
theorem wk_X9_cell (l : Launch) (h_X9_failedLong : Ct_X9_failedLong l) (h_X9_in : Ct_X9_in l) (h_X9_lost : Ct_X9_lost l) (h_X9_noCell : Ct_X9_noCell l) (h_X9_noSheet : Ct_X9_noSheet l) (sp : ∀ (k_ : Int32) (i_ : Int32) (lane_ : Int32) (ag : AS) (σ0 : S_), pre_X9_cell k_ i_ lane_ ag σ0 → vc_X9_cell k_ i_ lane_ σ0 (post_X9_cell k_ i_ lane_ ag σ0)) : Ct_X9_cell l := by
  intro D cy ad A k_ i_ lane_ ag σ0  hpre
  refine Met.ofW (cc := cX9_cell) (maxL := 4) (ret := (some .long)) (by decide) rfl ?_
  intro p e s m args below meth c s₁ B hml hv0
  obtain ⟨rfl, hP, hK, hD, hN⟩ := hv0
  have hx := B.exec
  have hb := B.bytes
  have hr := B.returns
  have hts := atoms_spec (ws := wsX9_cell) B.pre
  have hown : s.vm.findClass RX9 = some m.cls := findClass_of_methodNamed B.named
  have hlocks := B.notSynchronized
  have hv := sp k_ i_ lane_ ag σ0 hpre
  have hl := lv_entry ([.ref (ad 0), .int k_, .int i_, .int lane_]) (n := 4) (Nat.le_of_ble_eq_true rfl)
  rw [lg_entry_eq]
  generalize (lg_sl ([.ref (ad 0), .int k_, .int i_, .int lane_]) ++ List.replicate (4 - (lg_sl ([.ref (ad 0), .int k_, .int i_, .int lane_])).length) Slot.unset).toArray = ls at hl ⊢
  have hl : lv_has ls 4 [(0, .ref (ad 0)), (1, .int k_), (2, .int i_), (3, .int lane_)] := hl
  refine W_gen (fun R Z H locs hR hZ hH hlo => ?_)
  have hRf : R.frames = 2 := by rw [hR]; rfl
  have hRl : R.locals = 47 := by rw [hR]; rfl
  have hRc : R.cells = 0 := by rw [hR]; rfl
  have hRs : R.slots = 0 := by rw [hR]; rfl
  have hS : va_S A s.heap H locs := by rw [hH, hlo]; exact va_S.rf
  rw [← hH] at hP
  obtain ⟨Q, hQ⟩ : ∃ q : Int64 → S_ → Prop, q = (post_X9_cell k_ i_ lane_ ag σ0) := ⟨_, rfl⟩
  rw [← hQ] at hv
  have hinX9 : ∀ w ∈ wsX90, w ∈ wsX9_cell := by decide +kernel
  refine lv_aload_n hx hb dX9_cell_0 rfl (lv_at hl 0 rfl) ?_
  refine lv_iconst (v := 0) hx hb dX9_cell_1 (by decide) ?_
  refine va_put (ci := 9) (v := .int 0) (ty := .int) (C := RX9) (T := TX9) (N := 38) hx hb hts hinX9 tyX9 tyX9_ok nmX9 hown hK hP hD hS 0 (wR_0 cy ad σ0) rfl 0 (by decide) (hts (.fieldLink RX9 94 "TaleBansModel" "fault" "I") (List.mem_of_getElem? (i := 1) rfl)) (fun x h => h) rfl (by decide +kernel) rfl rfl (Nat.le_of_ble_eq_true rfl) dX9_cell_2 (fun H locs hP hD hS => ?_)
  obtain ⟨σ1, e2⟩ : ∃ y : S_, y = wrI σ0 0 0 := ⟨_, rfl⟩
  have hP : va_P D vwCl (wR cy ad σ1) H := by rw [e2]; exact hP
  have hD : va_D A (wR cy ad σ1) := by rw [e2]; exact hD
  have hv := hv σ1 e2
  refine lv_iload_n hx hb dX9_cell_5 rfl (lv_at hl 1 rfl) ?_
  refine k_pure_i (va_runS (As := [.int k_]) (rest := []) ⟨hx, hb, hml, hown, hts⟩ (h_X9_noSheet k_) (va_cwS 1 hts gX9_cell_X9_noSheet rfl rfl rfl (by decide +kernel) ⟨le_R hRf (Nat.le_of_ble_eq_true rfl), le_R hRl (Nat.le_of_ble_eq_true rfl)⟩) ⟨(fun a U g mk q => ⟨q.1, trivial⟩), (fun U hU hW => ⟨rfl, trivial⟩)⟩ rfl rfl hl.1 rfl (lv_room (Nat.le_of_ble_eq_true rfl)) dX9_cell_6 ⟨le_R hRc (Nat.le_refl 0), le_R hRs (Nat.le_refl 0)⟩) hS hP (fun r H locs hr1 hP hS => ?_)
  subst hr1
  refine lv_if_ne (tgt := 24) hx hb dX9_cell_9 (by decide) (fun c14 => ?_) (fun c14 => ?_)
  · have hv := hv.1 c14
    refine k_pure_l (va_runS (As := []) (rest := []) ⟨hx, hb, hml, hown, hts⟩ (h_X9_lost ) (va_cwS 0 hts gX9_cell_X9_lost rfl rfl rfl (by decide +kernel) ⟨le_R hRf (Nat.le_of_ble_eq_true rfl), le_R hRl (Nat.le_of_ble_eq_true rfl)⟩) ⟨(fun a U g mk q => ⟨q.1, trivial⟩), (fun U hU hW => ⟨rfl, trivial⟩)⟩ rfl rfl hl.1 rfl (lv_room (Nat.le_of_ble_eq_true rfl)) dX9_cell_24 ⟨le_R hRc (Nat.le_refl 0), le_R hRs (Nat.le_refl 0)⟩) hS hP (fun r H locs hr1 hP hS => ?_)
    subst hr1
    rw [hZ]; rw [hQ] at hv
    exact W.lret (v := fn_X9_lost) hx hb hr (fun t ht hW => ⟨⟨fn_X9_lost, σ1, rfl, hv, ⟨P_of ht hP, hD⟩⟩, hS.F ht⟩) hS.2.2 dX9_cell_27
  · have hv := hv.2 c14
    refine lv_iload_n hx hb dX9_cell_12 rfl (lv_at hl 3 rfl) ?_
    refine lv_i2l hx hb dX9_cell_13 rfl ?_
    refine lv_lconst (v := 0) hx hb dX9_cell_14 rfl ?_
    refine lv_ldc2 (v := (2)) hx hb hown (hts (.constantLong RX9 114 (2)) (List.mem_of_getElem? (i := 2) rfl)) dX9_cell_15 ?_
    refine k_pure_i (va_runS (As := [.long (Int32.toInt64 lane_), .long 0, .long (2)]) (rest := []) ⟨hx, hb, hml, hown, hts⟩ (h_X9_in (Int32.toInt64 lane_) 0 (2)) (va_cwS 3 hts gX9_cell_X9_in rfl rfl rfl (by decide +kernel) ⟨le_R hRf (Nat.le_of_ble_eq_true rfl), le_R hRl (Nat.le_of_ble_eq_true rfl)⟩) ⟨(fun a U g mk q => ⟨q.1, trivial⟩), (fun U hU hW => ⟨rfl, trivial⟩)⟩ rfl rfl hl.1 rfl (lv_room (Nat.le_of_ble_eq_true rfl)) dX9_cell_18 ⟨le_R hRc (Nat.le_refl 0), le_R hRs (Nat.le_refl 0)⟩) hS hP (fun r H locs hr1 hP hS => ?_)
    subst hr1
    refine lv_if_ne (tgt := 28) hx hb dX9_cell_21 (by decide) (fun c13 => ?_) (fun c13 => ?_)
    · have hv := hv.1 c13
      refine lv_aload_n hx hb dX9_cell_28 rfl (lv_at hl 0 rfl) ?_
      refine va_get (ci := 9) (v := .ref (ad (24))) (C := RX9) (T := TX9) (N := 38) hx hb hts hinX9 hown hK hP 0 (wR_0 cy ad σ1) rfl 33 (by decide) (hts (.fieldLink RX9 80 "TaleBansModel" "sheetSize" "[I") (List.mem_of_getElem? (i := 3) rfl)) (fun x h => h) rfl dX9_cell_29 ?_
      refine lv_iload_n hx hb dX9_cell_32 rfl (lv_at hl 1 rfl) ?_
      obtain ⟨hi, hv⟩ := hv
      refine va_iald hx hb hK hP 24 0 (wR_24 cy ad σ1) rfl hi dX9_cell_33 ?_
      refine lv_if_lt (tgt := 53) hx hb dX9_cell_34 (by decide) (fun c12 => ?_) (fun c12 => ?_)
      · have hv := hv.1 c12
        refine lv_aload_n hx hb dX9_cell_53 rfl (lv_at hl 0 rfl) ?_
        refine lv_iload_n hx hb dX9_cell_54 rfl (lv_at hl 1 rfl) ?_
        refine lv_iload_n hx hb dX9_cell_55 rfl (lv_at hl 2 rfl) ?_
        obtain ⟨hp, hv⟩ := hv
        refine k_read_i (w := wR cy ad) (va_runV (As := [.int k_, .int i_]) (rest := []) ⟨hx, hb, hml, hown, hts⟩ (h_X9_noCell D cy ad A k_ i_ σ1 hp) (cwV 2 hts gX9_cell_X9_noCell rfl rfl rfl (by decide +kernel) ⟨le_R hRf (Nat.le_of_ble_eq_true rfl), le_R hRl (Nat.le_of_ble_eq_true rfl)⟩) ⟨(fun a U g mk q => ⟨q.1, q.2.blind⟩), va_recv hK hP (ci := 9) (q0 := 0) rfl (wR_0 cy ad σ1), (fun U hU hW => ⟨rfl, WdR.pre hP hK hD hN hU hW⟩)⟩ rfl rfl hl.1 rfl (lv_room (Nat.le_of_ble_eq_true rfl)) dX9_cell_56 ⟨le_R hRc (Nat.le_refl 0), le_R hRs (Nat.le_refl 0)⟩) hS (fun r H locs hr1 hP hS => ?_)
        subst hr1
        refine lv_if_le (tgt := 75) hx hb dX9_cell_59 (by decide) (fun c5 => ?_) (fun c5 => ?_)
        · have hv := hv.1 c5
          refine lv_aload_n hx hb dX9_cell_75 rfl (lv_at hl 0 rfl) ?_
          refine va_get (ci := 9) (v := .ref (ad (26))) (C := RX9) (T := TX9) (N := 38) hx hb hts hinX9 hown hK hP 0 (wR_0 cy ad σ1) rfl 35 (by decide) (hts (.fieldLink RX9 86 "TaleBansModel" "sheet" "[I") (List.mem_of_getElem? (i := 5) rfl)) (fun x h => h) rfl dX9_cell_76 ?_
          refine lv_bipush (v := 60) hx hb dX9_cell_79 (by decide) ?_
          refine lv_iload_n hx hb dX9_cell_81 rfl (lv_at hl 1 rfl) ?_
          refine lv_imul hx hb dX9_cell_82 ?_
          refine lv_iload_n hx hb dX9_cell_83 rfl (lv_at hl 2 rfl) ?_
          refine lv_iadd hx hb dX9_cell_84 ?_
          obtain ⟨hi, hv⟩ := hv
          refine va_iald hx hb hK hP 26 0 (wR_26 cy ad σ1) rfl hi dX9_cell_85 ?_
          refine lv_i2l hx hb dX9_cell_86 rfl ?_
          rw [hZ]; rw [hQ] at hv
          exact W.lret (v := (Int32.toInt64 (rdA σ1 26 (Int32.toNatClampNeg ((60 * k_) + i_))))) hx hb hr (fun t ht hW => ⟨⟨(Int32.toInt64 (rdA σ1 26 (Int32.toNatClampNeg ((60 * k_) + i_)))), σ1, rfl, hv, ⟨P_of ht hP, hD⟩⟩, hS.F ht⟩) hS.2.2 dX9_cell_87
        · have hv := hv.2 c5
          refine lv_aload_n hx hb dX9_cell_62 rfl (lv_at hl 0 rfl) ?_
          refine lv_aload_n hx hb dX9_cell_63 rfl (lv_at hl 0 rfl) ?_
          refine lv_iload_n hx hb dX9_cell_64 rfl (lv_at hl 1 rfl) ?_
          refine lv_iload_n hx hb dX9_cell_65 rfl (lv_at hl 2 rfl) ?_
          obtain ⟨hp, hv⟩ := hv
          refine k_read_i (w := wR cy ad) (va_runV (As := [.int k_, .int i_]) (rest := [.ref (ad 0)]) ⟨hx, hb, hml, hown, hts⟩ (h_X9_noCell D cy ad A k_ i_ σ1 hp) (cwV 2 hts gX9_cell_X9_noCell rfl rfl rfl (by decide +kernel) ⟨le_R hRf (Nat.le_of_ble_eq_true rfl), le_R hRl (Nat.le_of_ble_eq_true rfl)⟩) ⟨(fun a U g mk q => ⟨q.1, q.2.blind⟩), va_recv hK hP (ci := 9) (q0 := 0) rfl (wR_0 cy ad σ1), (fun U hU hW => ⟨rfl, WdR.pre hP hK hD hN hU hW⟩)⟩ rfl rfl hl.1 rfl (lv_room (Nat.le_of_ble_eq_true rfl)) dX9_cell_66 ⟨le_R hRc (Nat.le_refl 0), le_R hRs (Nat.le_refl 0)⟩) hS (fun r H locs hr1 hP hS => ?_)
          subst hr1
          have hp := True.intro
          refine k_rel_l (w := wR cy ad) (va_runV (As := [.int (fn_X9_noCell k_ i_ σ1)]) (rest := []) ⟨hx, hb, hml, hown, hts⟩ (h_X9_failedLong D cy ad A (fn_X9_noCell k_ i_ σ1) σ1 hp) (cwV 1 hts gX9_cell_X9_failedLong rfl rfl rfl (by decide +kernel) ⟨le_R hRf (Nat.le_of_ble_eq_true rfl), le_R hRl (Nat.le_of_ble_eq_true rfl)⟩) ⟨(fun a U g mk q => ⟨q.1, q.2.blind⟩), va_recv hK hP (ci := 9) (q0 := 0) rfl (wR_0 cy ad σ1), (fun U hU hW => ⟨rfl, WdR.pre hP hK hD hN hU hW⟩)⟩ rfl rfl hl.1 rfl (lv_room (Nat.le_of_ble_eq_true rfl)) dX9_cell_69 ⟨le_R hRc (Nat.le_refl 0), le_R hRs (Nat.le_refl 0)⟩) hS (fun r4 σ3 H locs hr1 hP hD hS => ?_)
          have hv := hv r4 σ3 hr1
          refine lv_goto (tgt := 87) hx hb dX9_cell_72 (by decide) ?_
          rw [hZ]; rw [hQ] at hv
          exact W.lret (v := r4) hx hb hr (fun t ht hW => ⟨⟨r4, σ3, rfl, hv, ⟨P_of ht hP, hD⟩⟩, hS.F ht⟩) hS.2.2 dX9_cell_87
      · have hv := hv.2 c12
        refine lv_aload_n hx hb dX9_cell_37 rfl (lv_at hl 0 rfl) ?_
        refine va_get (ci := 9) (v := .ref (ad (25))) (C := RX9) (T := TX9) (N := 38) hx hb hts hinX9 hown hK hP 0 (wR_0 cy ad σ1) rfl 34 (by decide) (hts (.fieldLink RX9 83 "TaleBansModel" "sheetLane" "[I") (List.mem_of_getElem? (i := 4) rfl)) (fun x h => h) rfl dX9_cell_38 ?_
        refine lv_iload_n hx hb dX9_cell_41 rfl (lv_at hl 1 rfl) ?_
        obtain ⟨hi, hv⟩ := hv
        refine va_iald hx hb hK hP 25 0 (wR_25 cy ad σ1) rfl hi dX9_cell_42 ?_
        refine lv_iload_n hx hb dX9_cell_43 rfl (lv_at hl 3 rfl) ?_
        refine lv_icmp_eq (tgt := 53) hx hb dX9_cell_44 (by decide) (fun c11 => ?_) (fun c11 => ?_)
        · have hv := hv.1 c11
          refine lv_aload_n hx hb dX9_cell_53 rfl (lv_at hl 0 rfl) ?_
          refine lv_iload_n hx hb dX9_cell_54 rfl (lv_at hl 1 rfl) ?_
          refine lv_iload_n hx hb dX9_cell_55 rfl (lv_at hl 2 rfl) ?_
          obtain ⟨hp, hv⟩ := hv
          refine k_read_i (w := wR cy ad) (va_runV (As := [.int k_, .int i_]) (rest := []) ⟨hx, hb, hml, hown, hts⟩ (h_X9_noCell D cy ad A k_ i_ σ1 hp) (cwV 2 hts gX9_cell_X9_noCell rfl rfl rfl (by decide +kernel) ⟨le_R hRf (Nat.le_of_ble_eq_true rfl), le_R hRl (Nat.le_of_ble_eq_true rfl)⟩) ⟨(fun a U g mk q => ⟨q.1, q.2.blind⟩), va_recv hK hP (ci := 9) (q0 := 0) rfl (wR_0 cy ad σ1), (fun U hU hW => ⟨rfl, WdR.pre hP hK hD hN hU hW⟩)⟩ rfl rfl hl.1 rfl (lv_room (Nat.le_of_ble_eq_true rfl)) dX9_cell_56 ⟨le_R hRc (Nat.le_refl 0), le_R hRs (Nat.le_refl 0)⟩) hS (fun r H locs hr1 hP hS => ?_)
          subst hr1
          refine lv_if_le (tgt := 75) hx hb dX9_cell_59 (by decide) (fun c8 => ?_) (fun c8 => ?_)
          · have hv := hv.1 c8
            refine lv_aload_n hx hb dX9_cell_75 rfl (lv_at hl 0 rfl) ?_
            refine va_get (ci := 9) (v := .ref (ad (26))) (C := RX9) (T := TX9) (N := 38) hx hb hts hinX9 hown hK hP 0 (wR_0 cy ad σ1) rfl 35 (by decide) (hts (.fieldLink RX9 86 "TaleBansModel" "sheet" "[I") (List.mem_of_getElem? (i := 5) rfl)) (fun x h => h) rfl dX9_cell_76 ?_
            refine lv_bipush (v := 60) hx hb dX9_cell_79 (by decide) ?_
            refine lv_iload_n hx hb dX9_cell_81 rfl (lv_at hl 1 rfl) ?_
            refine lv_imul hx hb dX9_cell_82 ?_
            refine lv_iload_n hx hb dX9_cell_83 rfl (lv_at hl 2 rfl) ?_
            refine lv_iadd hx hb dX9_cell_84 ?_
            obtain ⟨hi, hv⟩ := hv
            refine va_iald hx hb hK hP 26 0 (wR_26 cy ad σ1) rfl hi dX9_cell_85 ?_
            refine lv_i2l hx hb dX9_cell_86 rfl ?_
            rw [hZ]; rw [hQ] at hv
            exact W.lret (v := (Int32.toInt64 (rdA σ1 26 (Int32.toNatClampNeg ((60 * k_) + i_))))) hx hb hr (fun t ht hW => ⟨⟨(Int32.toInt64 (rdA σ1 26 (Int32.toNatClampNeg ((60 * k_) + i_)))), σ1, rfl, hv, ⟨P_of ht hP, hD⟩⟩, hS.F ht⟩) hS.2.2 dX9_cell_87
          · have hv := hv.2 c8
            refine lv_aload_n hx hb dX9_cell_62 rfl (lv_at hl 0 rfl) ?_
            refine lv_aload_n hx hb dX9_cell_63 rfl (lv_at hl 0 rfl) ?_
            refine lv_iload_n hx hb dX9_cell_64 rfl (lv_at hl 1 rfl) ?_
            refine lv_iload_n hx hb dX9_cell_65 rfl (lv_at hl 2 rfl) ?_
            obtain ⟨hp, hv⟩ := hv
            refine k_read_i (w := wR cy ad) (va_runV (As := [.int k_, .int i_]) (rest := [.ref (ad 0)]) ⟨hx, hb, hml, hown, hts⟩ (h_X9_noCell D cy ad A k_ i_ σ1 hp) (cwV 2 hts gX9_cell_X9_noCell rfl rfl rfl (by decide +kernel) ⟨le_R hRf (Nat.le_of_ble_eq_true rfl), le_R hRl (Nat.le_of_ble_eq_true rfl)⟩) ⟨(fun a U g mk q => ⟨q.1, q.2.blind⟩), va_recv hK hP (ci := 9) (q0 := 0) rfl (wR_0 cy ad σ1), (fun U hU hW => ⟨rfl, WdR.pre hP hK hD hN hU hW⟩)⟩ rfl rfl hl.1 rfl (lv_room (Nat.le_of_ble_eq_true rfl)) dX9_cell_66 ⟨le_R hRc (Nat.le_refl 0), le_R hRs (Nat.le_refl 0)⟩) hS (fun r H locs hr1 hP hS => ?_)
            subst hr1
            have hp := True.intro
            refine k_rel_l (w := wR cy ad) (va_runV (As := [.int (fn_X9_noCell k_ i_ σ1)]) (rest := []) ⟨hx, hb, hml, hown, hts⟩ (h_X9_failedLong D cy ad A (fn_X9_noCell k_ i_ σ1) σ1 hp) (cwV 1 hts gX9_cell_X9_failedLong rfl rfl rfl (by decide +kernel) ⟨le_R hRf (Nat.le_of_ble_eq_true rfl), le_R hRl (Nat.le_of_ble_eq_true rfl)⟩) ⟨(fun a U g mk q => ⟨q.1, q.2.blind⟩), va_recv hK hP (ci := 9) (q0 := 0) rfl (wR_0 cy ad σ1), (fun U hU hW => ⟨rfl, WdR.pre hP hK hD hN hU hW⟩)⟩ rfl rfl hl.1 rfl (lv_room (Nat.le_of_ble_eq_true rfl)) dX9_cell_69 ⟨le_R hRc (Nat.le_refl 0), le_R hRs (Nat.le_refl 0)⟩) hS (fun r7 σ6 H locs hr1 hP hD hS => ?_)
            have hv := hv r7 σ6 hr1
            refine lv_goto (tgt := 87) hx hb dX9_cell_72 (by decide) ?_
            rw [hZ]; rw [hQ] at hv
            exact W.lret (v := r7) hx hb hr (fun t ht hW => ⟨⟨r7, σ6, rfl, hv, ⟨P_of ht hP, hD⟩⟩, hS.F ht⟩) hS.2.2 dX9_cell_87
        · have hv := hv.2 c11
          refine lv_aload_n hx hb dX9_cell_47 rfl (lv_at hl 0 rfl) ?_
          refine lv_iconst (v := 2) hx hb dX9_cell_48 (by decide) ?_
          have hp := True.intro
          refine k_rel_l (w := wR cy ad) (va_runV (As := [.int 2]) (rest := []) ⟨hx, hb, hml, hown, hts⟩ (h_X9_failedLong D cy ad A 2 σ1 hp) (cwV 1 hts gX9_cell_X9_failedLong rfl rfl rfl (by decide +kernel) ⟨le_R hRf (Nat.le_of_ble_eq_true rfl), le_R hRl (Nat.le_of_ble_eq_true rfl)⟩) ⟨(fun a U g mk q => ⟨q.1, q.2.blind⟩), va_recv hK hP (ci := 9) (q0 := 0) rfl (wR_0 cy ad σ1), (fun U hU hW => ⟨rfl, WdR.pre hP hK hD hN hU hW⟩)⟩ rfl rfl hl.1 rfl (lv_room (Nat.le_of_ble_eq_true rfl)) dX9_cell_49 ⟨le_R hRc (Nat.le_refl 0), le_R hRs (Nat.le_refl 0)⟩) hS (fun r10 σ9 H locs hr1 hP hD hS => ?_)
          have hv := hv r10 σ9 hr1
          rw [hZ]; rw [hQ] at hv
          exact W.lret (v := r10) hx hb hr (fun t ht hW => ⟨⟨r10, σ9, rfl, hv, ⟨P_of ht hP, hD⟩⟩, hS.F ht⟩) hS.2.2 dX9_cell_52
    · have hv := hv.2 c13
      refine k_pure_l (va_runS (As := []) (rest := []) ⟨hx, hb, hml, hown, hts⟩ (h_X9_lost ) (va_cwS 0 hts gX9_cell_X9_lost rfl rfl rfl (by decide +kernel) ⟨le_R hRf (Nat.le_of_ble_eq_true rfl), le_R hRl (Nat.le_of_ble_eq_true rfl)⟩) ⟨(fun a U g mk q => ⟨q.1, trivial⟩), (fun U hU hW => ⟨rfl, trivial⟩)⟩ rfl rfl hl.1 rfl (lv_room (Nat.le_of_ble_eq_true rfl)) dX9_cell_24 ⟨le_R hRc (Nat.le_refl 0), le_R hRs (Nat.le_refl 0)⟩) hS hP (fun r H locs hr1 hP hS => ?_)
      subst hr1
      rw [hZ]; rw [hQ] at hv
      exact W.lret (v := fn_X9_lost) hx hb hr (fun t ht hW => ⟨⟨fn_X9_lost, σ1, rfl, hv, ⟨P_of ht hP, hD⟩⟩, hS.F ht⟩) hS.2.2 dX9_cell_27
set_option maxHeartbeats 4000000 in
set_option maxRecDepth 100000 in
theorem wk_X9_copy (l : Launch) (h_X9_failed : Ct_X9_failed l) (h_X9_isBeyond : Ct_X9_isBeyond l) (h_X9_noSheet : Ct_X9_noSheet l) (h_X9_refused : Ct_X9_refused l) (sp : ∀ (k_ : Int32) (i_ : Int32) (o_ : Int32) (j_ : Int32) (n_ : Int32) (ag : AS) (σ0 : S_), pre_X9_copy k_ i_ o_ j_ n_ ag σ0 → vc_X9_copy k_ i_ o_ j_ n_ σ0 (post_X9_copy k_ i_ o_ j_ n_ ag σ0)) : Ct_X9_copy l := by
  intro D cy ad A k_ i_ o_ j_ n_ ag σ0  hpre
  refine Met.ofW (cc := cX9_copy) (maxL := 7) (ret := (some .int)) (by decide) rfl ?_
  intro p e s m args below meth c s₁ B hml hv0
  obtain ⟨rfl, hP, hK, hD, hN⟩ := hv0
  have hx := B.exec
  have hb := B.bytes
  have hr := B.returns
  have hts := atoms_spec (ws := wsX9_copy) B.pre
  have hown : s.vm.findClass RX9 = some m.cls := findClass_of_methodNamed B.named
  have hlocks := B.notSynchronized
  have hv := sp k_ i_ o_ j_ n_ ag σ0 hpre
  have hl := lv_entry ([.ref (ad 0), .int k_, .int i_, .int o_, .int j_, .int n_]) (n := 7) (Nat.le_of_ble_eq_true rfl)
  rw [lg_entry_eq]
  generalize (lg_sl ([.ref (ad 0), .int k_, .int i_, .int o_, .int j_, .int n_]) ++ List.replicate (7 - (lg_sl ([.ref (ad 0), .int k_, .int i_, .int o_, .int j_, .int n_])).length) Slot.unset).toArray = ls at hl ⊢
  have hl : lv_has ls 7 [(0, .ref (ad 0)), (1, .int k_), (2, .int i_), (3, .int o_), (4, .int j_), (5, .int n_)] := hl
  refine W_gen (fun R Z H locs hR hZ hH hlo => ?_)
  have hRf : R.frames = 2 := by rw [hR]; rfl
  have hRl : R.locals = 45 := by rw [hR]; rfl
  have hRc : R.cells = 0 := by rw [hR]; rfl
  have hRs : R.slots = 0 := by rw [hR]; rfl
  have hS : va_S A s.heap H locs := by rw [hH, hlo]; exact va_S.rf
  rw [← hH] at hP
  obtain ⟨Q, hQ⟩ : ∃ q : Int32 → S_ → Prop, q = (post_X9_copy k_ i_ o_ j_ n_ ag σ0) := ⟨_, rfl⟩
  rw [← hQ] at hv
  have hinX9 : ∀ w ∈ wsX90, w ∈ wsX9_copy := by decide +kernel
  refine lv_iload_n hx hb dX9_copy_0 rfl (lv_at hl 1 rfl) ?_
  refine k_pure_i (va_runS (As := [.int k_]) (rest := []) ⟨hx, hb, hml, hown, hts⟩ (h_X9_noSheet k_) (va_cwS 1 hts gX9_copy_X9_noSheet rfl rfl rfl (by decide +kernel) ⟨le_R hRf (Nat.le_of_ble_eq_true rfl), le_R hRl (Nat.le_of_ble_eq_true rfl)⟩) ⟨(fun a U g mk q => ⟨q.1, trivial⟩), (fun U hU hW => ⟨rfl, trivial⟩)⟩ rfl rfl hl.1 rfl (lv_room (Nat.le_of_ble_eq_true rfl)) dX9_copy_1 ⟨le_R hRc (Nat.le_refl 0), le_R hRs (Nat.le_refl 0)⟩) hS hP (fun r H locs hr1 hP hS => ?_)
  subst hr1
  refine lv_if_ne (tgt := 14) hx hb dX9_copy_4 (by decide) (fun c33 => ?_) (fun c33 => ?_)
  · have hv := hv.1 c33
    refine lv_aload_n hx hb dX9_copy_14 rfl (lv_at hl 0 rfl) ?_
    refine lv_iconst (v := (-1)) hx hb dX9_copy_15 (by decide) ?_
    have hp := True.intro
    refine k_rel_i (w := wR cy ad) (va_runV (As := [.int (-1)]) (rest := []) ⟨hx, hb, hml, hown, hts⟩ (h_X9_refused D cy ad A (-1) σ0 hp) (cwV 1 hts gX9_copy_X9_refused rfl rfl rfl (by decide +kernel) ⟨le_R hRf (Nat.le_of_ble_eq_true rfl), le_R hRl (Nat.le_of_ble_eq_true rfl)⟩) ⟨(fun a U g mk q => ⟨q.1, q.2.blind⟩), va_recv hK hP (ci := 9) (q0 := 0) rfl (wR_0 cy ad σ0), (fun U hU hW => ⟨rfl, WdR.pre hP hK hD hN hU hW⟩)⟩ rfl rfl hl.1 rfl (lv_room (Nat.le_of_ble_eq_true rfl)) dX9_copy_16 ⟨le_R hRc (Nat.le_refl 0), le_R hRs (Nat.le_refl 0)⟩) hS (fun r2 σ1 H locs hr1 hP hD hS => ?_)
    have hv := hv r2 σ1 hr1
    rw [hZ]; rw [hQ] at hv
    exact W.iret (v := r2) hx hb hr (fun t ht hW => ⟨⟨r2, σ1, rfl, hv, ⟨P_of ht hP, hD⟩⟩, hS.F ht⟩) hS.2.2 dX9_copy_19
  · have hv := hv.2 c33
    refine lv_iload_n hx hb dX9_copy_7 rfl (lv_at hl 3 rfl) ?_
    refine k_pure_i (va_runS (As := [.int o_]) (rest := []) ⟨hx, hb, hml, hown, hts⟩ (h_X9_noSheet o_) (va_cwS 1 hts gX9_copy_X9_noSheet rfl rfl rfl (by decide +kernel) ⟨le_R hRf (Nat.le_of_ble_eq_true rfl), le_R hRl (Nat.le_of_ble_eq_true rfl)⟩) ⟨(fun a U g mk q => ⟨q.1, trivial⟩), (fun U hU hW => ⟨rfl, trivial⟩)⟩ rfl rfl hl.1 rfl (lv_room (Nat.le_of_ble_eq_true rfl)) dX9_copy_8 ⟨le_R hRc (Nat.le_refl 0), le_R hRs (Nat.le_refl 0)⟩) hS hP (fun r H locs hr1 hP hS => ?_)
    subst hr1
    refine lv_if_eq (tgt := 20) hx hb dX9_copy_11 (by decide) (fun c32 => ?_) (fun c32 => ?_)
    · have hv := hv.1 c32
      refine lv_aload_n hx hb dX9_copy_20 rfl (lv_at hl 0 rfl) ?_
      refine va_get (ci := 9) (v := .ref (ad (24))) (C := RX9) (T := TX9) (N := 38) hx hb hts hinX9 hown hK hP 0 (wR_0 cy ad σ0) rfl 33 (by decide) (hts (.fieldLink RX9 80 "TaleBansModel" "sheetSize" "[I") (List.mem_of_getElem? (i := 1) rfl)) (fun x h => h) rfl dX9_copy_21 ?_
      refine lv_iload_n hx hb dX9_copy_24 rfl (lv_at hl 1 rfl) ?_
      obtain ⟨hi, hv⟩ := hv
      refine va_iald hx hb hK hP 24 0 (wR_24 cy ad σ0) rfl hi dX9_copy_25 ?_
      refine lv_if_lt (tgt := 38) hx hb dX9_copy_26 (by decide) (fun c29 => ?_) (fun c29 => ?_)
      · have hv := hv.1 c29
        refine lv_aload_n hx hb dX9_copy_38 rfl (lv_at hl 0 rfl) ?_
        refine lv_iconst (v := 1) hx hb dX9_copy_39 (by decide) ?_
        have hp := True.intro
        refine k_rel_i (w := wR cy ad) (va_runV (As := [.int 1]) (rest := []) ⟨hx, hb, hml, hown, hts⟩ (h_X9_failed D cy ad A 1 σ0 hp) (cwV 1 hts gX9_copy_X9_failed rfl rfl rfl (by decide +kernel) ⟨le_R hRf (Nat.le_of_ble_eq_true rfl), le_R hRl (Nat.le_of_ble_eq_true rfl)⟩) ⟨(fun a U g mk q => ⟨q.1, q.2.blind⟩), va_recv hK hP (ci := 9) (q0 := 0) rfl (wR_0 cy ad σ0), (fun U hU hW => ⟨rfl, WdR.pre hP hK hD hN hU hW⟩)⟩ rfl rfl hl.1 rfl (lv_room (Nat.le_of_ble_eq_true rfl)) dX9_copy_40 ⟨le_R hRc (Nat.le_refl 0), le_R hRs (Nat.le_refl 0)⟩) hS (fun r4 σ3 H locs hr1 hP hD hS => ?_)
        have hv := hv r4 σ3 hr1
        rw [hZ]; rw [hQ] at hv
        exact W.iret (v := r4) hx hb hr (fun t ht hW => ⟨⟨r4, σ3, rfl, hv, ⟨P_of ht hP, hD⟩⟩, hS.F ht⟩) hS.2.2 dX9_copy_43
      · have hv := hv.2 c29
        refine lv_aload_n hx hb dX9_copy_29 rfl (lv_at hl 0 rfl) ?_
        refine va_get (ci := 9) (v := .ref (ad (24))) (C := RX9) (T := TX9) (N := 38) hx hb hts hinX9 hown hK hP 0 (wR_0 cy ad σ0) rfl 33 (by decide) (hts (.fieldLink RX9 80 "TaleBansModel" "sheetSize" "[I") (List.mem_of_getElem? (i := 1) rfl)) (fun x h => h) rfl dX9_copy_30 ?_
        refine lv_iload_n hx hb dX9_copy_33 rfl (lv_at hl 3 rfl) ?_
        obtain ⟨hi, hv⟩ := hv
        refine va_iald hx hb hK hP 24 0 (wR_24 cy ad σ0) rfl hi dX9_copy_34 ?_
        refine lv_if_ge (tgt := 44) hx hb dX9_copy_35 (by decide) (fun c28 => ?_) (fun c28 => ?_)
        · have hv := hv.1 c28
          refine lv_aload_n hx hb dX9_copy_44 rfl (lv_at hl 0 rfl) ?_
          refine va_get (ci := 9) (v := .ref (ad (25))) (C := RX9) (T := TX9) (N := 38) hx hb hts hinX9 hown hK hP 0 (wR_0 cy ad σ0) rfl 34 (by decide) (hts (.fieldLink RX9 83 "TaleBansModel" "sheetLane" "[I") (List.mem_of_getElem? (i := 2) rfl)) (fun x h => h) rfl dX9_copy_45 ?_
          refine lv_iload_n hx hb dX9_copy_48 rfl (lv_at hl 1 rfl) ?_
          obtain ⟨hi, hv⟩ := hv
          refine va_iald hx hb hK hP 25 0 (wR_25 cy ad σ0) rfl hi dX9_copy_49 ?_
          refine lv_aload_n hx hb dX9_copy_50 rfl (lv_at hl 0 rfl) ?_
          refine va_get (ci := 9) (v := .ref (ad (25))) (C := RX9) (T := TX9) (N := 38) hx hb hts hinX9 hown hK hP 0 (wR_0 cy ad σ0) rfl 34 (by decide) (hts (.fieldLink RX9 83 "TaleBansModel" "sheetLane" "[I") (List.mem_of_getElem? (i := 2) rfl)) (fun x h => h) rfl dX9_copy_51 ?_
          refine lv_iload_n hx hb dX9_copy_54 rfl (lv_at hl 3 rfl) ?_
          obtain ⟨hi, hv⟩ := hv
          refine va_iald hx hb hK hP 25 0 (wR_25 cy ad σ0) rfl hi dX9_copy_55 ?_
          refine lv_icmp_eq (tgt := 65) hx hb dX9_copy_56 (by decide) (fun c25 => ?_) (fun c25 => ?_)
          · have hv := hv.1 c25
            refine lv_iload_n hx hb dX9_copy_65 rfl (lv_at hl 2 rfl) ?_
            refine lv_iload hx hb dX9_copy_66 (lv_at hl 5 rfl) ?_
            refine lv_i2l hx hb dX9_copy_68 rfl ?_
            refine lv_aload_n hx hb dX9_copy_69 rfl (lv_at hl 0 rfl) ?_
            refine va_get (ci := 9) (v := .ref (ad (24))) (C := RX9) (T := TX9) (N := 38) hx hb hts hinX9 hown hK hP 0 (wR_0 cy ad σ0) rfl 33 (by decide) (hts (.fieldLink RX9 80 "TaleBansModel" "sheetSize" "[I") (List.mem_of_getElem? (i := 1) rfl)) (fun x h => h) rfl dX9_copy_70 ?_
            refine lv_iload_n hx hb dX9_copy_73 rfl (lv_at hl 1 rfl) ?_
            obtain ⟨hi, hv⟩ := hv
            refine va_iald hx hb hK hP 24 0 (wR_24 cy ad σ0) rfl hi dX9_copy_74 ?_
            refine k_pure_i (va_runS (As := [.int i_, .long (Int32.toInt64 n_), .int (rdA σ0 24 (Int32.toNatClampNeg k_))]) (rest := []) ⟨hx, hb, hml, hown, hts⟩ (h_X9_isBeyond i_ (Int32.toInt64 n_) (rdA σ0 24 (Int32.toNatClampNeg k_))) (va_cwS 3 hts gX9_copy_X9_isBeyond rfl rfl rfl (by decide +kernel) ⟨le_R hRf (Nat.le_of_ble_eq_true rfl), le_R hRl (Nat.le_of_ble_eq_true rfl)⟩) ⟨(fun a U g mk q => ⟨q.1, trivial⟩), (fun U hU hW => ⟨rfl, trivial⟩)⟩ rfl rfl hl.1 rfl (lv_room (Nat.le_of_ble_eq_true rfl)) dX9_copy_75 ⟨le_R hRc (Nat.le_refl 0), le_R hRs (Nat.le_refl 0)⟩) hS hP (fun r H locs hr1 hP hS => ?_)
            subst hr1
            refine lv_if_ne (tgt := 98) hx hb dX9_copy_78 (by decide) (fun c22 => ?_) (fun c22 => ?_)
            · have hv := hv.1 c22
              refine lv_aload_n hx hb dX9_copy_98 rfl (lv_at hl 0 rfl) ?_
              refine lv_iconst (v := 3) hx hb dX9_copy_99 (by decide) ?_
              have hp := True.intro
              refine k_rel_i (w := wR cy ad) (va_runV (As := [.int 3]) (rest := []) ⟨hx, hb, hml, hown, hts⟩ (h_X9_failed D cy ad A 3 σ0 hp) (cwV 1 hts gX9_copy_X9_failed rfl rfl rfl (by decide +kernel) ⟨le_R hRf (Nat.le_of_ble_eq_true rfl), le_R hRl (Nat.le_of_ble_eq_true rfl)⟩) ⟨(fun a U g mk q => ⟨q.1, q.2.blind⟩), va_recv hK hP (ci := 9) (q0 := 0) rfl (wR_0 cy ad σ0), (fun U hU hW => ⟨rfl, WdR.pre hP hK hD hN hU hW⟩)⟩ rfl rfl hl.1 rfl (lv_room (Nat.le_of_ble_eq_true rfl)) dX9_copy_100 ⟨le_R hRc (Nat.le_refl 0), le_R hRs (Nat.le_refl 0)⟩) hS (fun r6 σ5 H locs hr1 hP hD hS => ?_)
              have hv := hv r6 σ5 hr1
              rw [hZ]; rw [hQ] at hv
              exact W.iret (v := r6) hx hb hr (fun t ht hW => ⟨⟨r6, σ5, rfl, hv, ⟨P_of ht hP, hD⟩⟩, hS.F ht⟩) hS.2.2 dX9_copy_103
            · have hv := hv.2 c22
              refine lv_iload hx hb dX9_copy_81 (lv_at hl 4 rfl) ?_
              refine lv_iload hx hb dX9_copy_83 (lv_at hl 5 rfl) ?_
              refine lv_i2l hx hb dX9_copy_85 rfl ?_
              refine lv_aload_n hx hb dX9_copy_86 rfl (lv_at hl 0 rfl) ?_
              refine va_get (ci := 9) (v := .ref (ad (24))) (C := RX9) (T := TX9) (N := 38) hx hb hts hinX9 hown hK hP 0 (wR_0 cy ad σ0) rfl 33 (by decide) (hts (.fieldLink RX9 80 "TaleBansModel" "sheetSize" "[I") (List.mem_of_getElem? (i := 1) rfl)) (fun x h => h) rfl dX9_copy_87 ?_
              refine lv_iload_n hx hb dX9_copy_90 rfl (lv_at hl 3 rfl) ?_
              obtain ⟨hi, hv⟩ := hv
              refine va_iald hx hb hK hP 24 0 (wR_24 cy ad σ0) rfl hi dX9_copy_91 ?_
              refine k_pure_i (va_runS (As := [.int j_, .long (Int32.toInt64 n_), .int (rdA σ0 24 (Int32.toNatClampNeg o_))]) (rest := []) ⟨hx, hb, hml, hown, hts⟩ (h_X9_isBeyond j_ (Int32.toInt64 n_) (rdA σ0 24 (Int32.toNatClampNeg o_))) (va_cwS 3 hts gX9_copy_X9_isBeyond rfl rfl rfl (by decide +kernel) ⟨le_R hRf (Nat.le_of_ble_eq_true rfl), le_R hRl (Nat.le_of_ble_eq_true rfl)⟩) ⟨(fun a U g mk q => ⟨q.1, trivial⟩), (fun U hU hW => ⟨rfl, trivial⟩)⟩ rfl rfl hl.1 rfl (lv_room (Nat.le_of_ble_eq_true rfl)) dX9_copy_92 ⟨le_R hRc (Nat.le_refl 0), le_R hRs (Nat.le_refl 0)⟩) hS hP (fun r H locs hr1 hP hS => ?_)
              subst hr1
              refine lv_if_eq (tgt := 104) hx hb dX9_copy_95 (by decide) (fun c21 => ?_) (fun c21 => ?_)
              · have hv := hv.1 c21
                refine lv_iconst (v := 0) hx hb dX9_copy_104 (by decide) ?_
                refine lv_istore (lv' := [(6, .int 0), (0, .ref (ad 0)), (1, .int k_), (2, .int i_), (3, .int o_), (4, .int j_), (5, .int n_)]) hx hb dX9_copy_105 hl (by decide) rfl (fun ls hl => ?_)
                obtain ⟨n107, hv⟩ := hv
                have lp107 : ∀ (nn107 : Nat) (x7 : Int32) (σ8 : S_) (H : Heap) (locs : List Loc) (ls : Array Slot), vl_X9_copy_107 k_ i_ o_ j_ n_ Q nn107 x7 σ8 → va_P D vwCl (wR cy ad σ8) H → va_D A (wR cy ad σ8) → va_S A s.heap H locs → lv_has ls 7 [(0, .ref (ad 0)), (1, .int k_), (2, .int i_), (3, .int o_), (4, .int j_), (5, .int n_), (6, .int x7)] → W p l e R s m ([.ref (ad 0), .int k_, .int i_, .int o_, .int j_, .int n_] : List Value).toArray  below meth c H locs 0 0 Z (F0 m 107 ls []) := by
                  intro nn107
                  induction nn107 with
                  | zero => intro x7 σ8 H locs ls hv; exact absurd hv id
                  | succ mm107 ih107 =>
                    intro x7 σ8 H locs ls hv hP hD hS hl
                    refine lv_iload hx hb dX9_copy_107 (lv_at hl 6 rfl) ?_
                    refine lv_iload hx hb dX9_copy_109 (lv_at hl 5 rfl) ?_
                    refine lv_icmp_ge (tgt := 141) hx hb dX9_copy_111 (by decide) (fun c18 => ?_) (fun c18 => ?_)
                    · have hv := hv.1 c18
                      refine lv_iconst (v := 0) hx hb dX9_copy_141 (by decide) ?_
                      refine lv_istore (lv' := [(6, .int 0), (0, .ref (ad 0)), (1, .int k_), (2, .int i_), (3, .int o_), (4, .int j_), (5, .int n_)]) hx hb dX9_copy_142 hl (by decide) rfl (fun ls hl => ?_)
                      obtain ⟨n144, hv⟩ := hv
                      have lp144 : ∀ (nn144 : Nat) (x9 : Int32) (σ10 : S_) (H : Heap) (locs : List Loc) (ls : Array Slot), vl_X9_copy_144 o_ j_ n_ Q nn144 x9 σ10 → va_P D vwCl (wR cy ad σ10) H → va_D A (wR cy ad σ10) → va_S A s.heap H locs → lv_has ls 7 [(0, .ref (ad 0)), (3, .int o_), (4, .int j_), (5, .int n_), (6, .int x9)] → W p l e R s m ([.ref (ad 0), .int k_, .int i_, .int o_, .int j_, .int n_] : List Value).toArray  below meth c H locs 0 0 Z (F0 m 144 ls []) := by
                        intro nn144
                        induction nn144 with
                        | zero => intro x9 σ10 H locs ls hv; exact absurd hv id
                        | succ mm144 ih144 =>
                          intro x9 σ10 H locs ls hv hP hD hS hl
                          refine lv_iload hx hb dX9_copy_144 (lv_at hl 4 rfl) ?_
                          refine lv_iload hx hb dX9_copy_146 (lv_at hl 3 rfl) ?_
                          refine lv_icmp_ge (tgt := 179) hx hb dX9_copy_148 (by decide) (fun c15 => ?_) (fun c15 => ?_)
                          · have hv := hv.1 c15
                            refine lv_aload_n hx hb dX9_copy_179 rfl (lv_at hl 0 rfl) ?_
                            refine lv_iload hx hb dX9_copy_180 (lv_at hl 3 rfl) ?_
                            have hp := True.intro
                            refine k_rel_i (w := wR cy ad) (va_runV (As := [.int n_]) (rest := []) ⟨hx, hb, hml, hown, hts⟩ (h_X9_refused D cy ad A n_ σ10 hp) (cwV 1 hts gX9_copy_X9_refused rfl rfl rfl (by decide +kernel) ⟨le_R hRf (Nat.le_of_ble_eq_true rfl), le_R hRl (Nat.le_of_ble_eq_true rfl)⟩) ⟨(fun a U g mk q => ⟨q.1, q.2.blind⟩), va_recv hK hP (ci := 9) (q0 := 0) rfl (wR_0 cy ad σ10), (fun U hU hW => ⟨rfl, WdR.pre hP hK hD hN hU hW⟩)⟩ rfl rfl hl.1 rfl (lv_room (Nat.le_of_ble_eq_true rfl)) dX9_copy_182 ⟨le_R hRc (Nat.le_refl 0), le_R hRs (Nat.le_refl 0)⟩) hS (fun r12 σ11 H locs hr1 hP hD hS => ?_)
                            have hv := hv r12 σ11 hr1
                            rw [hZ]; rw [hQ] at hv
                            exact W.iret (v := r12) hx hb hr (fun t ht hW => ⟨⟨r12, σ11, rfl, hv, ⟨P_of ht hP, hD⟩⟩, hS.F ht⟩) hS.2.2 dX9_copy_185
                          · have hv := hv.2 c15
                            refine lv_aload_n hx hb dX9_copy_151 rfl (lv_at hl 0 rfl) ?_
                            refine va_get (ci := 9) (v := .ref (ad (26))) (C := RX9) (T := TX9) (N := 38) hx hb hts hinX9 hown hK hP 0 (wR_0 cy ad σ10) rfl 35 (by decide) (hts (.fieldLink RX9 86 "TaleBansModel" "sheet" "[I") (List.mem_of_getElem? (i := 4) rfl)) (fun x h => h) rfl dX9_copy_152 ?_
                            refine lv_bipush (v := 60) hx hb dX9_copy_155 (by decide) ?_
                            refine lv_iload_n hx hb dX9_copy_157 rfl (lv_at hl 1 rfl) ?_
                            refine lv_imul hx hb dX9_copy_158 ?_
                            refine lv_iload hx hb dX9_copy_159 (lv_at hl 2 rfl) ?_
                            refine lv_iadd hx hb dX9_copy_161 ?_
                            refine lv_iload hx hb dX9_copy_162 (lv_at hl 4 rfl) ?_
                            refine lv_iadd hx hb dX9_copy_164 ?_
                            refine lv_aload_n hx hb dX9_copy_165 rfl (lv_at hl 0 rfl) ?_
                            refine va_get (ci := 9) (v := .ref (ad (27))) (C := RX9) (T := TX9) (N := 38) hx hb hts hinX9 hown hK hP 0 (wR_0 cy ad σ10) rfl 36 (by decide) (hts (.fieldLink RX9 89 "TaleBansModel" "hands" "[I") (List.mem_of_getElem? (i := 3) rfl)) (fun x h => h) rfl dX9_copy_166 ?_
                            refine lv_iload hx hb dX9_copy_169 (lv_at hl 4 rfl) ?_
                            obtain ⟨hi, hv⟩ := hv
                            refine va_iald hx hb hK hP 27 0 (wR_27 cy ad σ10) rfl hi dX9_copy_171 ?_
                            obtain ⟨hi, hv⟩ := hv
                            refine va_iast hx hb hK hP hD hS 26 0 (wR_26 cy ad σ10) rfl hi dX9_copy_172 (fun H locs hP hD hS => ?_)
                            obtain ⟨σ13, e14⟩ : ∃ y : S_, y = wr2 σ10 26 (Int32.toNatClampNeg (((60 * o_) + j_) + x9)) (rdA σ10 27 (Int32.toNatClampNeg x9)) := ⟨_, rfl⟩
                            have hP : va_P D vwCl (wR cy ad σ13) H := by rw [e14]; exact hP
                            have hD : va_D A (wR cy ad σ13) := by rw [e14]; exact hD
                            have hv := hv σ13 e14
                            refine lv_iinc (v := (x9 + 1)) (lv' := [(6, .int (x9 + 1)), (0, .ref (ad 0)), (3, .int o_), (4, .int j_), (5, .int n_)]) hx hb dX9_copy_173 hl (k := 4) rfl rfl (by decide) rfl (fun ls hl => ?_)
                            refine lv_goto (tgt := 144) hx hb dX9_copy_176 (by decide) ?_
                            exact ih144 (x9 + 1) σ13 _ _ _ hv hP hD hS (lv_sub hl [1, 2, 3, 4, 0] rfl)
                      exact lp144 n144 0 σ8 _ _ _ hv hP hD hS (lv_sub hl [1, 4, 5, 6, 0] rfl)
                    · have hv := hv.2 c18
                      refine lv_aload_n hx hb dX9_copy_114 rfl (lv_at hl 0 rfl) ?_
                      refine va_get (ci := 9) (v := .ref (ad (27))) (C := RX9) (T := TX9) (N := 38) hx hb hts hinX9 hown hK hP 0 (wR_0 cy ad σ8) rfl 36 (by decide) (hts (.fieldLink RX9 89 "TaleBansModel" "hands" "[I") (List.mem_of_getElem? (i := 3) rfl)) (fun x h => h) rfl dX9_copy_115 ?_
                      refine lv_iload hx hb dX9_copy_118 (lv_at hl 6 rfl) ?_
                      refine lv_aload_n hx hb dX9_copy_120 rfl (lv_at hl 0 rfl) ?_
                      refine va_get (ci := 9) (v := .ref (ad (26))) (C := RX9) (T := TX9) (N := 38) hx hb hts hinX9 hown hK hP 0 (wR_0 cy ad σ8) rfl 35 (by decide) (hts (.fieldLink RX9 86 "TaleBansModel" "sheet" "[I") (List.mem_of_getElem? (i := 4) rfl)) (fun x h => h) rfl dX9_copy_121 ?_
                      refine lv_bipush (v := 60) hx hb dX9_copy_124 (by decide) ?_
                      refine lv_iload_n hx hb dX9_copy_126 rfl (lv_at hl 1 rfl) ?_
                      refine lv_imul hx hb dX9_copy_127 ?_
                      refine lv_iload_n hx hb dX9_copy_128 rfl (lv_at hl 2 rfl) ?_
                      refine lv_iadd hx hb dX9_copy_129 ?_
                      refine lv_iload hx hb dX9_copy_130 (lv_at hl 6 rfl) ?_
                      refine lv_iadd hx hb dX9_copy_132 ?_
                      obtain ⟨hi, hv⟩ := hv
                      refine va_iald hx hb hK hP 26 0 (wR_26 cy ad σ8) rfl hi dX9_copy_133 ?_
                      obtain ⟨hi, hv⟩ := hv
                      refine va_iast hx hb hK hP hD hS 27 0 (wR_27 cy ad σ8) rfl hi dX9_copy_134 (fun H locs hP hD hS => ?_)
                      obtain ⟨σ16, e17⟩ : ∃ y : S_, y = wr2 σ8 27 (Int32.toNatClampNeg x7) (rdA σ8 26 (Int32.toNatClampNeg (((60 * k_) + i_) + x7))) := ⟨_, rfl⟩
                      have hP : va_P D vwCl (wR cy ad σ16) H := by rw [e17]; exact hP
                      have hD : va_D A (wR cy ad σ16) := by rw [e17]; exact hD
                      have hv := hv σ16 e17
                      refine lv_iinc (v := (x7 + 1)) (lv' := [(6, .int (x7 + 1)), (0, .ref (ad 0)), (1, .int k_), (2, .int i_), (3, .int o_), (4, .int j_), (5, .int n_)]) hx hb dX9_copy_135 hl (k := 6) rfl rfl (by decide) rfl (fun ls hl => ?_)
                      refine lv_goto (tgt := 107) hx hb dX9_copy_138 (by decide) ?_
                      exact ih107 (x7 + 1) σ16 _ _ _ hv hP hD hS (lv_sub hl [1, 2, 3, 4, 5, 6, 0] rfl)
                exact lp107 n107 0 σ0 _ _ _ hv hP hD hS (lv_sub hl [1, 2, 3, 4, 5, 6, 0] rfl)
              · have hv := hv.2 c21
                refine lv_aload_n hx hb dX9_copy_98 rfl (lv_at hl 0 rfl) ?_
                refine lv_iconst (v := 3) hx hb dX9_copy_99 (by decide) ?_
                have hp := True.intro
                refine k_rel_i (w := wR cy ad) (va_runV (As := [.int 3]) (rest := []) ⟨hx, hb, hml, hown, hts⟩ (h_X9_failed D cy ad A 3 σ0 hp) (cwV 1 hts gX9_copy_X9_failed rfl rfl rfl (by decide +kernel) ⟨le_R hRf (Nat.le_of_ble_eq_true rfl), le_R hRl (Nat.le_of_ble_eq_true rfl)⟩) ⟨(fun a U g mk q => ⟨q.1, q.2.blind⟩), va_recv hK hP (ci := 9) (q0 := 0) rfl (wR_0 cy ad σ0), (fun U hU hW => ⟨rfl, WdR.pre hP hK hD hN hU hW⟩)⟩ rfl rfl hl.1 rfl (lv_room (Nat.le_of_ble_eq_true rfl)) dX9_copy_100 ⟨le_R hRc (Nat.le_refl 0), le_R hRs (Nat.le_refl 0)⟩) hS (fun r20 σ19 H locs hr1 hP hD hS => ?_)
                have hv := hv r20 σ19 hr1
                rw [hZ]; rw [hQ] at hv
                exact W.iret (v := r20) hx hb hr (fun t ht hW => ⟨⟨r20, σ19, rfl, hv, ⟨P_of ht hP, hD⟩⟩, hS.F ht⟩) hS.2.2 dX9_copy_103
          · have hv := hv.2 c25
            refine lv_aload_n hx hb dX9_copy_59 rfl (lv_at hl 0 rfl) ?_
            refine lv_iconst (v := 2) hx hb dX9_copy_60 (by decide) ?_
            have hp := True.intro
            refine k_rel_i (w := wR cy ad) (va_runV (As := [.int 2]) (rest := []) ⟨hx, hb, hml, hown, hts⟩ (h_X9_failed D cy ad A 2 σ0 hp) (cwV 1 hts gX9_copy_X9_failed rfl rfl rfl (by decide +kernel) ⟨le_R hRf (Nat.le_of_ble_eq_true rfl), le_R hRl (Nat.le_of_ble_eq_true rfl)⟩) ⟨(fun a U g mk q => ⟨q.1, q.2.blind⟩), va_recv hK hP (ci := 9) (q0 := 0) rfl (wR_0 cy ad σ0), (fun U hU hW => ⟨rfl, WdR.pre hP hK hD hN hU hW⟩)⟩ rfl rfl hl.1 rfl (lv_room (Nat.le_of_ble_eq_true rfl)) dX9_copy_61 ⟨le_R hRc (Nat.le_refl 0), le_R hRs (Nat.le_refl 0)⟩) hS (fun r24 σ23 H locs hr1 hP hD hS => ?_)
            have hv := hv r24 σ23 hr1
            rw [hZ]; rw [hQ] at hv
            exact W.iret (v := r24) hx hb hr (fun t ht hW => ⟨⟨r24, σ23, rfl, hv, ⟨P_of ht hP, hD⟩⟩, hS.F ht⟩) hS.2.2 dX9_copy_64
        · have hv := hv.2 c28
          refine lv_aload_n hx hb dX9_copy_38 rfl (lv_at hl 0 rfl) ?_
          refine lv_iconst (v := 1) hx hb dX9_copy_39 (by decide) ?_
          have hp := True.intro
          refine k_rel_i (w := wR cy ad) (va_runV (As := [.int 1]) (rest := []) ⟨hx, hb, hml, hown, hts⟩ (h_X9_failed D cy ad A 1 σ0 hp) (cwV 1 hts gX9_copy_X9_failed rfl rfl rfl (by decide +kernel) ⟨le_R hRf (Nat.le_of_ble_eq_true rfl), le_R hRl (Nat.le_of_ble_eq_true rfl)⟩) ⟨(fun a U g mk q => ⟨q.1, q.2.blind⟩), va_recv hK hP (ci := 9) (q0 := 0) rfl (wR_0 cy ad σ0), (fun U hU hW => ⟨rfl, WdR.pre hP hK hD hN hU hW⟩)⟩ rfl rfl hl.1 rfl (lv_room (Nat.le_of_ble_eq_true rfl)) dX9_copy_40 ⟨le_R hRc (Nat.le_refl 0), le_R hRs (Nat.le_refl 0)⟩) hS (fun r27 σ26 H locs hr1 hP hD hS => ?_)
          have hv := hv r27 σ26 hr1
          rw [hZ]; rw [hQ] at hv
          exact W.iret (v := r27) hx hb hr (fun t ht hW => ⟨⟨r27, σ26, rfl, hv, ⟨P_of ht hP, hD⟩⟩, hS.F ht⟩) hS.2.2 dX9_copy_43
    · have hv := hv.2 c32
      refine lv_aload_n hx hb dX9_copy_14 rfl (lv_at hl 0 rfl) ?_
      refine lv_iconst (v := (-1)) hx hb dX9_copy_15 (by decide) ?_
      have hp := True.intro
      refine k_rel_i (w := wR cy ad) (va_runV (As := [.int (-1)]) (rest := []) ⟨hx, hb, hml, hown, hts⟩ (h_X9_refused D cy ad A (-1) σ0 hp) (cwV 1 hts gX9_copy_X9_refused rfl rfl rfl (by decide +kernel) ⟨le_R hRf (Nat.le_of_ble_eq_true rfl), le_R hRl (Nat.le_of_ble_eq_true rfl)⟩) ⟨(fun a U g mk q => ⟨q.1, q.2.blind⟩), va_recv hK hP (ci := 9) (q0 := 0) rfl (wR_0 cy ad σ0), (fun U hU hW => ⟨rfl, WdR.pre hP hK hD hN hU hW⟩)⟩ rfl rfl hl.1 rfl (lv_room (Nat.le_of_ble_eq_true rfl)) dX9_copy_16 ⟨le_R hRc (Nat.le_refl 0), le_R hRs (Nat.le_refl 0)⟩) hS (fun r31 σ30 H locs hr1 hP hD hS => ?_)
      have hv := hv r31 σ30 hr1
      rw [hZ]; rw [hQ] at hv
      exact W.iret (v := r31) hx hb hr (fun t ht hW => ⟨⟨r31, σ30, rfl, hv, ⟨P_of ht hP, hD⟩⟩, hS.F ht⟩) hS.2.2 dX9_copy_19
set_option maxHeartbeats 4000000 in
set_option maxRecDepth 100000 in
theorem wk_X9_tell (l : Launch) (h_X9_noPerson : Ct_X9_noPerson l) (h_X9_traced : Ct_X9_traced l) (sp : ∀ (p_ : Int32) (ag : AS) (σ0 : S_), pre_X9_tell p_ ag σ0 → vc_X9_tell p_ σ0 (post_X9_tell p_ ag σ0)) : Ct_X9_tell l := by
  intro D cy ad A p_ ag σ0  hpre
  refine Met.ofW (cc := cX9_tell) (maxL := 4) (ret := (some .int)) (by decide) rfl ?_
  intro p e s m args below meth c s₁ B hml hv0
  obtain ⟨rfl, hP, hK, hD, hN⟩ := hv0
  have hx := B.exec
  have hb := B.bytes
  have hr := B.returns
  have hts := atoms_spec (ws := wsX9_tell) B.pre
  have hown : s.vm.findClass RX9 = some m.cls := findClass_of_methodNamed B.named
  have hlocks := B.notSynchronized
  have hv := sp p_ ag σ0 hpre
  have hl := lv_entry ([.ref (ad 0), .int p_]) (n := 4) (Nat.le_of_ble_eq_true rfl)
  rw [lg_entry_eq]
  generalize (lg_sl ([.ref (ad 0), .int p_]) ++ List.replicate (4 - (lg_sl ([.ref (ad 0), .int p_])).length) Slot.unset).toArray = ls at hl ⊢
  have hl : lv_has ls 4 [(0, .ref (ad 0)), (1, .int p_)] := hl
  refine W_gen (fun R Z H locs hR hZ hH hlo => ?_)
  have hRf : R.frames = 2 := by rw [hR]; rfl
  have hRl : R.locals = 46 := by rw [hR]; rfl
  have hRc : R.cells = 0 := by rw [hR]; rfl
  have hRs : R.slots = 0 := by rw [hR]; rfl
  have hS : va_S A s.heap H locs := by rw [hH, hlo]; exact va_S.rf
  rw [← hH] at hP
  obtain ⟨Q, hQ⟩ : ∃ q : Int32 → S_ → Prop, q = (post_X9_tell p_ ag σ0) := ⟨_, rfl⟩
  rw [← hQ] at hv
  have hinX9 : ∀ w ∈ wsX90, w ∈ wsX9_tell := by decide +kernel
  refine lv_aload_n hx hb dX9_tell_0 rfl (lv_at hl 0 rfl) ?_
  refine lv_iload_n hx hb dX9_tell_1 rfl (lv_at hl 1 rfl) ?_
  have hp := True.intro
  refine k_read_i (w := wR cy ad) (va_runV (As := [.int p_]) (rest := []) ⟨hx, hb, hml, hown, hts⟩ (h_X9_noPerson D cy ad A p_ σ0 hp) (cwV 1 hts gX9_tell_X9_noPerson rfl rfl rfl (by decide +kernel) ⟨le_R hRf (Nat.le_of_ble_eq_true rfl), le_R hRl (Nat.le_of_ble_eq_true rfl)⟩) ⟨(fun a U g mk q => ⟨q.1, q.2.blind⟩), va_recv hK hP (ci := 9) (q0 := 0) rfl (wR_0 cy ad σ0), (fun U hU hW => ⟨rfl, WdR.pre hP hK hD hN hU hW⟩)⟩ rfl rfl hl.1 rfl (lv_room (Nat.le_of_ble_eq_true rfl)) dX9_tell_2 ⟨le_R hRc (Nat.le_refl 0), le_R hRs (Nat.le_refl 0)⟩) hS (fun r H locs hr1 hP hS => ?_)
  subst hr1
  refine lv_if_eq (tgt := 10) hx hb dX9_tell_5 (by decide) (fun c35 => ?_) (fun c35 => ?_)
  · have hv := hv.1 c35
    refine lv_aload_n hx hb dX9_tell_10 rfl (lv_at hl 0 rfl) ?_
    refine va_get (ci := 9) (v := .ref (ad (1))) (C := RX9) (T := TX9) (N := 38) hx hb hts hinX9 hown hK hP 0 (wR_0 cy ad σ0) rfl 2 (by decide) (hts (.fieldLink RX9 7 "TaleBansModel" "kindOf" "[I") (List.mem_of_getElem? (i := 1) rfl)) (fun x h => h) rfl dX9_tell_11 ?_
    refine lv_iload_n hx hb dX9_tell_14 rfl (lv_at hl 1 rfl) ?_
    obtain ⟨hi, hv⟩ := hv
    refine va_iald hx hb hK hP 1 0 (wR_1 cy ad σ0) rfl hi dX9_tell_15 ?_
    refine lv_istore_n (lv' := [(2, .int (rdA σ0 1 (Int32.toNatClampNeg p_))), (0, .ref (ad 0)), (1, .int p_)]) hx hb dX9_tell_16 rfl hl (by decide) rfl (fun ls hl => ?_)
    refine lv_iload_n hx hb dX9_tell_17 rfl (lv_at hl 0 rfl) ?_
    refine lv_iconst (v := 2) hx hb dX9_tell_18 (by decide) ?_
    refine lv_icmp_ne (tgt := 27) hx hb dX9_tell_19 (by decide) (fun c34 => ?_) (fun c34 => ?_)
    · have hv := hv.1 c34
      refine lv_iload_n hx hb dX9_tell_27 rfl (lv_at hl 0 rfl) ?_
      refine lv_if_le (tgt := 36) hx hb dX9_tell_28 (by decide) (fun c16 => ?_) (fun c16 => ?_)
      · have hv := hv.1 c16
        refine lv_aload_n hx hb dX9_tell_36 rfl (lv_at hl 1 rfl) ?_
        refine lv_iconst (v := 1) hx hb dX9_tell_37 (by decide) ?_
        have hp := True.intro
        refine k_rel_v (w := wR cy ad) (va_runV (As := [.int 1]) (rest := []) ⟨hx, hb, hml, hown, hts⟩ (h_X9_traced D cy ad A 1 σ0 hp) (cwV 1 hts gX9_tell_X9_traced rfl rfl rfl (by decide +kernel) ⟨le_R hRf (Nat.le_of_ble_eq_true rfl), le_R hRl (Nat.le_of_ble_eq_true rfl)⟩) ⟨(fun a U g mk q => ⟨q.1, q.2.blind⟩), va_recv hK hP (ci := 9) (q0 := 0) rfl (wR_0 cy ad σ0), (fun U hU hW => ⟨rfl, WdR.pre hP hK hD hN hU hW⟩)⟩ rfl rfl hl.1 rfl (lv_room (Nat.le_of_ble_eq_true rfl)) dX9_tell_38 ⟨le_R hRc (Nat.le_refl 0), le_R hRs (Nat.le_refl 0)⟩) hS (fun σ1 H locs hr1 hP hD hS => ?_)
        have hv := hv σ1 hr1
        refine lv_iload_n hx hb dX9_tell_41 rfl (lv_at hl 0 rfl) ?_
        refine lv_iconst (v := 2) hx hb dX9_tell_42 (by decide) ?_
        refine lv_icmp_ne (tgt := 51) hx hb dX9_tell_43 (by decide) (fun c7 => ?_) (fun c7 => ?_)
        · have hv := hv.1 c7
          refine lv_aload_n hx hb dX9_tell_51 rfl (lv_at hl 1 rfl) ?_
          refine va_get (ci := 9) (v := .ref (ad (2))) (C := RX9) (T := TX9) (N := 38) hx hb hts hinX9 hown hK hP 0 (wR_0 cy ad σ1) rfl 3 (by decide) (hts (.fieldLink RX9 13 "TaleBansModel" "mindsOf" "[I") (List.mem_of_getElem? (i := 2) rfl)) (fun x h => h) rfl dX9_tell_52 ?_
          refine lv_iload_n hx hb dX9_tell_55 rfl (lv_at hl 2 rfl) ?_
          obtain ⟨hi, hv⟩ := hv
          refine va_iald hx hb hK hP 2 0 (wR_2 cy ad σ1) rfl hi dX9_tell_56 ?_
          refine lv_istore_n (lv' := [(3, .int (rdA σ1 2 (Int32.toNatClampNeg p_))), (2, .int (rdA σ0 1 (Int32.toNatClampNeg p_))), (0, .ref (ad 0)), (1, .int p_)]) hx hb dX9_tell_57 rfl hl (by decide) rfl (fun ls hl => ?_)
          refine lv_iload_n hx hb dX9_tell_58 rfl (lv_at hl 1 rfl) ?_
          refine lv_if_ne (tgt := 66) hx hb dX9_tell_59 (by decide) (fun c3 => ?_) (fun c3 => ?_)
          · have hv := hv.1 c3
            refine lv_iload_n hx hb dX9_tell_66 rfl (lv_at hl 1 rfl) ?_
            refine lv_iconst (v := 1) hx hb dX9_tell_67 (by decide) ?_
            refine lv_icmp_ne (tgt := 78) hx hb dX9_tell_68 (by decide) (fun c2 => ?_) (fun c2 => ?_)
            · have hv := hv.1 c2
              refine lv_iconst (v := 2) hx hb dX9_tell_78 (by decide) ?_
              refine lv_iload_n hx hb dX9_tell_79 rfl (lv_at hl 0 rfl) ?_
              refine lv_imul hx hb dX9_tell_80 ?_
              refine lv_bipush (v := 100) hx hb dX9_tell_81 (by decide) ?_
              refine lv_iadd hx hb dX9_tell_83 ?_
              rw [hZ]; rw [hQ] at hv
              exact W.iret (v := ((2 * (rdA σ1 2 (Int32.toNatClampNeg p_))) + 100)) hx hb hr (fun t ht hW => ⟨⟨((2 * (rdA σ1 2 (Int32.toNatClampNeg p_))) + 100), σ1, rfl, hv, ⟨P_of ht hP, hD⟩⟩, hS.F ht⟩) hS.2.2 dX9_tell_84
            · have hv := hv.2 c2
              refine lv_iload_n hx hb dX9_tell_71 rfl (lv_at hl 0 rfl) ?_
              refine lv_bipush (v := 100) hx hb dX9_tell_72 (by decide) ?_
              refine lv_iadd hx hb dX9_tell_74 ?_
              refine lv_goto (tgt := 84) hx hb dX9_tell_75 (by decide) ?_
              rw [hZ]; rw [hQ] at hv
              exact W.iret (v := ((rdA σ1 2 (Int32.toNatClampNeg p_)) + 100)) hx hb hr (fun t ht hW => ⟨⟨((rdA σ1 2 (Int32.toNatClampNeg p_)) + 100), σ1, rfl, hv, ⟨P_of ht hP, hD⟩⟩, hS.F ht⟩) hS.2.2 dX9_tell_84
          · have hv := hv.2 c3
            refine lv_iload_n hx hb dX9_tell_62 rfl (lv_at hl 0 rfl) ?_
            refine lv_goto (tgt := 84) hx hb dX9_tell_63 (by decide) ?_
            rw [hZ]; rw [hQ] at hv
            exact W.iret (v := (rdA σ1 2 (Int32.toNatClampNeg p_))) hx hb hr (fun t ht hW => ⟨⟨(rdA σ1 2 (Int32.toNatClampNeg p_)), σ1, rfl, hv, ⟨P_of ht hP, hD⟩⟩, hS.F ht⟩) hS.2.2 dX9_tell_84
        · have hv := hv.2 c7
          refine lv_aload_n hx hb dX9_tell_46 rfl (lv_at hl 1 rfl) ?_
          refine lv_iconst (v := 1) hx hb dX9_tell_47 (by decide) ?_
          have hp := True.intro
          refine k_rel_v (w := wR cy ad) (va_runV (As := [.int 1]) (rest := []) ⟨hx, hb, hml, hown, hts⟩ (h_X9_traced D cy ad A 1 σ1 hp) (cwV 1 hts gX9_tell_X9_traced rfl rfl rfl (by decide +kernel) ⟨le_R hRf (Nat.le_of_ble_eq_true rfl), le_R hRl (Nat.le_of_ble_eq_true rfl)⟩) ⟨(fun a U g mk q => ⟨q.1, q.2.blind⟩), va_recv hK hP (ci := 9) (q0 := 0) rfl (wR_0 cy ad σ1), (fun U hU hW => ⟨rfl, WdR.pre hP hK hD hN hU hW⟩)⟩ rfl rfl hl.1 rfl (lv_room (Nat.le_of_ble_eq_true rfl)) dX9_tell_48 ⟨le_R hRc (Nat.le_refl 0), le_R hRs (Nat.le_refl 0)⟩) hS (fun σ4 H locs hr1 hP hD hS => ?_)
          have hv := hv σ4 hr1
          refine lv_aload_n hx hb dX9_tell_51 rfl (lv_at hl 1 rfl) ?_
          refine va_get (ci := 9) (v := .ref (ad (2))) (C := RX9) (T := TX9) (N := 38) hx hb hts hinX9 hown hK hP 0 (wR_0 cy ad σ4) rfl 3 (by decide) (hts (.fieldLink RX9 13 "TaleBansModel" "mindsOf" "[I") (List.mem_of_getElem? (i := 2) rfl)) (fun x h => h) rfl dX9_tell_52 ?_
          refine lv_iload_n hx hb dX9_tell_55 rfl (lv_at hl 2 rfl) ?_
          obtain ⟨hi, hv⟩ := hv
          refine va_iald hx hb hK hP 2 0 (wR_2 cy ad σ4) rfl hi dX9_tell_56 ?_
          refine lv_istore_n (lv' := [(3, .int (rdA σ4 2 (Int32.toNatClampNeg p_))), (2, .int (rdA σ0 1 (Int32.toNatClampNeg p_))), (0, .ref (ad 0)), (1, .int p_)]) hx hb dX9_tell_57 rfl hl (by decide) rfl (fun ls hl => ?_)
          refine lv_iload_n hx hb dX9_tell_58 rfl (lv_at hl 1 rfl) ?_
          refine lv_if_ne (tgt := 66) hx hb dX9_tell_59 (by decide) (fun c6 => ?_) (fun c6 => ?_)
          · have hv := hv.1 c6
            refine lv_iload_n hx hb dX9_tell_66 rfl (lv_at hl 1 rfl) ?_
            refine lv_iconst (v := 1) hx hb dX9_tell_67 (by decide) ?_
            refine lv_icmp_ne (tgt := 78) hx hb dX9_tell_68 (by decide) (fun c5 => ?_) (fun c5 => ?_)
            · have hv := hv.1 c5
              refine lv_iconst (v := 2) hx hb dX9_tell_78 (by decide) ?_
              refine lv_iload_n hx hb dX9_tell_79 rfl (lv_at hl 0 rfl) ?_
              refine lv_imul hx hb dX9_tell_80 ?_
              refine lv_bipush (v := 100) hx hb dX9_tell_81 (by decide) ?_
              refine lv_iadd hx hb dX9_tell_83 ?_
              rw [hZ]; rw [hQ] at hv
              exact W.iret (v := ((2 * (rdA σ4 2 (Int32.toNatClampNeg p_))) + 100)) hx hb hr (fun t ht hW => ⟨⟨((2 * (rdA σ4 2 (Int32.toNatClampNeg p_))) + 100), σ4, rfl, hv, ⟨P_of ht hP, hD⟩⟩, hS.F ht⟩) hS.2.2 dX9_tell_84
            · have hv := hv.2 c5
              refine lv_iload_n hx hb dX9_tell_71 rfl (lv_at hl 0 rfl) ?_
              refine lv_bipush (v := 100) hx hb dX9_tell_72 (by decide) ?_
              refine lv_iadd hx hb dX9_tell_74 ?_
              refine lv_goto (tgt := 84) hx hb dX9_tell_75 (by decide) ?_
              rw [hZ]; rw [hQ] at hv
              exact W.iret (v := ((rdA σ4 2 (Int32.toNatClampNeg p_)) + 100)) hx hb hr (fun t ht hW => ⟨⟨((rdA σ4 2 (Int32.toNatClampNeg p_)) + 100), σ4, rfl, hv, ⟨P_of ht hP, hD⟩⟩, hS.F ht⟩) hS.2.2 dX9_tell_84
          · have hv := hv.2 c6
            refine lv_iload_n hx hb dX9_tell_62 rfl (lv_at hl 0 rfl) ?_
            refine lv_goto (tgt := 84) hx hb dX9_tell_63 (by decide) ?_
            rw [hZ]; rw [hQ] at hv
            exact W.iret (v := (rdA σ4 2 (Int32.toNatClampNeg p_))) hx hb hr (fun t ht hW => ⟨⟨(rdA σ4 2 (Int32.toNatClampNeg p_)), σ4, rfl, hv, ⟨P_of ht hP, hD⟩⟩, hS.F ht⟩) hS.2.2 dX9_tell_84
      · have hv := hv.2 c16
        refine lv_aload_n hx hb dX9_tell_31 rfl (lv_at hl 1 rfl) ?_
        refine lv_iconst (v := 2) hx hb dX9_tell_32 (by decide) ?_
        have hp := True.intro
        refine k_rel_v (w := wR cy ad) (va_runV (As := [.int 2]) (rest := []) ⟨hx, hb, hml, hown, hts⟩ (h_X9_traced D cy ad A 2 σ0 hp) (cwV 1 hts gX9_tell_X9_traced rfl rfl rfl (by decide +kernel) ⟨le_R hRf (Nat.le_of_ble_eq_true rfl), le_R hRl (Nat.le_of_ble_eq_true rfl)⟩) ⟨(fun a U g mk q => ⟨q.1, q.2.blind⟩), va_recv hK hP (ci := 9) (q0 := 0) rfl (wR_0 cy ad σ0), (fun U hU hW => ⟨rfl, WdR.pre hP hK hD hN hU hW⟩)⟩ rfl rfl hl.1 rfl (lv_room (Nat.le_of_ble_eq_true rfl)) dX9_tell_33 ⟨le_R hRc (Nat.le_refl 0), le_R hRs (Nat.le_refl 0)⟩) hS (fun σ8 H locs hr1 hP hD hS => ?_)
        have hv := hv σ8 hr1
        refine lv_aload_n hx hb dX9_tell_36 rfl (lv_at hl 1 rfl) ?_
        refine lv_iconst (v := 1) hx hb dX9_tell_37 (by decide) ?_
        have hp := True.intro
        refine k_rel_v (w := wR cy ad) (va_runV (As := [.int 1]) (rest := []) ⟨hx, hb, hml, hown, hts⟩ (h_X9_traced D cy ad A 1 σ8 hp) (cwV 1 hts gX9_tell_X9_traced rfl rfl rfl (by decide +kernel) ⟨le_R hRf (Nat.le_of_ble_eq_true rfl), le_R hRl (Nat.le_of_ble_eq_true rfl)⟩) ⟨(fun a U g mk q => ⟨q.1, q.2.blind⟩), va_recv hK hP (ci := 9) (q0 := 0) rfl (wR_0 cy ad σ8), (fun U hU hW => ⟨rfl, WdR.pre hP hK hD hN hU hW⟩)⟩ rfl rfl hl.1 rfl (lv_room (Nat.le_of_ble_eq_true rfl)) dX9_tell_38 ⟨le_R hRc (Nat.le_refl 0), le_R hRs (Nat.le_refl 0)⟩) hS (fun σ9 H locs hr1 hP hD hS => ?_)
        have hv := hv σ9 hr1
        refine lv_iload_n hx hb dX9_tell_41 rfl (lv_at hl 0 rfl) ?_
        refine lv_iconst (v := 2) hx hb dX9_tell_42 (by decide) ?_
        refine lv_icmp_ne (tgt := 51) hx hb dX9_tell_43 (by decide) (fun c15 => ?_) (fun c15 => ?_)
        · have hv := hv.1 c15
          refine lv_aload_n hx hb dX9_tell_51 rfl (lv_at hl 1 rfl) ?_
          refine va_get (ci := 9) (v := .ref (ad (2))) (C := RX9) (T := TX9) (N := 38) hx hb hts hinX9 hown hK hP 0 (wR_0 cy ad σ9) rfl 3 (by decide) (hts (.fieldLink RX9 13 "TaleBansModel" "mindsOf" "[I") (List.mem_of_getElem? (i := 2) rfl)) (fun x h => h) rfl dX9_tell_52 ?_
          refine lv_iload_n hx hb dX9_tell_55 rfl (lv_at hl 2 rfl) ?_
          obtain ⟨hi, hv⟩ := hv
          refine va_iald hx hb hK hP 2 0 (wR_2 cy ad σ9) rfl hi dX9_tell_56 ?_
          refine lv_istore_n (lv' := [(3, .int (rdA σ9 2 (Int32.toNatClampNeg p_))), (2, .int (rdA σ0 1 (Int32.toNatClampNeg p_))), (0, .ref (ad 0)), (1, .int p_)]) hx hb dX9_tell_57 rfl hl (by decide) rfl (fun ls hl => ?_)
          refine lv_iload_n hx hb dX9_tell_58 rfl (lv_at hl 1 rfl) ?_
          refine lv_if_ne (tgt := 66) hx hb dX9_tell_59 (by decide) (fun c11 => ?_) (fun c11 => ?_)
          · have hv := hv.1 c11
            refine lv_iload_n hx hb dX9_tell_66 rfl (lv_at hl 1 rfl) ?_
            refine lv_iconst (v := 1) hx hb dX9_tell_67 (by decide) ?_
            refine lv_icmp_ne (tgt := 78) hx hb dX9_tell_68 (by decide) (fun c10 => ?_) (fun c10 => ?_)
            · have hv := hv.1 c10
              refine lv_iconst (v := 2) hx hb dX9_tell_78 (by decide) ?_
              refine lv_iload_n hx hb dX9_tell_79 rfl (lv_at hl 0 rfl) ?_
              refine lv_imul hx hb dX9_tell_80 ?_
              refine lv_bipush (v := 100) hx hb dX9_tell_81 (by decide) ?_
              refine lv_iadd hx hb dX9_tell_83 ?_
              rw [hZ]; rw [hQ] at hv
              exact W.iret (v := ((2 * (rdA σ9 2 (Int32.toNatClampNeg p_))) + 100)) hx hb hr (fun t ht hW => ⟨⟨((2 * (rdA σ9 2 (Int32.toNatClampNeg p_))) + 100), σ9, rfl, hv, ⟨P_of ht hP, hD⟩⟩, hS.F ht⟩) hS.2.2 dX9_tell_84
            · have hv := hv.2 c10
              refine lv_iload_n hx hb dX9_tell_71 rfl (lv_at hl 0 rfl) ?_
              refine lv_bipush (v := 100) hx hb dX9_tell_72 (by decide) ?_
              refine lv_iadd hx hb dX9_tell_74 ?_
              refine lv_goto (tgt := 84) hx hb dX9_tell_75 (by decide) ?_
              rw [hZ]; rw [hQ] at hv
              exact W.iret (v := ((rdA σ9 2 (Int32.toNatClampNeg p_)) + 100)) hx hb hr (fun t ht hW => ⟨⟨((rdA σ9 2 (Int32.toNatClampNeg p_)) + 100), σ9, rfl, hv, ⟨P_of ht hP, hD⟩⟩, hS.F ht⟩) hS.2.2 dX9_tell_84
          · have hv := hv.2 c11
            refine lv_iload_n hx hb dX9_tell_62 rfl (lv_at hl 0 rfl) ?_
            refine lv_goto (tgt := 84) hx hb dX9_tell_63 (by decide) ?_
            rw [hZ]; rw [hQ] at hv
            exact W.iret (v := (rdA σ9 2 (Int32.toNatClampNeg p_))) hx hb hr (fun t ht hW => ⟨⟨(rdA σ9 2 (Int32.toNatClampNeg p_)), σ9, rfl, hv, ⟨P_of ht hP, hD⟩⟩, hS.F ht⟩) hS.2.2 dX9_tell_84
        · have hv := hv.2 c15
          refine lv_aload_n hx hb dX9_tell_46 rfl (lv_at hl 1 rfl) ?_
          refine lv_iconst (v := 1) hx hb dX9_tell_47 (by decide) ?_
          have hp := True.intro
          refine k_rel_v (w := wR cy ad) (va_runV (As := [.int 1]) (rest := []) ⟨hx, hb, hml, hown, hts⟩ (h_X9_traced D cy ad A 1 σ9 hp) (cwV 1 hts gX9_tell_X9_traced rfl rfl rfl (by decide +kernel) ⟨le_R hRf (Nat.le_of_ble_eq_true rfl), le_R hRl (Nat.le_of_ble_eq_true rfl)⟩) ⟨(fun a U g mk q => ⟨q.1, q.2.blind⟩), va_recv hK hP (ci := 9) (q0 := 0) rfl (wR_0 cy ad σ9), (fun U hU hW => ⟨rfl, WdR.pre hP hK hD hN hU hW⟩)⟩ rfl rfl hl.1 rfl (lv_room (Nat.le_of_ble_eq_true rfl)) dX9_tell_48 ⟨le_R hRc (Nat.le_refl 0), le_R hRs (Nat.le_refl 0)⟩) hS (fun σ12 H locs hr1 hP hD hS => ?_)
          have hv := hv σ12 hr1
          refine lv_aload_n hx hb dX9_tell_51 rfl (lv_at hl 1 rfl) ?_
          refine va_get (ci := 9) (v := .ref (ad (2))) (C := RX9) (T := TX9) (N := 38) hx hb hts hinX9 hown hK hP 0 (wR_0 cy ad σ12) rfl 3 (by decide) (hts (.fieldLink RX9 13 "TaleBansModel" "mindsOf" "[I") (List.mem_of_getElem? (i := 2) rfl)) (fun x h => h) rfl dX9_tell_52 ?_
          refine lv_iload_n hx hb dX9_tell_55 rfl (lv_at hl 2 rfl) ?_
          obtain ⟨hi, hv⟩ := hv
          refine va_iald hx hb hK hP 2 0 (wR_2 cy ad σ12) rfl hi dX9_tell_56 ?_
          refine lv_istore_n (lv' := [(3, .int (rdA σ12 2 (Int32.toNatClampNeg p_))), (2, .int (rdA σ0 1 (Int32.toNatClampNeg p_))), (0, .ref (ad 0)), (1, .int p_)]) hx hb dX9_tell_57 rfl hl (by decide) rfl (fun ls hl => ?_)
          refine lv_iload_n hx hb dX9_tell_58 rfl (lv_at hl 1 rfl) ?_
          refine lv_if_ne (tgt := 66) hx hb dX9_tell_59 (by decide) (fun c14 => ?_) (fun c14 => ?_)
          · have hv := hv.1 c14
            refine lv_iload_n hx hb dX9_tell_66 rfl (lv_at hl 1 rfl) ?_
            refine lv_iconst (v := 1) hx hb dX9_tell_67 (by decide) ?_
            refine lv_icmp_ne (tgt := 78) hx hb dX9_tell_68 (by decide) (fun c13 => ?_) (fun c13 => ?_)
            · have hv := hv.1 c13
              refine lv_iconst (v := 2) hx hb dX9_tell_78 (by decide) ?_
              refine lv_iload_n hx hb dX9_tell_79 rfl (lv_at hl 0 rfl) ?_
              refine lv_imul hx hb dX9_tell_80 ?_
              refine lv_bipush (v := 100) hx hb dX9_tell_81 (by decide) ?_
              refine lv_iadd hx hb dX9_tell_83 ?_
              rw [hZ]; rw [hQ] at hv
              exact W.iret (v := ((2 * (rdA σ12 2 (Int32.toNatClampNeg p_))) + 100)) hx hb hr (fun t ht hW => ⟨⟨((2 * (rdA σ12 2 (Int32.toNatClampNeg p_))) + 100), σ12, rfl, hv, ⟨P_of ht hP, hD⟩⟩, hS.F ht⟩) hS.2.2 dX9_tell_84
            · have hv := hv.2 c13
              refine lv_iload_n hx hb dX9_tell_71 rfl (lv_at hl 0 rfl) ?_
              refine lv_bipush (v := 100) hx hb dX9_tell_72 (by decide) ?_
              refine lv_iadd hx hb dX9_tell_74 ?_
              refine lv_goto (tgt := 84) hx hb dX9_tell_75 (by decide) ?_
              rw [hZ]; rw [hQ] at hv
              exact W.iret (v := ((rdA σ12 2 (Int32.toNatClampNeg p_)) + 100)) hx hb hr (fun t ht hW => ⟨⟨((rdA σ12 2 (Int32.toNatClampNeg p_)) + 100), σ12, rfl, hv, ⟨P_of ht hP, hD⟩⟩, hS.F ht⟩) hS.2.2 dX9_tell_84
          · have hv := hv.2 c14
            refine lv_iload_n hx hb dX9_tell_62 rfl (lv_at hl 0 rfl) ?_
            refine lv_goto (tgt := 84) hx hb dX9_tell_63 (by decide) ?_
            rw [hZ]; rw [hQ] at hv
            exact W.iret (v := (rdA σ12 2 (Int32.toNatClampNeg p_))) hx hb hr (fun t ht hW => ⟨⟨(rdA σ12 2 (Int32.toNatClampNeg p_)), σ12, rfl, hv, ⟨P_of ht hP, hD⟩⟩, hS.F ht⟩) hS.2.2 dX9_tell_84
    · have hv := hv.2 c34
      refine lv_aload_n hx hb dX9_tell_22 rfl (lv_at hl 1 rfl) ?_
      refine lv_iconst (v := 3) hx hb dX9_tell_23 (by decide) ?_
      have hp := True.intro
      refine k_rel_v (w := wR cy ad) (va_runV (As := [.int 3]) (rest := []) ⟨hx, hb, hml, hown, hts⟩ (h_X9_traced D cy ad A 3 σ0 hp) (cwV 1 hts gX9_tell_X9_traced rfl rfl rfl (by decide +kernel) ⟨le_R hRf (Nat.le_of_ble_eq_true rfl), le_R hRl (Nat.le_of_ble_eq_true rfl)⟩) ⟨(fun a U g mk q => ⟨q.1, q.2.blind⟩), va_recv hK hP (ci := 9) (q0 := 0) rfl (wR_0 cy ad σ0), (fun U hU hW => ⟨rfl, WdR.pre hP hK hD hN hU hW⟩)⟩ rfl rfl hl.1 rfl (lv_room (Nat.le_of_ble_eq_true rfl)) dX9_tell_24 ⟨le_R hRc (Nat.le_refl 0), le_R hRs (Nat.le_refl 0)⟩) hS (fun σ17 H locs hr1 hP hD hS => ?_)
      have hv := hv σ17 hr1
      refine lv_iload_n hx hb dX9_tell_27 rfl (lv_at hl 0 rfl) ?_
      refine lv_if_le (tgt := 36) hx hb dX9_tell_28 (by decide) (fun c33 => ?_) (fun c33 => ?_)
      · have hv := hv.1 c33
        refine lv_aload_n hx hb dX9_tell_36 rfl (lv_at hl 1 rfl) ?_
        refine lv_iconst (v := 1) hx hb dX9_tell_37 (by decide) ?_
        have hp := True.intro
        refine k_rel_v (w := wR cy ad) (va_runV (As := [.int 1]) (rest := []) ⟨hx, hb, hml, hown, hts⟩ (h_X9_traced D cy ad A 1 σ17 hp) (cwV 1 hts gX9_tell_X9_traced rfl rfl rfl (by decide +kernel) ⟨le_R hRf (Nat.le_of_ble_eq_true rfl), le_R hRl (Nat.le_of_ble_eq_true rfl)⟩) ⟨(fun a U g mk q => ⟨q.1, q.2.blind⟩), va_recv hK hP (ci := 9) (q0 := 0) rfl (wR_0 cy ad σ17), (fun U hU hW => ⟨rfl, WdR.pre hP hK hD hN hU hW⟩)⟩ rfl rfl hl.1 rfl (lv_room (Nat.le_of_ble_eq_true rfl)) dX9_tell_38 ⟨le_R hRc (Nat.le_refl 0), le_R hRs (Nat.le_refl 0)⟩) hS (fun σ18 H locs hr1 hP hD hS => ?_)
        have hv := hv σ18 hr1
        refine lv_iload_n hx hb dX9_tell_41 rfl (lv_at hl 0 rfl) ?_
        refine lv_iconst (v := 2) hx hb dX9_tell_42 (by decide) ?_
        refine lv_icmp_ne (tgt := 51) hx hb dX9_tell_43 (by decide) (fun c24 => ?_) (fun c24 => ?_)
        · have hv := hv.1 c24
          refine lv_aload_n hx hb dX9_tell_51 rfl (lv_at hl 1 rfl) ?_
          refine va_get (ci := 9) (v := .ref (ad (2))) (C := RX9) (T := TX9) (N := 38) hx hb hts hinX9 hown hK hP 0 (wR_0 cy ad σ18) rfl 3 (by decide) (hts (.fieldLink RX9 13 "TaleBansModel" "mindsOf" "[I") (List.mem_of_getElem? (i := 2) rfl)) (fun x h => h) rfl dX9_tell_52 ?_
          refine lv_iload_n hx hb dX9_tell_55 rfl (lv_at hl 2 rfl) ?_
          obtain ⟨hi, hv⟩ := hv
          refine va_iald hx hb hK hP 2 0 (wR_2 cy ad σ18) rfl hi dX9_tell_56 ?_
          refine lv_istore_n (lv' := [(3, .int (rdA σ18 2 (Int32.toNatClampNeg p_))), (2, .int (rdA σ0 1 (Int32.toNatClampNeg p_))), (0, .ref (ad 0)), (1, .int p_)]) hx hb dX9_tell_57 rfl hl (by decide) rfl (fun ls hl => ?_)
          refine lv_iload_n hx hb dX9_tell_58 rfl (lv_at hl 1 rfl) ?_
          refine lv_if_ne (tgt := 66) hx hb dX9_tell_59 (by decide) (fun c20 => ?_) (fun c20 => ?_)
          · have hv := hv.1 c20
            refine lv_iload_n hx hb dX9_tell_66 rfl (lv_at hl 1 rfl) ?_
            refine lv_iconst (v := 1) hx hb dX9_tell_67 (by decide) ?_
            refine lv_icmp_ne (tgt := 78) hx hb dX9_tell_68 (by decide) (fun c19 => ?_) (fun c19 => ?_)
            · have hv := hv.1 c19
              refine lv_iconst (v := 2) hx hb dX9_tell_78 (by decide) ?_
              refine lv_iload_n hx hb dX9_tell_79 rfl (lv_at hl 0 rfl) ?_
              refine lv_imul hx hb dX9_tell_80 ?_
              refine lv_bipush (v := 100) hx hb dX9_tell_81 (by decide) ?_
              refine lv_iadd hx hb dX9_tell_83 ?_
              rw [hZ]; rw [hQ] at hv
              exact W.iret (v := ((2 * (rdA σ18 2 (Int32.toNatClampNeg p_))) + 100)) hx hb hr (fun t ht hW => ⟨⟨((2 * (rdA σ18 2 (Int32.toNatClampNeg p_))) + 100), σ18, rfl, hv, ⟨P_of ht hP, hD⟩⟩, hS.F ht⟩) hS.2.2 dX9_tell_84
            · have hv := hv.2 c19
              refine lv_iload_n hx hb dX9_tell_71 rfl (lv_at hl 0 rfl) ?_
              refine lv_bipush (v := 100) hx hb dX9_tell_72 (by decide) ?_
              refine lv_iadd hx hb dX9_tell_74 ?_
              refine lv_goto (tgt := 84) hx hb dX9_tell_75 (by decide) ?_
              rw [hZ]; rw [hQ] at hv
              exact W.iret (v := ((rdA σ18 2 (Int32.toNatClampNeg p_)) + 100)) hx hb hr (fun t ht hW => ⟨⟨((rdA σ18 2 (Int32.toNatClampNeg p_)) + 100), σ18, rfl, hv, ⟨P_of ht hP, hD⟩⟩, hS.F ht⟩) hS.2.2 dX9_tell_84
          · have hv := hv.2 c20
            refine lv_iload_n hx hb dX9_tell_62 rfl (lv_at hl 0 rfl) ?_
            refine lv_goto (tgt := 84) hx hb dX9_tell_63 (by decide) ?_
            rw [hZ]; rw [hQ] at hv
            exact W.iret (v := (rdA σ18 2 (Int32.toNatClampNeg p_))) hx hb hr (fun t ht hW => ⟨⟨(rdA σ18 2 (Int32.toNatClampNeg p_)), σ18, rfl, hv, ⟨P_of ht hP, hD⟩⟩, hS.F ht⟩) hS.2.2 dX9_tell_84
        · have hv := hv.2 c24
          refine lv_aload_n hx hb dX9_tell_46 rfl (lv_at hl 1 rfl) ?_
          refine lv_iconst (v := 1) hx hb dX9_tell_47 (by decide) ?_
          have hp := True.intro
          refine k_rel_v (w := wR cy ad) (va_runV (As := [.int 1]) (rest := []) ⟨hx, hb, hml, hown, hts⟩ (h_X9_traced D cy ad A 1 σ18 hp) (cwV 1 hts gX9_tell_X9_traced rfl rfl rfl (by decide +kernel) ⟨le_R hRf (Nat.le_of_ble_eq_true rfl), le_R hRl (Nat.le_of_ble_eq_true rfl)⟩) ⟨(fun a U g mk q => ⟨q.1, q.2.blind⟩), va_recv hK hP (ci := 9) (q0 := 0) rfl (wR_0 cy ad σ18), (fun U hU hW => ⟨rfl, WdR.pre hP hK hD hN hU hW⟩)⟩ rfl rfl hl.1 rfl (lv_room (Nat.le_of_ble_eq_true rfl)) dX9_tell_48 ⟨le_R hRc (Nat.le_refl 0), le_R hRs (Nat.le_refl 0)⟩) hS (fun σ21 H locs hr1 hP hD hS => ?_)
          have hv := hv σ21 hr1
          refine lv_aload_n hx hb dX9_tell_51 rfl (lv_at hl 1 rfl) ?_
          refine va_get (ci := 9) (v := .ref (ad (2))) (C := RX9) (T := TX9) (N := 38) hx hb hts hinX9 hown hK hP 0 (wR_0 cy ad σ21) rfl 3 (by decide) (hts (.fieldLink RX9 13 "TaleBansModel" "mindsOf" "[I") (List.mem_of_getElem? (i := 2) rfl)) (fun x h => h) rfl dX9_tell_52 ?_
          refine lv_iload_n hx hb dX9_tell_55 rfl (lv_at hl 2 rfl) ?_
          obtain ⟨hi, hv⟩ := hv
          refine va_iald hx hb hK hP 2 0 (wR_2 cy ad σ21) rfl hi dX9_tell_56 ?_
          refine lv_istore_n (lv' := [(3, .int (rdA σ21 2 (Int32.toNatClampNeg p_))), (2, .int (rdA σ0 1 (Int32.toNatClampNeg p_))), (0, .ref (ad 0)), (1, .int p_)]) hx hb dX9_tell_57 rfl hl (by decide) rfl (fun ls hl => ?_)
          refine lv_iload_n hx hb dX9_tell_58 rfl (lv_at hl 1 rfl) ?_
          refine lv_if_ne (tgt := 66) hx hb dX9_tell_59 (by decide) (fun c23 => ?_) (fun c23 => ?_)
          · have hv := hv.1 c23
            refine lv_iload_n hx hb dX9_tell_66 rfl (lv_at hl 1 rfl) ?_
            refine lv_iconst (v := 1) hx hb dX9_tell_67 (by decide) ?_
            refine lv_icmp_ne (tgt := 78) hx hb dX9_tell_68 (by decide) (fun c22 => ?_) (fun c22 => ?_)
            · have hv := hv.1 c22
              refine lv_iconst (v := 2) hx hb dX9_tell_78 (by decide) ?_
              refine lv_iload_n hx hb dX9_tell_79 rfl (lv_at hl 0 rfl) ?_
              refine lv_imul hx hb dX9_tell_80 ?_
              refine lv_bipush (v := 100) hx hb dX9_tell_81 (by decide) ?_
              refine lv_iadd hx hb dX9_tell_83 ?_
              rw [hZ]; rw [hQ] at hv
              exact W.iret (v := ((2 * (rdA σ21 2 (Int32.toNatClampNeg p_))) + 100)) hx hb hr (fun t ht hW => ⟨⟨((2 * (rdA σ21 2 (Int32.toNatClampNeg p_))) + 100), σ21, rfl, hv, ⟨P_of ht hP, hD⟩⟩, hS.F ht⟩) hS.2.2 dX9_tell_84
            · have hv := hv.2 c22
              refine lv_iload_n hx hb dX9_tell_71 rfl (lv_at hl 0 rfl) ?_
              refine lv_bipush (v := 100) hx hb dX9_tell_72 (by decide) ?_
              refine lv_iadd hx hb dX9_tell_74 ?_
              refine lv_goto (tgt := 84) hx hb dX9_tell_75 (by decide) ?_
              rw [hZ]; rw [hQ] at hv
              exact W.iret (v := ((rdA σ21 2 (Int32.toNatClampNeg p_)) + 100)) hx hb hr (fun t ht hW => ⟨⟨((rdA σ21 2 (Int32.toNatClampNeg p_)) + 100), σ21, rfl, hv, ⟨P_of ht hP, hD⟩⟩, hS.F ht⟩) hS.2.2 dX9_tell_84
          · have hv := hv.2 c23
            refine lv_iload_n hx hb dX9_tell_62 rfl (lv_at hl 0 rfl) ?_
            refine lv_goto (tgt := 84) hx hb dX9_tell_63 (by decide) ?_
            rw [hZ]; rw [hQ] at hv
            exact W.iret (v := (rdA σ21 2 (Int32.toNatClampNeg p_))) hx hb hr (fun t ht hW => ⟨⟨(rdA σ21 2 (Int32.toNatClampNeg p_)), σ21, rfl, hv, ⟨P_of ht hP, hD⟩⟩, hS.F ht⟩) hS.2.2 dX9_tell_84
      · have hv := hv.2 c33
        refine lv_aload_n hx hb dX9_tell_31 rfl (lv_at hl 1 rfl) ?_
        refine lv_iconst (v := 2) hx hb dX9_tell_32 (by decide) ?_
        have hp := True.intro
        refine k_rel_v (w := wR cy ad) (va_runV (As := [.int 2]) (rest := []) ⟨hx, hb, hml, hown, hts⟩ (h_X9_traced D cy ad A 2 σ17 hp) (cwV 1 hts gX9_tell_X9_traced rfl rfl rfl (by decide +kernel) ⟨le_R hRf (Nat.le_of_ble_eq_true rfl), le_R hRl (Nat.le_of_ble_eq_true rfl)⟩) ⟨(fun a U g mk q => ⟨q.1, q.2.blind⟩), va_recv hK hP (ci := 9) (q0 := 0) rfl (wR_0 cy ad σ17), (fun U hU hW => ⟨rfl, WdR.pre hP hK hD hN hU hW⟩)⟩ rfl rfl hl.1 rfl (lv_room (Nat.le_of_ble_eq_true rfl)) dX9_tell_33 ⟨le_R hRc (Nat.le_refl 0), le_R hRs (Nat.le_refl 0)⟩) hS (fun σ25 H locs hr1 hP hD hS => ?_)
        have hv := hv σ25 hr1
        refine lv_aload_n hx hb dX9_tell_36 rfl (lv_at hl 1 rfl) ?_
        refine lv_iconst (v := 1) hx hb dX9_tell_37 (by decide) ?_
        have hp := True.intro
        refine k_rel_v (w := wR cy ad) (va_runV (As := [.int 1]) (rest := []) ⟨hx, hb, hml, hown, hts⟩ (h_X9_traced D cy ad A 1 σ25 hp) (cwV 1 hts gX9_tell_X9_traced rfl rfl rfl (by decide +kernel) ⟨le_R hRf (Nat.le_of_ble_eq_true rfl), le_R hRl (Nat.le_of_ble_eq_true rfl)⟩) ⟨(fun a U g mk q => ⟨q.1, q.2.blind⟩), va_recv hK hP (ci := 9) (q0 := 0) rfl (wR_0 cy ad σ25), (fun U hU hW => ⟨rfl, WdR.pre hP hK hD hN hU hW⟩)⟩ rfl rfl hl.1 rfl (lv_room (Nat.le_of_ble_eq_true rfl)) dX9_tell_38 ⟨le_R hRc (Nat.le_refl 0), le_R hRs (Nat.le_refl 0)⟩) hS (fun σ26 H locs hr1 hP hD hS => ?_)
        have hv := hv σ26 hr1
        refine lv_iload_n hx hb dX9_tell_41 rfl (lv_at hl 0 rfl) ?_
        refine lv_iconst (v := 2) hx hb dX9_tell_42 (by decide) ?_
        refine lv_icmp_ne (tgt := 51) hx hb dX9_tell_43 (by decide) (fun c32 => ?_) (fun c32 => ?_)
        · have hv := hv.1 c32
          refine lv_aload_n hx hb dX9_tell_51 rfl (lv_at hl 1 rfl) ?_
          refine va_get (ci := 9) (v := .ref (ad (2))) (C := RX9) (T := TX9) (N := 38) hx hb hts hinX9 hown hK hP 0 (wR_0 cy ad σ26) rfl 3 (by decide) (hts (.fieldLink RX9 13 "TaleBansModel" "mindsOf" "[I") (List.mem_of_getElem? (i := 2) rfl)) (fun x h => h) rfl dX9_tell_52 ?_
          refine lv_iload_n hx hb dX9_tell_55 rfl (lv_at hl 2 rfl) ?_
          obtain ⟨hi, hv⟩ := hv
          refine va_iald hx hb hK hP 2 0 (wR_2 cy ad σ26) rfl hi dX9_tell_56 ?_
          refine lv_istore_n (lv' := [(3, .int (rdA σ26 2 (Int32.toNatClampNeg p_))), (2, .int (rdA σ0 1 (Int32.toNatClampNeg p_))), (0, .ref (ad 0)), (1, .int p_)]) hx hb dX9_tell_57 rfl hl (by decide) rfl (fun ls hl => ?_)
          refine lv_iload_n hx hb dX9_tell_58 rfl (lv_at hl 1 rfl) ?_
          refine lv_if_ne (tgt := 66) hx hb dX9_tell_59 (by decide) (fun c28 => ?_) (fun c28 => ?_)
          · have hv := hv.1 c28
            refine lv_iload_n hx hb dX9_tell_66 rfl (lv_at hl 1 rfl) ?_
            refine lv_iconst (v := 1) hx hb dX9_tell_67 (by decide) ?_
            refine lv_icmp_ne (tgt := 78) hx hb dX9_tell_68 (by decide) (fun c27 => ?_) (fun c27 => ?_)
            · have hv := hv.1 c27
              refine lv_iconst (v := 2) hx hb dX9_tell_78 (by decide) ?_
              refine lv_iload_n hx hb dX9_tell_79 rfl (lv_at hl 0 rfl) ?_
              refine lv_imul hx hb dX9_tell_80 ?_
              refine lv_bipush (v := 100) hx hb dX9_tell_81 (by decide) ?_
              refine lv_iadd hx hb dX9_tell_83 ?_
              rw [hZ]; rw [hQ] at hv
              exact W.iret (v := ((2 * (rdA σ26 2 (Int32.toNatClampNeg p_))) + 100)) hx hb hr (fun t ht hW => ⟨⟨((2 * (rdA σ26 2 (Int32.toNatClampNeg p_))) + 100), σ26, rfl, hv, ⟨P_of ht hP, hD⟩⟩, hS.F ht⟩) hS.2.2 dX9_tell_84
            · have hv := hv.2 c27
              refine lv_iload_n hx hb dX9_tell_71 rfl (lv_at hl 0 rfl) ?_
              refine lv_bipush (v := 100) hx hb dX9_tell_72 (by decide) ?_
              refine lv_iadd hx hb dX9_tell_74 ?_
              refine lv_goto (tgt := 84) hx hb dX9_tell_75 (by decide) ?_
              rw [hZ]; rw [hQ] at hv
              exact W.iret (v := ((rdA σ26 2 (Int32.toNatClampNeg p_)) + 100)) hx hb hr (fun t ht hW => ⟨⟨((rdA σ26 2 (Int32.toNatClampNeg p_)) + 100), σ26, rfl, hv, ⟨P_of ht hP, hD⟩⟩, hS.F ht⟩) hS.2.2 dX9_tell_84
          · have hv := hv.2 c28
            refine lv_iload_n hx hb dX9_tell_62 rfl (lv_at hl 0 rfl) ?_
            refine lv_goto (tgt := 84) hx hb dX9_tell_63 (by decide) ?_
            rw [hZ]; rw [hQ] at hv
            exact W.iret (v := (rdA σ26 2 (Int32.toNatClampNeg p_))) hx hb hr (fun t ht hW => ⟨⟨(rdA σ26 2 (Int32.toNatClampNeg p_)), σ26, rfl, hv, ⟨P_of ht hP, hD⟩⟩, hS.F ht⟩) hS.2.2 dX9_tell_84
        · have hv := hv.2 c32
          refine lv_aload_n hx hb dX9_tell_46 rfl (lv_at hl 1 rfl) ?_
          refine lv_iconst (v := 1) hx hb dX9_tell_47 (by decide) ?_
          have hp := True.intro
          refine k_rel_v (w := wR cy ad) (va_runV (As := [.int 1]) (rest := []) ⟨hx, hb, hml, hown, hts⟩ (h_X9_traced D cy ad A 1 σ26 hp) (cwV 1 hts gX9_tell_X9_traced rfl rfl rfl (by decide +kernel) ⟨le_R hRf (Nat.le_of_ble_eq_true rfl), le_R hRl (Nat.le_of_ble_eq_true rfl)⟩) ⟨(fun a U g mk q => ⟨q.1, q.2.blind⟩), va_recv hK hP (ci := 9) (q0 := 0) rfl (wR_0 cy ad σ26), (fun U hU hW => ⟨rfl, WdR.pre hP hK hD hN hU hW⟩)⟩ rfl rfl hl.1 rfl (lv_room (Nat.le_of_ble_eq_true rfl)) dX9_tell_48 ⟨le_R hRc (Nat.le_refl 0), le_R hRs (Nat.le_refl 0)⟩) hS (fun σ29 H locs hr1 hP hD hS => ?_)
          have hv := hv σ29 hr1
          refine lv_aload_n hx hb dX9_tell_51 rfl (lv_at hl 1 rfl) ?_
          refine va_get (ci := 9) (v := .ref (ad (2))) (C := RX9) (T := TX9) (N := 38) hx hb hts hinX9 hown hK hP 0 (wR_0 cy ad σ29) rfl 3 (by decide) (hts (.fieldLink RX9 13 "TaleBansModel" "mindsOf" "[I") (List.mem_of_getElem? (i := 2) rfl)) (fun x h => h) rfl dX9_tell_52 ?_
          refine lv_iload_n hx hb dX9_tell_55 rfl (lv_at hl 2 rfl) ?_
          obtain ⟨hi, hv⟩ := hv
          refine va_iald hx hb hK hP 2 0 (wR_2 cy ad σ29) rfl hi dX9_tell_56 ?_
          refine lv_istore_n (lv' := [(3, .int (rdA σ29 2 (Int32.toNatClampNeg p_))), (2, .int (rdA σ0 1 (Int32.toNatClampNeg p_))), (0, .ref (ad 0)), (1, .int p_)]) hx hb dX9_tell_57 rfl hl (by decide) rfl (fun ls hl => ?_)
          refine lv_iload_n hx hb dX9_tell_58 rfl (lv_at hl 1 rfl) ?_
          refine lv_if_ne (tgt := 66) hx hb dX9_tell_59 (by decide) (fun c31 => ?_) (fun c31 => ?_)
          · have hv := hv.1 c31
            refine lv_iload_n hx hb dX9_tell_66 rfl (lv_at hl 1 rfl) ?_
            refine lv_iconst (v := 1) hx hb dX9_tell_67 (by decide) ?_
            refine lv_icmp_ne (tgt := 78) hx hb dX9_tell_68 (by decide) (fun c30 => ?_) (fun c30 => ?_)
            · have hv := hv.1 c30
              refine lv_iconst (v := 2) hx hb dX9_tell_78 (by decide) ?_
              refine lv_iload_n hx hb dX9_tell_79 rfl (lv_at hl 0 rfl) ?_
              refine lv_imul hx hb dX9_tell_80 ?_
              refine lv_bipush (v := 100) hx hb dX9_tell_81 (by decide) ?_
              refine lv_iadd hx hb dX9_tell_83 ?_
              rw [hZ]; rw [hQ] at hv
              exact W.iret (v := ((2 * (rdA σ29 2 (Int32.toNatClampNeg p_))) + 100)) hx hb hr (fun t ht hW => ⟨⟨((2 * (rdA σ29 2 (Int32.toNatClampNeg p_))) + 100), σ29, rfl, hv, ⟨P_of ht hP, hD⟩⟩, hS.F ht⟩) hS.2.2 dX9_tell_84
            · have hv := hv.2 c30
              refine lv_iload_n hx hb dX9_tell_71 rfl (lv_at hl 0 rfl) ?_
              refine lv_bipush (v := 100) hx hb dX9_tell_72 (by decide) ?_
              refine lv_iadd hx hb dX9_tell_74 ?_
              refine lv_goto (tgt := 84) hx hb dX9_tell_75 (by decide) ?_
              rw [hZ]; rw [hQ] at hv
              exact W.iret (v := ((rdA σ29 2 (Int32.toNatClampNeg p_)) + 100)) hx hb hr (fun t ht hW => ⟨⟨((rdA σ29 2 (Int32.toNatClampNeg p_)) + 100), σ29, rfl, hv, ⟨P_of ht hP, hD⟩⟩, hS.F ht⟩) hS.2.2 dX9_tell_84
          · have hv := hv.2 c31
            refine lv_iload_n hx hb dX9_tell_62 rfl (lv_at hl 0 rfl) ?_
            refine lv_goto (tgt := 84) hx hb dX9_tell_63 (by decide) ?_
            rw [hZ]; rw [hQ] at hv
            exact W.iret (v := (rdA σ29 2 (Int32.toNatClampNeg p_))) hx hb hr (fun t ht hW => ⟨⟨(rdA σ29 2 (Int32.toNatClampNeg p_)), σ29, rfl, hv, ⟨P_of ht hP, hD⟩⟩, hS.F ht⟩) hS.2.2 dX9_tell_84
  · have hv := hv.2 c35
    refine lv_iconst (v := (-1)) hx hb dX9_tell_8 (by decide) ?_
    rw [hZ]; rw [hQ] at hv
    exact W.iret (v := (-1)) hx hb hr (fun t ht hW => ⟨⟨(-1), σ0, rfl, hv, ⟨P_of ht hP, hD⟩⟩, hS.F ht⟩) hS.2.2 dX9_tell_9
set_option maxHeartbeats 4000000 in
set_option maxRecDepth 100000 in
theorem wk_X9_greet (l : Launch) (h_X9_noPerson : Ct_X9_noPerson l) (h_X9_traced : Ct_X9_traced l) (sp : ∀ (p_ : Int32) (ag : AS) (σ0 : S_), pre_X9_greet p_ ag σ0 → vc_X9_greet p_ σ0 (post_X9_greet p_ ag σ0)) : Ct_X9_greet l := by
  intro D cy ad A p_ ag σ0  hpre
  refine Met.ofW (cc := cX9_greet) (maxL := 2) (ret := (some .int)) (by decide) rfl ?_
  intro p e s m args below meth c s₁ B hml hv0
  obtain ⟨rfl, hP, hK, hD, hN⟩ := hv0
  have hx := B.exec
  have hb := B.bytes
  have hr := B.returns
  have hts := atoms_spec (ws := wsX9_greet) B.pre
  have hown : s.vm.findClass RX9 = some m.cls := findClass_of_methodNamed B.named
  have hlocks := B.notSynchronized
  have hv := sp p_ ag σ0 hpre
  have hl := lv_entry ([.ref (ad 0), .int p_]) (n := 2) (Nat.le_of_ble_eq_true rfl)
  rw [lg_entry_eq]
  generalize (lg_sl ([.ref (ad 0), .int p_]) ++ List.replicate (2 - (lg_sl ([.ref (ad 0), .int p_])).length) Slot.unset).toArray = ls at hl ⊢
  have hl : lv_has ls 2 [(0, .ref (ad 0)), (1, .int p_)] := hl
  refine W_gen (fun R Z H locs hR hZ hH hlo => ?_)
  have hRf : R.frames = 2 := by rw [hR]; rfl
  have hRl : R.locals = 46 := by rw [hR]; rfl
  have hRc : R.cells = 0 := by rw [hR]; rfl
  have hRs : R.slots = 0 := by rw [hR]; rfl
  have hS : va_S A s.heap H locs := by rw [hH, hlo]; exact va_S.rf
  rw [← hH] at hP
  obtain ⟨Q, hQ⟩ : ∃ q : Int32 → S_ → Prop, q = (post_X9_greet p_ ag σ0) := ⟨_, rfl⟩
  rw [← hQ] at hv
  have hinX9 : ∀ w ∈ wsX90, w ∈ wsX9_greet := by decide +kernel
  refine lv_aload_n hx hb dX9_greet_0 rfl (lv_at hl 0 rfl) ?_
  refine lv_iload_n hx hb dX9_greet_1 rfl (lv_at hl 1 rfl) ?_
  have hp := True.intro
  refine k_read_i (w := wR cy ad) (va_runV (As := [.int p_]) (rest := []) ⟨hx, hb, hml, hown, hts⟩ (h_X9_noPerson D cy ad A p_ σ0 hp) (cwV 1 hts gX9_greet_X9_noPerson rfl rfl rfl (by decide +kernel) ⟨le_R hRf (Nat.le_of_ble_eq_true rfl), le_R hRl (Nat.le_of_ble_eq_true rfl)⟩) ⟨(fun a U g mk q => ⟨q.1, q.2.blind⟩), va_recv hK hP (ci := 9) (q0 := 0) rfl (wR_0 cy ad σ0), (fun U hU hW => ⟨rfl, WdR.pre hP hK hD hN hU hW⟩)⟩ rfl rfl hl.1 rfl (lv_room (Nat.le_of_ble_eq_true rfl)) dX9_greet_2 ⟨le_R hRc (Nat.le_refl 0), le_R hRs (Nat.le_refl 0)⟩) hS (fun r H locs hr1 hP hS => ?_)
  subst hr1
  refine lv_if_eq (tgt := 10) hx hb dX9_greet_5 (by decide) (fun c7 => ?_) (fun c7 => ?_)
  · have hv := hv.1 c7
    refine lv_aload_n hx hb dX9_greet_10 rfl (lv_at hl 0 rfl) ?_
    refine lv_aload_n hx hb dX9_greet_11 rfl (lv_at hl 0 rfl) ?_
    refine va_get (ci := 9) (v := .ref (ad (1))) (C := RX9) (T := TX9) (N := 38) hx hb hts hinX9 hown hK hP 0 (wR_0 cy ad σ0) rfl 2 (by decide) (hts (.fieldLink RX9 7 "TaleBansModel" "kindOf" "[I") (List.mem_of_getElem? (i := 1) rfl)) (fun x h => h) rfl dX9_greet_12 ?_
    refine lv_iload_n hx hb dX9_greet_15 rfl (lv_at hl 1 rfl) ?_
    obtain ⟨hi, hv⟩ := hv
    refine va_iald hx hb hK hP 1 0 (wR_1 cy ad σ0) rfl hi dX9_greet_16 ?_
    refine lv_iconst (v := 2) hx hb dX9_greet_17 (by decide) ?_
    obtain ⟨P1, hv, hvr⟩ := hv
    have jn2 : ∀ (b3 : Int32) (H : Heap) (locs : List Loc) (ls : Array Slot), P1 b3 → va_P D vwCl (wR cy ad σ0) H → va_S A s.heap H locs → lv_has ls 2 [(0, .ref (ad 0)), (1, .int p_)] → W p l e R s m ([.ref (ad 0), .int p_] : List Value).toArray below meth c H locs 0 0 Z (F0 m 26 ls [.int b3, .ref (ad 0)]) := by
      intro b3 H locs ls hv hP hS hl
      have hv := hvr b3 hv
      have hp := True.intro
      refine k_rel_v (w := wR cy ad) (va_runV (As := [.int b3]) (rest := []) ⟨hx, hb, hml, hown, hts⟩ (h_X9_traced D cy ad A b3 σ0 hp) (cwV 1 hts gX9_greet_X9_traced rfl rfl rfl (by decide +kernel) ⟨le_R hRf (Nat.le_of_ble_eq_true rfl), le_R hRl (Nat.le_of_ble_eq_true rfl)⟩) ⟨(fun a U g mk q => ⟨q.1, q.2.blind⟩), va_recv hK hP (ci := 9) (q0 := 0) rfl (wR_0 cy ad σ0), (fun U hU hW => ⟨rfl, WdR.pre hP hK hD hN hU hW⟩)⟩ rfl rfl hl.1 rfl (lv_room (Nat.le_of_ble_eq_true rfl)) dX9_greet_26 ⟨le_R hRc (Nat.le_refl 0), le_R hRs (Nat.le_refl 0)⟩) hS (fun σ5 H locs hr1 hP hD hS => ?_)
      have hv := hv σ5 hr1
      refine lv_aload_n hx hb dX9_greet_29 rfl (lv_at hl 0 rfl) ?_
      refine va_get (ci := 9) (v := .ref (ad (1))) (C := RX9) (T := TX9) (N := 38) hx hb hts hinX9 hown hK hP 0 (wR_0 cy ad σ5) rfl 2 (by decide) (hts (.fieldLink RX9 7 "TaleBansModel" "kindOf" "[I") (List.mem_of_getElem? (i := 1) rfl)) (fun x h => h) rfl dX9_greet_30 ?_
      refine lv_iload_n hx hb dX9_greet_33 rfl (lv_at hl 1 rfl) ?_
      obtain ⟨hi, hv⟩ := hv
      refine va_iald hx hb hK hP 1 0 (wR_1 cy ad σ5) rfl hi dX9_greet_34 ?_
      refine lv_iconst (v := 2) hx hb dX9_greet_35 (by decide) ?_
      refine lv_icmp_ne (tgt := 44) hx hb dX9_greet_36 (by decide) (fun c6 => ?_) (fun c6 => ?_)
      · have hv := hv.1 c6
        refine lv_iload_n hx hb dX9_greet_44 rfl (lv_at hl 1 rfl) ?_
        rw [hZ]; rw [hQ] at hv
        exact W.iret (v := p_) hx hb hr (fun t ht hW => ⟨⟨p_, σ5, rfl, hv, ⟨P_of ht hP, hD⟩⟩, hS.F ht⟩) hS.2.2 dX9_greet_45
      · have hv := hv.2 c6
        refine lv_bipush (v := 70) hx hb dX9_greet_39 (by decide) ?_
        refine lv_goto (tgt := 45) hx hb dX9_greet_41 (by decide) ?_
        rw [hZ]; rw [hQ] at hv
        exact W.iret (v := 70) hx hb hr (fun t ht hW => ⟨⟨70, σ5, rfl, hv, ⟨P_of ht hP, hD⟩⟩, hS.F ht⟩) hS.2.2 dX9_greet_45
    refine lv_icmp_ne (tgt := 25) hx hb dX9_greet_18 (by decide) (fun c4 => ?_) (fun c4 => ?_)
    · have hv := hv.1 c4
      refine lv_iconst (v := 4) hx hb dX9_greet_25 (by decide) ?_
      exact jn2 4 _ _ _ hv hP hS hl
    · have hv := hv.2 c4
      refine lv_iconst (v := 5) hx hb dX9_greet_21 (by decide) ?_
      refine lv_goto (tgt := 26) hx hb dX9_greet_22 (by decide) ?_
      exact jn2 5 _ _ _ hv hP hS hl
  · have hv := hv.2 c7
    refine lv_iconst (v := (-1)) hx hb dX9_greet_8 (by decide) ?_
    rw [hZ]; rw [hQ] at hv
    exact W.iret (v := (-1)) hx hb hr (fun t ht hW => ⟨⟨(-1), σ0, rfl, hv, ⟨P_of ht hP, hD⟩⟩, hS.F ht⟩) hS.2.2 dX9_greet_9
set_option maxHeartbeats 4000000 in
set_option maxRecDepth 100000 in
theorem wk_X9_as (l : Launch) (h_X9_failed : Ct_X9_failed l) (h_X9_in : Ct_X9_in l) (h_X9_noPerson : Ct_X9_noPerson l) (h_X9_refused : Ct_X9_refused l) (sp : ∀ (p_ : Int32) (kind_ : Int32) (ag : AS) (σ0 : S_), pre_X9_as p_ kind_ ag σ0 → vc_X9_as p_ kind_ σ0 (post_X9_as p_ kind_ ag σ0)) : Ct_X9_as l := by
  intro D cy ad A p_ kind_ ag σ0  hpre
  refine Met.ofW (cc := cX9_as) (maxL := 3) (ret := (some .int)) (by decide) rfl ?_
  intro p e s m args below meth c s₁ B hml hv0
  obtain ⟨rfl, hP, hK, hD, hN⟩ := hv0
  have hx := B.exec
  have hb := B.bytes
  have hr := B.returns
  have hts := atoms_spec (ws := wsX9_as) B.pre
  have hown : s.vm.findClass RX9 = some m.cls := findClass_of_methodNamed B.named
  have hlocks := B.notSynchronized
  have hv := sp p_ kind_ ag σ0 hpre
  have hl := lv_entry ([.ref (ad 0), .int p_, .int kind_]) (n := 3) (Nat.le_of_ble_eq_true rfl)
  rw [lg_entry_eq]
  generalize (lg_sl ([.ref (ad 0), .int p_, .int kind_]) ++ List.replicate (3 - (lg_sl ([.ref (ad 0), .int p_, .int kind_])).length) Slot.unset).toArray = ls at hl ⊢
  have hl : lv_has ls 3 [(0, .ref (ad 0)), (1, .int p_), (2, .int kind_)] := hl
  refine W_gen (fun R Z H locs hR hZ hH hlo => ?_)
  have hRf : R.frames = 2 := by rw [hR]; rfl
  have hRl : R.locals = 46 := by rw [hR]; rfl
  have hRc : R.cells = 0 := by rw [hR]; rfl
  have hRs : R.slots = 0 := by rw [hR]; rfl
  have hS : va_S A s.heap H locs := by rw [hH, hlo]; exact va_S.rf
  rw [← hH] at hP
  obtain ⟨Q, hQ⟩ : ∃ q : Int32 → S_ → Prop, q = (post_X9_as p_ kind_ ag σ0) := ⟨_, rfl⟩
  rw [← hQ] at hv
  have hinX9 : ∀ w ∈ wsX90, w ∈ wsX9_as := by decide +kernel
  refine lv_aload_n hx hb dX9_as_0 rfl (lv_at hl 0 rfl) ?_
  refine lv_iload_n hx hb dX9_as_1 rfl (lv_at hl 1 rfl) ?_
  have hp := True.intro
  refine k_read_i (w := wR cy ad) (va_runV (As := [.int p_]) (rest := []) ⟨hx, hb, hml, hown, hts⟩ (h_X9_noPerson D cy ad A p_ σ0 hp) (cwV 1 hts gX9_as_X9_noPerson rfl rfl rfl (by decide +kernel) ⟨le_R hRf (Nat.le_of_ble_eq_true rfl), le_R hRl (Nat.le_of_ble_eq_true rfl)⟩) ⟨(fun a U g mk q => ⟨q.1, q.2.blind⟩), va_recv hK hP (ci := 9) (q0 := 0) rfl (wR_0 cy ad σ0), (fun U hU hW => ⟨rfl, WdR.pre hP hK hD hN hU hW⟩)⟩ rfl rfl hl.1 rfl (lv_room (Nat.le_of_ble_eq_true rfl)) dX9_as_2 ⟨le_R hRc (Nat.le_refl 0), le_R hRs (Nat.le_refl 0)⟩) hS (fun r H locs hr1 hP hS => ?_)
  subst hr1
  refine lv_if_eq (tgt := 14) hx hb dX9_as_5 (by decide) (fun c11 => ?_) (fun c11 => ?_)
  · have hv := hv.1 c11
    refine lv_iload_n hx hb dX9_as_14 rfl (lv_at hl 2 rfl) ?_
    refine lv_i2l hx hb dX9_as_15 rfl ?_
    refine lv_lconst (v := 0) hx hb dX9_as_16 rfl ?_
    refine lv_ldc2 (v := (2)) hx hb hown (hts (.constantLong RX9 114 (2)) (List.mem_of_getElem? (i := 1) rfl)) dX9_as_17 ?_
    refine k_pure_i (va_runS (As := [.long (Int32.toInt64 kind_), .long 0, .long (2)]) (rest := []) ⟨hx, hb, hml, hown, hts⟩ (h_X9_in (Int32.toInt64 kind_) 0 (2)) (va_cwS 3 hts gX9_as_X9_in rfl rfl rfl (by decide +kernel) ⟨le_R hRf (Nat.le_of_ble_eq_true rfl), le_R hRl (Nat.le_of_ble_eq_true rfl)⟩) ⟨(fun a U g mk q => ⟨q.1, trivial⟩), (fun U hU hW => ⟨rfl, trivial⟩)⟩ rfl rfl hl.1 rfl (lv_room (Nat.le_of_ble_eq_true rfl)) dX9_as_20 ⟨le_R hRc (Nat.le_refl 0), le_R hRs (Nat.le_refl 0)⟩) hS hP (fun r H locs hr1 hP hS => ?_)
    subst hr1
    refine lv_if_ne (tgt := 33) hx hb dX9_as_23 (by decide) (fun c8 => ?_) (fun c8 => ?_)
    · have hv := hv.1 c8
      refine lv_aload_n hx hb dX9_as_33 rfl (lv_at hl 0 rfl) ?_
      refine va_get (ci := 9) (v := .ref (ad (1))) (C := RX9) (T := TX9) (N := 38) hx hb hts hinX9 hown hK hP 0 (wR_0 cy ad σ0) rfl 2 (by decide) (hts (.fieldLink RX9 7 "TaleBansModel" "kindOf" "[I") (List.mem_of_getElem? (i := 2) rfl)) (fun x h => h) rfl dX9_as_34 ?_
      refine lv_iload_n hx hb dX9_as_37 rfl (lv_at hl 1 rfl) ?_
      obtain ⟨hi, hv⟩ := hv
      refine va_iald hx hb hK hP 1 0 (wR_1 cy ad σ0) rfl hi dX9_as_38 ?_
      refine lv_iload_n hx hb dX9_as_39 rfl (lv_at hl 2 rfl) ?_
      refine lv_icmp_lt (tgt := 51) hx hb dX9_as_40 (by decide) (fun c5 => ?_) (fun c5 => ?_)
      · have hv := hv.1 c5
        refine lv_aload_n hx hb dX9_as_51 rfl (lv_at hl 0 rfl) ?_
        refine lv_iconst (v := 2) hx hb dX9_as_52 (by decide) ?_
        have hp := True.intro
        refine k_rel_i (w := wR cy ad) (va_runV (As := [.int 2]) (rest := []) ⟨hx, hb, hml, hown, hts⟩ (h_X9_failed D cy ad A 2 σ0 hp) (cwV 1 hts gX9_as_X9_failed rfl rfl rfl (by decide +kernel) ⟨le_R hRf (Nat.le_of_ble_eq_true rfl), le_R hRl (Nat.le_of_ble_eq_true rfl)⟩) ⟨(fun a U g mk q => ⟨q.1, q.2.blind⟩), va_recv hK hP (ci := 9) (q0 := 0) rfl (wR_0 cy ad σ0), (fun U hU hW => ⟨rfl, WdR.pre hP hK hD hN hU hW⟩)⟩ rfl rfl hl.1 rfl (lv_room (Nat.le_of_ble_eq_true rfl)) dX9_as_53 ⟨le_R hRc (Nat.le_refl 0), le_R hRs (Nat.le_refl 0)⟩) hS (fun r2 σ1 H locs hr1 hP hD hS => ?_)
        have hv := hv r2 σ1 hr1
        rw [hZ]; rw [hQ] at hv
        exact W.iret (v := r2) hx hb hr (fun t ht hW => ⟨⟨r2, σ1, rfl, hv, ⟨P_of ht hP, hD⟩⟩, hS.F ht⟩) hS.2.2 dX9_as_56
      · have hv := hv.2 c5
        refine lv_aload_n hx hb dX9_as_43 rfl (lv_at hl 0 rfl) ?_
        refine lv_iconst (v := 1) hx hb dX9_as_44 (by decide) ?_
        have hp := True.intro
        refine k_rel_i (w := wR cy ad) (va_runV (As := [.int 1]) (rest := []) ⟨hx, hb, hml, hown, hts⟩ (h_X9_refused D cy ad A 1 σ0 hp) (cwV 1 hts gX9_as_X9_refused rfl rfl rfl (by decide +kernel) ⟨le_R hRf (Nat.le_of_ble_eq_true rfl), le_R hRl (Nat.le_of_ble_eq_true rfl)⟩) ⟨(fun a U g mk q => ⟨q.1, q.2.blind⟩), va_recv hK hP (ci := 9) (q0 := 0) rfl (wR_0 cy ad σ0), (fun U hU hW => ⟨rfl, WdR.pre hP hK hD hN hU hW⟩)⟩ rfl rfl hl.1 rfl (lv_room (Nat.le_of_ble_eq_true rfl)) dX9_as_45 ⟨le_R hRc (Nat.le_refl 0), le_R hRs (Nat.le_refl 0)⟩) hS (fun r4 σ3 H locs hr1 hP hD hS => ?_)
        have hv := hv r4 σ3 hr1
        refine lv_goto (tgt := 56) hx hb dX9_as_48 (by decide) ?_
        rw [hZ]; rw [hQ] at hv
        exact W.iret (v := r4) hx hb hr (fun t ht hW => ⟨⟨r4, σ3, rfl, hv, ⟨P_of ht hP, hD⟩⟩, hS.F ht⟩) hS.2.2 dX9_as_56
    · have hv := hv.2 c8
      refine lv_aload_n hx hb dX9_as_26 rfl (lv_at hl 0 rfl) ?_
      refine lv_bipush (v := (-2)) hx hb dX9_as_27 (by decide) ?_
      have hp := True.intro
      refine k_rel_i (w := wR cy ad) (va_runV (As := [.int (-2)]) (rest := []) ⟨hx, hb, hml, hown, hts⟩ (h_X9_refused D cy ad A (-2) σ0 hp) (cwV 1 hts gX9_as_X9_refused rfl rfl rfl (by decide +kernel) ⟨le_R hRf (Nat.le_of_ble_eq_true rfl), le_R hRl (Nat.le_of_ble_eq_true rfl)⟩) ⟨(fun a U g mk q => ⟨q.1, q.2.blind⟩), va_recv hK hP (ci := 9) (q0 := 0) rfl (wR_0 cy ad σ0), (fun U hU hW => ⟨rfl, WdR.pre hP hK hD hN hU hW⟩)⟩ rfl rfl hl.1 rfl (lv_room (Nat.le_of_ble_eq_true rfl)) dX9_as_29 ⟨le_R hRc (Nat.le_refl 0), le_R hRs (Nat.le_refl 0)⟩) hS (fun r7 σ6 H locs hr1 hP hD hS => ?_)
      have hv := hv r7 σ6 hr1
      rw [hZ]; rw [hQ] at hv
      exact W.iret (v := r7) hx hb hr (fun t ht hW => ⟨⟨r7, σ6, rfl, hv, ⟨P_of ht hP, hD⟩⟩, hS.F ht⟩) hS.2.2 dX9_as_32
  · have hv := hv.2 c11
    refine lv_aload_n hx hb dX9_as_8 rfl (lv_at hl 0 rfl) ?_
    refine lv_iconst (v := (-1)) hx hb dX9_as_9 (by decide) ?_
    have hp := True.intro
    refine k_rel_i (w := wR cy ad) (va_runV (As := [.int (-1)]) (rest := []) ⟨hx, hb, hml, hown, hts⟩ (h_X9_refused D cy ad A (-1) σ0 hp) (cwV 1 hts gX9_as_X9_refused rfl rfl rfl (by decide +kernel) ⟨le_R hRf (Nat.le_of_ble_eq_true rfl), le_R hRl (Nat.le_of_ble_eq_true rfl)⟩) ⟨(fun a U g mk q => ⟨q.1, q.2.blind⟩), va_recv hK hP (ci := 9) (q0 := 0) rfl (wR_0 cy ad σ0), (fun U hU hW => ⟨rfl, WdR.pre hP hK hD hN hU hW⟩)⟩ rfl rfl hl.1 rfl (lv_room (Nat.le_of_ble_eq_true rfl)) dX9_as_10 ⟨le_R hRc (Nat.le_refl 0), le_R hRs (Nat.le_refl 0)⟩) hS (fun r10 σ9 H locs hr1 hP hD hS => ?_)
    have hv := hv r10 σ9 hr1
    rw [hZ]; rw [hQ] at hv
    exact W.iret (v := r10) hx hb hr (fun t ht hW => ⟨⟨r10, σ9, rfl, hv, ⟨P_of ht hP, hD⟩⟩, hS.F ht⟩) hS.2.2 dX9_as_13
set_option maxHeartbeats 4000000 in
set_option maxRecDepth 100000 in
theorem wk_X9_trace (l : Launch) (sp : ∀ (ag : AS) (σ0 : S_), pre_X9_trace ag σ0 → vc_X9_trace σ0 (post_X9_trace ag σ0)) : Ct_X9_trace l := by
  intro D cy ad A  ag σ0  hpre
  refine Met.ofW (cc := cX9_trace) (maxL := 1) (ret := (some .int)) (by decide) rfl ?_
  intro p e s m args below meth c s₁ B hml hv0
  obtain ⟨rfl, hP, hK, hD, hN⟩ := hv0
  have hx := B.exec
  have hb := B.bytes
  have hr := B.returns
  have hts := atoms_spec (ws := wsX9_trace) B.pre
  have hown : s.vm.findClass RX9 = some m.cls := findClass_of_methodNamed B.named
  have hlocks := B.notSynchronized
  have hv := sp  ag σ0 hpre
  have hl := lv_entry ([.ref (ad 0)]) (n := 1) (Nat.le_of_ble_eq_true rfl)
  rw [lg_entry_eq]
  generalize (lg_sl ([.ref (ad 0)]) ++ List.replicate (1 - (lg_sl ([.ref (ad 0)])).length) Slot.unset).toArray = ls at hl ⊢
  have hl : lv_has ls 1 [(0, .ref (ad 0))] := hl
  refine W_gen (fun R Z H locs hR hZ hH hlo => ?_)
  have hRf : R.frames = 0 := by rw [hR]; rfl
  have hRl : R.locals = 0 := by rw [hR]; rfl
  have hRc : R.cells = 0 := by rw [hR]; rfl
  have hRs : R.slots = 0 := by rw [hR]; rfl
  have hS : va_S A s.heap H locs := by rw [hH, hlo]; exact va_S.rf
  rw [← hH] at hP
  obtain ⟨Q, hQ⟩ : ∃ q : Int32 → S_ → Prop, q = (post_X9_trace  ag σ0) := ⟨_, rfl⟩
  rw [← hQ] at hv
  have hinX9 : ∀ w ∈ wsX90, w ∈ wsX9_trace := by decide +kernel
  refine lv_aload_n hx hb dX9_trace_0 rfl (lv_at hl 0 rfl) ?_
  refine va_get (ci := 9) (v := .int (rdI σ0 10)) (C := RX9) (T := TX9) (N := 38) hx hb hts hinX9 hown hK hP 0 (wR_0 cy ad σ0) rfl 37 (by decide) (hts (.fieldLink RX9 257 "TaleBansModel" "traceNow" "I") (List.mem_of_getElem? (i := 1) rfl)) (fun x h => h) rfl dX9_trace_1 ?_
  rw [hZ]; rw [hQ] at hv
  exact W.iret (v := (rdI σ0 10)) hx hb hr (fun t ht hW => ⟨⟨(rdI σ0 10), σ0, rfl, hv, ⟨P_of ht hP, hD⟩⟩, hS.F ht⟩) hS.2.2 dX9_trace_4
set_option maxHeartbeats 4000000 in
set_option maxRecDepth 100000 in
theorem wk_X9_fault (l : Launch) (sp : ∀ (ag : AS) (σ0 : S_), pre_X9_fault ag σ0 → vc_X9_fault σ0 (post_X9_fault ag σ0)) : Ct_X9_fault l := by
  intro D cy ad A  ag σ0  hpre
  refine Met.ofW (cc := cX9_fault) (maxL := 1) (ret := (some .int)) (by decide) rfl ?_
  intro p e s m args below meth c s₁ B hml hv0
  obtain ⟨rfl, hP, hK, hD, hN⟩ := hv0
  have hx := B.exec
  have hb := B.bytes
  have hr := B.returns
  have hts := atoms_spec (ws := wsX9_fault) B.pre
  have hown : s.vm.findClass RX9 = some m.cls := findClass_of_methodNamed B.named
  have hlocks := B.notSynchronized
  have hv := sp  ag σ0 hpre
  have hl := lv_entry ([.ref (ad 0)]) (n := 1) (Nat.le_of_ble_eq_true rfl)
  rw [lg_entry_eq]
  generalize (lg_sl ([.ref (ad 0)]) ++ List.replicate (1 - (lg_sl ([.ref (ad 0)])).length) Slot.unset).toArray = ls at hl ⊢
  have hl : lv_has ls 1 [(0, .ref (ad 0))] := hl
  refine W_gen (fun R Z H locs hR hZ hH hlo => ?_)
  have hRf : R.frames = 0 := by rw [hR]; rfl
  have hRl : R.locals = 0 := by rw [hR]; rfl
  have hRc : R.cells = 0 := by rw [hR]; rfl
  have hRs : R.slots = 0 := by rw [hR]; rfl
  have hS : va_S A s.heap H locs := by rw [hH, hlo]; exact va_S.rf
  rw [← hH] at hP
  obtain ⟨Q, hQ⟩ : ∃ q : Int32 → S_ → Prop, q = (post_X9_fault  ag σ0) := ⟨_, rfl⟩
  rw [← hQ] at hv
  have hinX9 : ∀ w ∈ wsX90, w ∈ wsX9_fault := by decide +kernel
  refine lv_aload_n hx hb dX9_fault_0 rfl (lv_at hl 0 rfl) ?_
  refine va_get (ci := 9) (v := .int (rdI σ0 0)) (C := RX9) (T := TX9) (N := 38) hx hb hts hinX9 hown hK hP 0 (wR_0 cy ad σ0) rfl 0 (by decide) (hts (.fieldLink RX9 94 "TaleBansModel" "fault" "I") (List.mem_of_getElem? (i := 1) rfl)) (fun x h => h) rfl dX9_fault_1 ?_
  rw [hZ]; rw [hQ] at hv
  exact W.iret (v := (rdI σ0 0)) hx hb hr (fun t ht hW => ⟨⟨(rdI σ0 0), σ0, rfl, hv, ⟨P_of ht hP, hD⟩⟩, hS.F ht⟩) hS.2.2 dX9_fault_4
set_option maxHeartbeats 4000000 in
set_option maxRecDepth 100000 in
theorem wk_X9_many (l : Launch) (sp : ∀ (what_ : Int32) (ag : AS) (σ0 : S_), pre_X9_many what_ ag σ0 → vc_X9_many what_ σ0 (post_X9_many what_ ag σ0)) : Ct_X9_many l := by
  intro D cy ad A what_ ag σ0  hpre
  refine Met.ofW (cc := cX9_many) (maxL := 2) (ret := (some .int)) (by decide) rfl ?_
  intro p e s m args below meth c s₁ B hml hv0
  obtain ⟨rfl, hP, hK, hD, hN⟩ := hv0
  have hx := B.exec
  have hb := B.bytes
  have hr := B.returns
  have hts := atoms_spec (ws := wsX9_many) B.pre
  have hown : s.vm.findClass RX9 = some m.cls := findClass_of_methodNamed B.named
  have hlocks := B.notSynchronized
  have hv := sp what_ ag σ0 hpre
  have hl := lv_entry ([.ref (ad 0), .int what_]) (n := 2) (Nat.le_of_ble_eq_true rfl)
  rw [lg_entry_eq]
  generalize (lg_sl ([.ref (ad 0), .int what_]) ++ List.replicate (2 - (lg_sl ([.ref (ad 0), .int what_])).length) Slot.unset).toArray = ls at hl ⊢
  have hl : lv_has ls 2 [(0, .ref (ad 0)), (1, .int what_)] := hl
  refine W_gen (fun R Z H locs hR hZ hH hlo => ?_)
  have hRf : R.frames = 0 := by rw [hR]; rfl
  have hRl : R.locals = 0 := by rw [hR]; rfl
  have hRc : R.cells = 0 := by rw [hR]; rfl
  have hRs : R.slots = 0 := by rw [hR]; rfl
  have hS : va_S A s.heap H locs := by rw [hH, hlo]; exact va_S.rf
  rw [← hH] at hP
  obtain ⟨Q, hQ⟩ : ∃ q : Int32 → S_ → Prop, q = (post_X9_many what_ ag σ0) := ⟨_, rfl⟩
  rw [← hQ] at hv
  have hinX9 : ∀ w ∈ wsX90, w ∈ wsX9_many := by decide +kernel
  refine lv_iload_n hx hb dX9_many_0 rfl (lv_at hl 1 rfl) ?_
  by_cases c2 : what_ = 0
  · have hv := hv.1 c2
    refine lv_tableIn (tgt := 40) hx hb dX9_many_1 (by rw [c2]; decide) (by rw [c2]; decide) (by first | (rw [c2]; done) | (rw [c2]; rfl)) (by decide) ?_
    refine lv_aload_n hx hb dX9_many_40 rfl (lv_at hl 0 rfl) ?_
    refine va_get (ci := 9) (v := .int (rdI σ0 1)) (C := RX9) (T := TX9) (N := 38) hx hb hts hinX9 hown hK hP 0 (wR_0 cy ad σ0) rfl 1 (by decide) (hts (.fieldLink RX9 102 "TaleBansModel" "persons" "I") (List.mem_of_getElem? (i := 1) rfl)) (fun x h => h) rfl dX9_many_41 ?_
    rw [hZ]; rw [hQ] at hv
    exact W.iret (v := (rdI σ0 1)) hx hb hr (fun t ht hW => ⟨⟨(rdI σ0 1), σ0, rfl, hv, ⟨P_of ht hP, hD⟩⟩, hS.F ht⟩) hS.2.2 dX9_many_44
  · have hv := hv.2 c2
    by_cases c3 : what_ = 1
    · have hv := hv.1 c3
      refine lv_tableIn (tgt := 45) hx hb dX9_many_1 (by rw [c3]; decide) (by rw [c3]; decide) (by first | (rw [c3]; done) | (rw [c3]; rfl)) (by decide) ?_
      refine lv_aload_n hx hb dX9_many_45 rfl (lv_at hl 0 rfl) ?_
      refine va_get (ci := 9) (v := .int (rdI σ0 6)) (C := RX9) (T := TX9) (N := 38) hx hb hts hinX9 hown hK hP 0 (wR_0 cy ad σ0) rfl 12 (by decide) (hts (.fieldLink RX9 109 "TaleBansModel" "tales" "I") (List.mem_of_getElem? (i := 2) rfl)) (fun x h => h) rfl dX9_many_46 ?_
      rw [hZ]; rw [hQ] at hv
      exact W.iret (v := (rdI σ0 6)) hx hb hr (fun t ht hW => ⟨⟨(rdI σ0 6), σ0, rfl, hv, ⟨P_of ht hP, hD⟩⟩, hS.F ht⟩) hS.2.2 dX9_many_49
    · have hv := hv.2 c3
      by_cases c4 : what_ = 2
      · have hv := hv.1 c4
        refine lv_tableIn (tgt := 50) hx hb dX9_many_1 (by rw [c4]; decide) (by rw [c4]; decide) (by first | (rw [c4]; done) | (rw [c4]; rfl)) (by decide) ?_
        refine lv_aload_n hx hb dX9_many_50 rfl (lv_at hl 0 rfl) ?_
        refine va_get (ci := 9) (v := .int (rdI σ0 7)) (C := RX9) (T := TX9) (N := 38) hx hb hts hinX9 hown hK hP 0 (wR_0 cy ad σ0) rfl 17 (by decide) (hts (.fieldLink RX9 164 "TaleBansModel" "moves" "I") (List.mem_of_getElem? (i := 3) rfl)) (fun x h => h) rfl dX9_many_51 ?_
        rw [hZ]; rw [hQ] at hv
        exact W.iret (v := (rdI σ0 7)) hx hb hr (fun t ht hW => ⟨⟨(rdI σ0 7), σ0, rfl, hv, ⟨P_of ht hP, hD⟩⟩, hS.F ht⟩) hS.2.2 dX9_many_54
      · have hv := hv.2 c4
        by_cases c5 : what_ = 3
        · have hv := hv.1 c5
          refine lv_tableIn (tgt := 55) hx hb dX9_many_1 (by rw [c5]; decide) (by rw [c5]; decide) (by first | (rw [c5]; done) | (rw [c5]; rfl)) (by decide) ?_
          refine lv_aload_n hx hb dX9_many_55 rfl (lv_at hl 0 rfl) ?_
          refine va_get (ci := 9) (v := .int (rdI σ0 8)) (C := RX9) (T := TX9) (N := 38) hx hb hts hinX9 hown hK hP 0 (wR_0 cy ad σ0) rfl 25 (by decide) (hts (.fieldLink RX9 167 "TaleBansModel" "needs" "I") (List.mem_of_getElem? (i := 4) rfl)) (fun x h => h) rfl dX9_many_56 ?_
          rw [hZ]; rw [hQ] at hv
          exact W.iret (v := (rdI σ0 8)) hx hb hr (fun t ht hW => ⟨⟨(rdI σ0 8), σ0, rfl, hv, ⟨P_of ht hP, hD⟩⟩, hS.F ht⟩) hS.2.2 dX9_many_59
        · have hv := hv.2 c5
          by_cases c6 : what_ = 4
          · have hv := hv.1 c6
            refine lv_tableIn (tgt := 60) hx hb dX9_many_1 (by rw [c6]; decide) (by rw [c6]; decide) (by first | (rw [c6]; done) | (rw [c6]; rfl)) (by decide) ?_
            refine lv_aload_n hx hb dX9_many_60 rfl (lv_at hl 0 rfl) ?_
            refine va_get (ci := 9) (v := .int (rdI σ0 9)) (C := RX9) (T := TX9) (N := 38) hx hb hts hinX9 hown hK hP 0 (wR_0 cy ad σ0) rfl 28 (by decide) (hts (.fieldLink RX9 170 "TaleBansModel" "readings" "I") (List.mem_of_getElem? (i := 5) rfl)) (fun x h => h) rfl dX9_many_61 ?_
            rw [hZ]; rw [hQ] at hv
            exact W.iret (v := (rdI σ0 9)) hx hb hr (fun t ht hW => ⟨⟨(rdI σ0 9), σ0, rfl, hv, ⟨P_of ht hP, hD⟩⟩, hS.F ht⟩) hS.2.2 dX9_many_64
          · have hv := hv.2 c6
            by_cases c7 : what_ = 5
            · have hv := hv.1 c7
              refine lv_tableIn (tgt := 65) hx hb dX9_many_1 (by rw [c7]; decide) (by rw [c7]; decide) (by first | (rw [c7]; done) | (rw [c7]; rfl)) (by decide) ?_
              refine lv_aload_n hx hb dX9_many_65 rfl (lv_at hl 0 rfl) ?_
              refine va_get (ci := 9) (v := .int (rdI σ0 3)) (C := RX9) (T := TX9) (N := 38) hx hb hts hinX9 hown hK hP 0 (wR_0 cy ad σ0) rfl 6 (by decide) (hts (.fieldLink RX9 161 "TaleBansModel" "lawNow" "I") (List.mem_of_getElem? (i := 6) rfl)) (fun x h => h) rfl dX9_many_66 ?_
              rw [hZ]; rw [hQ] at hv
              exact W.iret (v := (rdI σ0 3)) hx hb hr (fun t ht hW => ⟨⟨(rdI σ0 3), σ0, rfl, hv, ⟨P_of ht hP, hD⟩⟩, hS.F ht⟩) hS.2.2 dX9_many_69
            · have hv := hv.2 c7
              refine lv_tableOut (tgt := 70) hx hb dX9_many_1 (sw_out (lo := 0) (hi := 5) what_ (fun k h1 h2 hk => by
                have h3 : k = 0 ∨ k = 1 ∨ k = 2 ∨ k = 3 ∨ k = 4 ∨ k = 5 := by omega
                rcases h3 with rfl | rfl | rfl | rfl | rfl | rfl
                · exact c2 (sw_k hk (by decide))
                · exact c3 (sw_k hk (by decide))
                · exact c4 (sw_k hk (by decide))
                · exact c5 (sw_k hk (by decide))
                · exact c6 (sw_k hk (by decide))
                · exact c7 (sw_k hk (by decide)))) (by decide) ?_
              refine lv_bipush (v := (-2)) hx hb dX9_many_70 (by decide) ?_
              rw [hZ]; rw [hQ] at hv
              exact W.iret (v := (-2)) hx hb hr (fun t ht hW => ⟨⟨(-2), σ0, rfl, hv, ⟨P_of ht hP, hD⟩⟩, hS.F ht⟩) hS.2.2 dX9_many_72
set_option maxHeartbeats 4000000 in
set_option maxRecDepth 100000 in
theorem wk_X9_in (l : Launch) (sp : ∀ (v_ : Int64) (l_ : Int64) (h_ : Int64), vc_X9_in v_ l_ h_ (fun r => r = fn_X9_in v_ l_ h_)) : Ct_X9_in l := by
  intro v_ l_ h_
  refine Met.ofW (cc := cX9_in) (maxL := 6) (ret := (some .boolean)) (by decide) rfl ?_
  intro p e s m args below meth c s₁ B hml hv0
  obtain ⟨rfl, -⟩ := hv0
  have hx := B.exec
  have hb := B.bytes
  have hr := B.returns
  have hts := atoms_spec (ws := wsX9_in) B.pre
  have hown : s.vm.findClass RX9 = some m.cls := findClass_of_methodNamed B.named
  have hlocks := B.notSynchronized
  have hv := sp v_ l_ h_
  have hl := lv_entry ([.long v_, .long l_, .long h_]) (n := 6) (Nat.le_of_ble_eq_true rfl)
  rw [lg_entry_eq]
  generalize (lg_sl ([.long v_, .long l_, .long h_]) ++ List.replicate (6 - (lg_sl ([.long v_, .long l_, .long h_])).length) Slot.unset).toArray = ls at hl ⊢
  have hl : lv_has ls 6 [(0, .long v_), (2, .long l_), (4, .long h_)] := hl
  refine W_gen (fun R Z H locs hR hZ hH hlo => ?_)
  have hRf : R.frames = 0 := by rw [hR]; rfl
  have hRl : R.locals = 0 := by rw [hR]; rfl
  have hRc : R.cells = 0 := by rw [hR]; rfl
  have hRs : R.slots = 0 := by rw [hR]; rfl
  have hS : va_S (fun _ => False) s.heap H locs := by rw [hH, hlo]; exact va_S.rf
  obtain ⟨Q, hQ⟩ : ∃ q : Int32 → Prop, q = (fun r => r = fn_X9_in v_ l_ h_) := ⟨_, rfl⟩
  rw [← hQ] at hv
  refine lv_lload_n hx hb dX9_in_0 rfl (lv_at hl 0 rfl) ?_
  refine lv_lload_n hx hb dX9_in_1 rfl (lv_at hl 1 rfl) ?_
  refine W.lcmp hx hb dX9_in_2 ?_
  refine lv_if_lt (tgt := 17) hx hb dX9_in_3 (by decide) (fun c2 => ?_) (fun c2 => ?_)
  · have hv := hv.1 c2
    refine lv_iconst (v := 0) hx hb dX9_in_17 (by decide) ?_
    rw [hZ]; rw [hQ] at hv
    exact W.zret (v := 0) hx hb hr rfl (fun t ht hW => ⟨⟨0, (), rfl, hv, trivial⟩, hS.F ht⟩) hS.2.2 dX9_in_18
  · have hv := hv.2 c2
    refine lv_lload_n hx hb dX9_in_6 rfl (lv_at hl 0 rfl) ?_
    refine lv_lload hx hb dX9_in_7 (lv_at hl 2 rfl) ?_
    refine W.lcmp hx hb dX9_in_9 ?_
    refine lv_if_gt (tgt := 17) hx hb dX9_in_10 (by decide) (fun c1 => ?_) (fun c1 => ?_)
    · have hv := hv.1 c1
      refine lv_iconst (v := 0) hx hb dX9_in_17 (by decide) ?_
      rw [hZ]; rw [hQ] at hv
      exact W.zret (v := 0) hx hb hr rfl (fun t ht hW => ⟨⟨0, (), rfl, hv, trivial⟩, hS.F ht⟩) hS.2.2 dX9_in_18
    · have hv := hv.2 c1
      refine lv_iconst (v := 1) hx hb dX9_in_13 (by decide) ?_
      refine lv_goto (tgt := 18) hx hb dX9_in_14 (by decide) ?_
      rw [hZ]; rw [hQ] at hv
      exact W.zret (v := 1) hx hb hr rfl (fun t ht hW => ⟨⟨1, (), rfl, hv, trivial⟩, hS.F ht⟩) hS.2.2 dX9_in_18
set_option maxHeartbeats 4000000 in
set_option maxRecDepth 100000 in
theorem wk_X9_lost (l : Launch) (sp : vc_X9_lost (fun r => r = fn_X9_lost)) : Ct_X9_lost l := by
  skip
  refine Met.ofW (cc := cX9_lost) (maxL := 0) (ret := (some .long)) (by decide) rfl ?_
  intro p e s m args below meth c s₁ B hml hv0
  obtain ⟨rfl, -⟩ := hv0
  have hx := B.exec
  have hb := B.bytes
  have hr := B.returns
  have hts := atoms_spec (ws := wsX9_lost) B.pre
  have hown : s.vm.findClass RX9 = some m.cls := findClass_of_methodNamed B.named
  have hlocks := B.notSynchronized
  have hv := sp 
  have hl := lv_entry ([]) (n := 0) (Nat.le_of_ble_eq_true rfl)
  rw [lg_entry_eq]
  generalize (lg_sl ([]) ++ List.replicate (0 - (lg_sl ([])).length) Slot.unset).toArray = ls at hl ⊢
  have hl : lv_has ls 0 [] := hl
  refine W_gen (fun R Z H locs hR hZ hH hlo => ?_)
  have hRf : R.frames = 0 := by rw [hR]; rfl
  have hRl : R.locals = 0 := by rw [hR]; rfl
  have hRc : R.cells = 0 := by rw [hR]; rfl
  have hRs : R.slots = 0 := by rw [hR]; rfl
  have hS : va_S (fun _ => False) s.heap H locs := by rw [hH, hlo]; exact va_S.rf
  obtain ⟨Q, hQ⟩ : ∃ q : Int64 → Prop, q = (fun r => r = fn_X9_lost) := ⟨_, rfl⟩
  rw [← hQ] at hv
  refine lv_ldc2 (v := (-9223372036854775808)) hx hb hown (hts (.constantLong RX9 92 (-9223372036854775808)) (List.mem_of_getElem? (i := 1) rfl)) dX9_lost_0 ?_
  rw [hZ]; rw [hQ] at hv
  exact W.lret (v := (-9223372036854775808)) hx hb hr (fun t ht hW => ⟨⟨(-9223372036854775808), (), rfl, hv, trivial⟩, hS.F ht⟩) hS.2.2 dX9_lost_3
set_option maxHeartbeats 4000000 in
set_option maxRecDepth 100000 in
theorem wk_X9_isIn (l : Launch) (sp : ∀ (set_ : Int32) (k_ : Int32), vc_X9_isIn set_ k_ (fun r => r = fn_X9_isIn set_ k_)) : Ct_X9_isIn l := by
  intro set_ k_
  refine Met.ofW (cc := cX9_isIn) (maxL := 2) (ret := (some .boolean)) (by decide) rfl ?_
  intro p e s m args below meth c s₁ B hml hv0
  obtain ⟨rfl, -⟩ := hv0
  have hx := B.exec
  have hb := B.bytes
  have hr := B.returns
  have hts := atoms_spec (ws := wsX9_isIn) B.pre
  have hown : s.vm.findClass RX9 = some m.cls := findClass_of_methodNamed B.named
  have hlocks := B.notSynchronized
  have hv := sp set_ k_
  have hl := lv_entry ([.int set_, .int k_]) (n := 2) (Nat.le_of_ble_eq_true rfl)
  rw [lg_entry_eq]
  generalize (lg_sl ([.int set_, .int k_]) ++ List.replicate (2 - (lg_sl ([.int set_, .int k_])).length) Slot.unset).toArray = ls at hl ⊢
  have hl : lv_has ls 2 [(0, .int set_), (1, .int k_)] := hl
  refine W_gen (fun R Z H locs hR hZ hH hlo => ?_)
  have hRf : R.frames = 0 := by rw [hR]; rfl
  have hRl : R.locals = 0 := by rw [hR]; rfl
  have hRc : R.cells = 0 := by rw [hR]; rfl
  have hRs : R.slots = 0 := by rw [hR]; rfl
  have hS : va_S (fun _ => False) s.heap H locs := by rw [hH, hlo]; exact va_S.rf
  obtain ⟨Q, hQ⟩ : ∃ q : Int32 → Prop, q = (fun r => r = fn_X9_isIn set_ k_) := ⟨_, rfl⟩
  rw [← hQ] at hv
  refine lv_iload_n hx hb dX9_isIn_0 rfl (lv_at hl 0 rfl) ?_
  refine lv_iload_n hx hb dX9_isIn_1 rfl (lv_at hl 1 rfl) ?_
  refine lv_ishr hx hb dX9_isIn_2 ?_
  refine lv_iconst (v := 1) hx hb dX9_isIn_3 (by decide) ?_
  refine lv_iand hx hb dX9_isIn_4 ?_
  refine lv_iconst (v := 1) hx hb dX9_isIn_5 (by decide) ?_
  refine lv_icmp_ne (tgt := 13) hx hb dX9_isIn_6 (by decide) (fun c1 => ?_) (fun c1 => ?_)
  · have hv := hv.1 c1
    refine lv_iconst (v := 0) hx hb dX9_isIn_13 (by decide) ?_
    rw [hZ]; rw [hQ] at hv
    exact W.zret (v := 0) hx hb hr rfl (fun t ht hW => ⟨⟨0, (), rfl, hv, trivial⟩, hS.F ht⟩) hS.2.2 dX9_isIn_14
  · have hv := hv.2 c1
    refine lv_iconst (v := 1) hx hb dX9_isIn_9 (by decide) ?_
    refine lv_goto (tgt := 14) hx hb dX9_isIn_10 (by decide) ?_
    rw [hZ]; rw [hQ] at hv
    exact W.zret (v := 1) hx hb hr rfl (fun t ht hW => ⟨⟨1, (), rfl, hv, trivial⟩, hS.F ht⟩) hS.2.2 dX9_isIn_14
set_option maxHeartbeats 4000000 in
set_option maxRecDepth 100000 in
theorem wk_X9_bits (l : Launch) (sp : ∀ (set_ : Int32), vc_X9_bits set_ (fun r => r = fn_X9_bits set_)) : Ct_X9_bits l := by
  intro set_
  refine Met.ofW (cc := cX9_bits) (maxL := 3) (ret := (some .int)) (by decide) rfl ?_
  intro p e s m args below meth c s₁ B hml hv0
  obtain ⟨rfl, -⟩ := hv0
  have hx := B.exec
  have hb := B.bytes
  have hr := B.returns
  have hts := atoms_spec (ws := wsX9_bits) B.pre
  have hown : s.vm.findClass RX9 = some m.cls := findClass_of_methodNamed B.named
  have hlocks := B.notSynchronized
  have hv := sp set_
  have hl := lv_entry ([.int set_]) (n := 3) (Nat.le_of_ble_eq_true rfl)
  rw [lg_entry_eq]
  generalize (lg_sl ([.int set_]) ++ List.replicate (3 - (lg_sl ([.int set_])).length) Slot.unset).toArray = ls at hl ⊢
  have hl : lv_has ls 3 [(0, .int set_)] := hl
  refine W_gen (fun R Z H locs hR hZ hH hlo => ?_)
  have hRf : R.frames = 0 := by rw [hR]; rfl
  have hRl : R.locals = 0 := by rw [hR]; rfl
  have hRc : R.cells = 0 := by rw [hR]; rfl
  have hRs : R.slots = 0 := by rw [hR]; rfl
  have hS : va_S (fun _ => False) s.heap H locs := by rw [hH, hlo]; exact va_S.rf
  obtain ⟨Q, hQ⟩ : ∃ q : Int32 → Prop, q = (fun r => r = fn_X9_bits set_) := ⟨_, rfl⟩
  rw [← hQ] at hv
  refine lv_iconst (v := 0) hx hb dX9_bits_0 (by decide) ?_
  refine lv_istore_n (lv' := [(1, .int 0), (0, .int set_)]) hx hb dX9_bits_1 rfl hl (by decide) rfl (fun ls hl => ?_)
  refine lv_iload_n hx hb dX9_bits_2 rfl (lv_at hl 1 rfl) ?_
  refine lv_istore_n (lv' := [(2, .int set_), (1, .int 0), (0, .int set_)]) hx hb dX9_bits_3 rfl hl (by decide) rfl (fun ls hl => ?_)
  obtain ⟨n4, hv⟩ := hv
  have lp4 : ∀ (nn4 : Nat) (x1 : Int32) (x2 : Int32) (H : Heap) (locs : List Loc) (ls : Array Slot), vl_X9_bits_4 Q nn4 x1 x2 → va_S (fun _ => False) s.heap H locs → lv_has ls 3 [(1, .int x1), (2, .int x2)] → W p l e R s m ([.int set_] : List Value).toArray  below meth c H locs 0 0 Z (F0 m 4 ls []) := by
    intro nn4
    induction nn4 with
    | zero => intro x1 x2 H locs ls hv; exact absurd hv id
    | succ mm4 ih4 =>
      intro x1 x2 H locs ls hv hS hl
      refine lv_iload_n hx hb dX9_bits_4 rfl (lv_at hl 1 rfl) ?_
      refine lv_if_le (tgt := 21) hx hb dX9_bits_5 (by decide) (fun c3 => ?_) (fun c3 => ?_)
      · have hv := hv.1 c3
        refine lv_iload_n hx hb dX9_bits_21 rfl (lv_at hl 0 rfl) ?_
        rw [hZ]; rw [hQ] at hv
        exact W.iret (v := x1) hx hb hr (fun t ht hW => ⟨⟨x1, (), rfl, hv, trivial⟩, hS.F ht⟩) hS.2.2 dX9_bits_22
      · have hv := hv.2 c3
        refine lv_iload_n hx hb dX9_bits_8 rfl (lv_at hl 0 rfl) ?_
        refine lv_iload_n hx hb dX9_bits_9 rfl (lv_at hl 1 rfl) ?_
        refine lv_iconst (v := 1) hx hb dX9_bits_10 (by decide) ?_
        refine lv_iand hx hb dX9_bits_11 ?_
        refine lv_iadd hx hb dX9_bits_12 ?_
        refine lv_istore_n (lv' := [(1, .int (x1 + (x2 &&& 1))), (2, .int x2)]) hx hb dX9_bits_13 rfl hl (by decide) rfl (fun ls hl => ?_)
        refine lv_iload_n hx hb dX9_bits_14 rfl (lv_at hl 1 rfl) ?_
        refine lv_iconst (v := 1) hx hb dX9_bits_15 (by decide) ?_
        refine lv_ishr hx hb dX9_bits_16 ?_
        refine lv_istore_n (lv' := [(2, .int (x2 >>> (1 &&& 31))), (1, .int (x1 + (x2 &&& 1)))]) hx hb dX9_bits_17 rfl hl (by decide) rfl (fun ls hl => ?_)
        refine lv_goto (tgt := 4) hx hb dX9_bits_18 (by decide) ?_
        exact ih4 (x1 + (x2 &&& 1)) (x2 >>> (1 &&& 31)) _ _ _ hv hS (lv_sub hl [1, 0] rfl)
  exact lp4 n4 0 set_ _ _ _ hv hS (lv_sub hl [1, 0] rfl)
set_option maxHeartbeats 4000000 in
set_option maxRecDepth 100000 in
theorem wk_X9_shareOf (l : Launch) (sp : ∀ (up_ : Int64) (down_ : Int64) (which_ : Int32), vc_X9_shareOf up_ down_ which_ (fun r => r = fn_X9_shareOf up_ down_ which_)) : Ct_X9_shareOf l := by
  intro up_ down_ which_
  refine Met.ofW (cc := cX9_shareOf) (maxL := 11) (ret := (some .long)) (by decide) rfl ?_
  intro p e s m args below meth c s₁ B hml hv0
  obtain ⟨rfl, -⟩ := hv0
  have hx := B.exec
  have hb := B.bytes
  have hr := B.returns
  have hts := atoms_spec (ws := wsX9_shareOf) B.pre
  have hown : s.vm.findClass RX9 = some m.cls := findClass_of_methodNamed B.named
  have hlocks := B.notSynchronized
  have hv := sp up_ down_ which_
  have hl := lv_entry ([.long up_, .long down_, .int which_]) (n := 11) (Nat.le_of_ble_eq_true rfl)
  rw [lg_entry_eq]
  generalize (lg_sl ([.long up_, .long down_, .int which_]) ++ List.replicate (11 - (lg_sl ([.long up_, .long down_, .int which_])).length) Slot.unset).toArray = ls at hl ⊢
  have hl : lv_has ls 11 [(0, .long up_), (2, .long down_), (4, .int which_)] := hl
  refine W_gen (fun R Z H locs hR hZ hH hlo => ?_)
  have hRf : R.frames = 0 := by rw [hR]; rfl
  have hRl : R.locals = 0 := by rw [hR]; rfl
  have hRc : R.cells = 0 := by rw [hR]; rfl
  have hRs : R.slots = 0 := by rw [hR]; rfl
  have hS : va_S (fun _ => False) s.heap H locs := by rw [hH, hlo]; exact va_S.rf
  obtain ⟨Q, hQ⟩ : ∃ q : Int64 → Prop, q = (fun r => r = fn_X9_shareOf up_ down_ which_) := ⟨_, rfl⟩
  rw [← hQ] at hv
  refine lv_lload_n hx hb dX9_shareOf_0 rfl (lv_at hl 0 rfl) ?_
  refine lv_lstore (lv' := [(5, .long up_), (0, .long up_), (2, .long down_), (4, .int which_)]) hx hb dX9_shareOf_1 hl (by decide) rfl (fun ls hl => ?_)
  refine lv_lload_n hx hb dX9_shareOf_3 rfl (lv_at hl 2 rfl) ?_
  refine lv_lstore (lv' := [(7, .long down_), (5, .long up_), (0, .long up_), (2, .long down_), (4, .int which_)]) hx hb dX9_shareOf_4 hl (by decide) rfl (fun ls hl => ?_)
  obtain ⟨n6, hv⟩ := hv
  have lp6 : ∀ (nn6 : Nat) (x1 : Int64) (x2 : Int64) (H : Heap) (locs : List Loc) (ls : Array Slot), vl_X9_shareOf_6 up_ down_ which_ Q nn6 x1 x2 → va_S (fun _ => False) s.heap H locs → lv_has ls 11 [(0, .long up_), (2, .long down_), (4, .int which_), (5, .long x1), (7, .long x2)] → W p l e R s m ([.long up_, .long down_, .int which_] : List Value).toArray  below meth c H locs 0 0 Z (F0 m 6 ls []) := by
    intro nn6
    induction nn6 with
    | zero => intro x1 x2 H locs ls hv; exact absurd hv id
    | succ mm6 ih6 =>
      intro x1 x2 H locs ls hv hS hl
      refine lv_lload hx hb dX9_shareOf_6 (lv_at hl 4 rfl) ?_
      refine lv_lconst (v := 0) hx hb dX9_shareOf_8 rfl ?_
      refine W.lcmp hx hb dX9_shareOf_9 ?_
      refine lv_if_eq (tgt := 31) hx hb dX9_shareOf_10 (by decide) (fun c7 => ?_) (fun c7 => ?_)
      · have hv := hv.1 c7
        refine lv_iload hx hb dX9_shareOf_31 (lv_at hl 2 rfl) ?_
        obtain ⟨P3, hv, hvr⟩ := hv
        have jn4 : ∀ (b5 : Int64) (H : Heap) (locs : List Loc) (ls : Array Slot), P3 b5 → va_S (fun _ => False) s.heap H locs → lv_has ls 11 [(0, .long up_), (2, .long down_), (4, .int which_), (5, .long x1), (7, .long x2)] → W p l e R s m ([.long up_, .long down_, .int which_] : List Value).toArray below meth c H locs 0 0 Z (F0 m 41 ls [.long b5]) := by
          intro b5 H locs ls hv hS hl
          have hv := hvr b5 hv
          refine lv_lload hx hb dX9_shareOf_41 (lv_at hl 3 rfl) ?_
          obtain ⟨hne, hv⟩ := hv
          refine lv_ldiv hx hb dX9_shareOf_43 hne ?_
          rw [hZ]; rw [hQ] at hv
          exact W.lret (v := (b5 / x1)) hx hb hr (fun t ht hW => ⟨⟨(b5 / x1), (), rfl, hv, trivial⟩, hS.F ht⟩) hS.2.2 dX9_shareOf_44
        refine lv_if_ne (tgt := 40) hx hb dX9_shareOf_33 (by decide) (fun c6 => ?_) (fun c6 => ?_)
        · have hv := hv.1 c6
          refine lv_lload_n hx hb dX9_shareOf_40 rfl (lv_at hl 1 rfl) ?_
          exact jn4 down_ _ _ _ hv hS hl
        · have hv := hv.2 c6
          refine lv_lload_n hx hb dX9_shareOf_36 rfl (lv_at hl 0 rfl) ?_
          refine lv_goto (tgt := 41) hx hb dX9_shareOf_37 (by decide) ?_
          exact jn4 up_ _ _ _ hv hS hl
      · have hv := hv.2 c7
        refine lv_lload hx hb dX9_shareOf_13 (lv_at hl 3 rfl) ?_
        refine lv_lload hx hb dX9_shareOf_15 (lv_at hl 4 rfl) ?_
        obtain ⟨hne, hv⟩ := hv
        refine lv_lrem hx hb dX9_shareOf_17 hne ?_
        refine lv_lstore (lv' := [(9, .long (x1 - x1 / x2 * x2)), (0, .long up_), (2, .long down_), (4, .int which_), (5, .long x1), (7, .long x2)]) hx hb dX9_shareOf_18 hl (by decide) rfl (fun ls hl => ?_)
        refine lv_lload hx hb dX9_shareOf_20 (lv_at hl 5 rfl) ?_
        refine lv_lstore (lv' := [(5, .long x2), (9, .long (x1 - x1 / x2 * x2)), (0, .long up_), (2, .long down_), (4, .int which_), (7, .long x2)]) hx hb dX9_shareOf_22 hl (by decide) rfl (fun ls hl => ?_)
        refine lv_lload hx hb dX9_shareOf_24 (lv_at hl 1 rfl) ?_
        refine lv_lstore (lv' := [(7, .long (x1 - x1 / x2 * x2)), (5, .long x2), (9, .long (x1 - x1 / x2 * x2)), (0, .long up_), (2, .long down_), (4, .int which_)]) hx hb dX9_shareOf_26 hl (by decide) rfl (fun ls hl => ?_)
        refine lv_goto (tgt := 6) hx hb dX9_shareOf_28 (by decide) ?_
        exact ih6 x2 (x1 - x1 / x2 * x2) _ _ _ hv hS (lv_sub hl [3, 4, 5, 1, 0] rfl)
  exact lp6 n6 up_ down_ _ _ _ hv hS (lv_sub hl [2, 3, 4, 1, 0] rfl)
set_option maxHeartbeats 4000000 in
set_option maxRecDepth 100000 in
theorem wk_X9_noDeed (l : Launch) (h_X9_in : Ct_X9_in l) (sp : ∀ (deed_ : Int32), vc_X9_noDeed deed_ (fun r => r = fn_X9_noDeed deed_)) : Ct_X9_noDeed l := by
  intro deed_
  refine Met.ofW (cc := cX9_noDeed) (maxL := 1) (ret := (some .boolean)) (by decide) rfl ?_
  intro p e s m args below meth c s₁ B hml hv0
  obtain ⟨rfl, -⟩ := hv0
  have hx := B.exec
  have hb := B.bytes
  have hr := B.returns
  have hts := atoms_spec (ws := wsX9_noDeed) B.pre
  have hown : s.vm.findClass RX9 = some m.cls := findClass_of_methodNamed B.named
  have hlocks := B.notSynchronized
  have hv := sp deed_
  have hl := lv_entry ([.int deed_]) (n := 1) (Nat.le_of_ble_eq_true rfl)
  rw [lg_entry_eq]
  generalize (lg_sl ([.int deed_]) ++ List.replicate (1 - (lg_sl ([.int deed_])).length) Slot.unset).toArray = ls at hl ⊢
  have hl : lv_has ls 1 [(0, .int deed_)] := hl
  refine W_gen (fun R Z H locs hR hZ hH hlo => ?_)
  have hRf : R.frames = 1 := by rw [hR]; rfl
  have hRl : R.locals = 25 := by rw [hR]; rfl
  have hRc : R.cells = 0 := by rw [hR]; rfl
  have hRs : R.slots = 0 := by rw [hR]; rfl
  have hS : va_S (fun _ => False) s.heap H locs := by rw [hH, hlo]; exact va_S.rf
  obtain ⟨Q, hQ⟩ : ∃ q : Int32 → Prop, q = (fun r => r = fn_X9_noDeed deed_) := ⟨_, rfl⟩
  rw [← hQ] at hv
  refine lv_iload_n hx hb dX9_noDeed_0 rfl (lv_at hl 0 rfl) ?_
  refine lv_i2l hx hb dX9_noDeed_1 rfl ?_
  refine lv_lconst (v := 0) hx hb dX9_noDeed_2 rfl ?_
  refine lv_ldc2 (v := (5)) hx hb hown (hts (.constantLong RX9 112 (5)) (List.mem_of_getElem? (i := 1) rfl)) dX9_noDeed_3 ?_
  refine k_pure0_i (va_runS (As := [.long (Int32.toInt64 deed_), .long 0, .long (5)]) (rest := []) ⟨hx, hb, hml, hown, hts⟩ (h_X9_in (Int32.toInt64 deed_) 0 (5)) (va_cwS 3 hts gX9_noDeed_X9_in rfl rfl rfl (by decide +kernel) ⟨le_R hRf (Nat.le_of_ble_eq_true rfl), le_R hRl (Nat.le_of_ble_eq_true rfl)⟩) ⟨(fun a U g mk q => ⟨q.1, trivial⟩), (fun U hU hW => ⟨rfl, trivial⟩)⟩ rfl rfl hl.1 rfl (lv_room (Nat.le_of_ble_eq_true rfl)) dX9_noDeed_6 ⟨le_R hRc (Nat.le_refl 0), le_R hRs (Nat.le_refl 0)⟩) hS (fun r H locs hr1 hS => ?_)
  subst hr1
  refine lv_if_ne (tgt := 16) hx hb dX9_noDeed_9 (by decide) (fun c1 => ?_) (fun c1 => ?_)
  · have hv := hv.1 c1
    refine lv_iconst (v := 0) hx hb dX9_noDeed_16 (by decide) ?_
    rw [hZ]; rw [hQ] at hv
    exact W.zret (v := 0) hx hb hr rfl (fun t ht hW => ⟨⟨0, (), rfl, hv, trivial⟩, hS.F ht⟩) hS.2.2 dX9_noDeed_17
  · have hv := hv.2 c1
    refine lv_iconst (v := 1) hx hb dX9_noDeed_12 (by decide) ?_
    refine lv_goto (tgt := 17) hx hb dX9_noDeed_13 (by decide) ?_
    rw [hZ]; rw [hQ] at hv
    exact W.zret (v := 1) hx hb hr rfl (fun t ht hW => ⟨⟨1, (), rfl, hv, trivial⟩, hS.F ht⟩) hS.2.2 dX9_noDeed_17
set_option maxHeartbeats 4000000 in
set_option maxRecDepth 100000 in
theorem wk_X9_noHearth (l : Launch) (h_X9_in : Ct_X9_in l) (sp : ∀ (h_ : Int32), vc_X9_noHearth h_ (fun r => r = fn_X9_noHearth h_)) : Ct_X9_noHearth l := by
  intro h_
  refine Met.ofW (cc := cX9_noHearth) (maxL := 1) (ret := (some .boolean)) (by decide) rfl ?_
  intro p e s m args below meth c s₁ B hml hv0
  obtain ⟨rfl, -⟩ := hv0
  have hx := B.exec
  have hb := B.bytes
  have hr := B.returns
  have hts := atoms_spec (ws := wsX9_noHearth) B.pre
  have hown : s.vm.findClass RX9 = some m.cls := findClass_of_methodNamed B.named
  have hlocks := B.notSynchronized
  have hv := sp h_
  have hl := lv_entry ([.int h_]) (n := 1) (Nat.le_of_ble_eq_true rfl)
  rw [lg_entry_eq]
  generalize (lg_sl ([.int h_]) ++ List.replicate (1 - (lg_sl ([.int h_])).length) Slot.unset).toArray = ls at hl ⊢
  have hl : lv_has ls 1 [(0, .int h_)] := hl
  refine W_gen (fun R Z H locs hR hZ hH hlo => ?_)
  have hRf : R.frames = 1 := by rw [hR]; rfl
  have hRl : R.locals = 25 := by rw [hR]; rfl
  have hRc : R.cells = 0 := by rw [hR]; rfl
  have hRs : R.slots = 0 := by rw [hR]; rfl
  have hS : va_S (fun _ => False) s.heap H locs := by rw [hH, hlo]; exact va_S.rf
  obtain ⟨Q, hQ⟩ : ∃ q : Int32 → Prop, q = (fun r => r = fn_X9_noHearth h_) := ⟨_, rfl⟩
  rw [← hQ] at hv
  refine lv_iload_n hx hb dX9_noHearth_0 rfl (lv_at hl 0 rfl) ?_
  refine lv_i2l hx hb dX9_noHearth_1 rfl ?_
  refine lv_lconst (v := 0) hx hb dX9_noHearth_2 rfl ?_
  refine lv_ldc2 (v := (2)) hx hb hown (hts (.constantLong RX9 114 (2)) (List.mem_of_getElem? (i := 1) rfl)) dX9_noHearth_3 ?_
  refine k_pure0_i (va_runS (As := [.long (Int32.toInt64 h_), .long 0, .long (2)]) (rest := []) ⟨hx, hb, hml, hown, hts⟩ (h_X9_in (Int32.toInt64 h_) 0 (2)) (va_cwS 3 hts gX9_noHearth_X9_in rfl rfl rfl (by decide +kernel) ⟨le_R hRf (Nat.le_of_ble_eq_true rfl), le_R hRl (Nat.le_of_ble_eq_true rfl)⟩) ⟨(fun a U g mk q => ⟨q.1, trivial⟩), (fun U hU hW => ⟨rfl, trivial⟩)⟩ rfl rfl hl.1 rfl (lv_room (Nat.le_of_ble_eq_true rfl)) dX9_noHearth_6 ⟨le_R hRc (Nat.le_refl 0), le_R hRs (Nat.le_refl 0)⟩) hS (fun r H locs hr1 hS => ?_)
  subst hr1
  refine lv_if_ne (tgt := 16) hx hb dX9_noHearth_9 (by decide) (fun c1 => ?_) (fun c1 => ?_)
  · have hv := hv.1 c1
    refine lv_iconst (v := 0) hx hb dX9_noHearth_16 (by decide) ?_
    rw [hZ]; rw [hQ] at hv
    exact W.zret (v := 0) hx hb hr rfl (fun t ht hW => ⟨⟨0, (), rfl, hv, trivial⟩, hS.F ht⟩) hS.2.2 dX9_noHearth_17
  · have hv := hv.2 c1
    refine lv_iconst (v := 1) hx hb dX9_noHearth_12 (by decide) ?_
    refine lv_goto (tgt := 17) hx hb dX9_noHearth_13 (by decide) ?_
    rw [hZ]; rw [hQ] at hv
    exact W.zret (v := 1) hx hb hr rfl (fun t ht hW => ⟨⟨1, (), rfl, hv, trivial⟩, hS.F ht⟩) hS.2.2 dX9_noHearth_17
set_option maxHeartbeats 4000000 in
set_option maxRecDepth 100000 in
theorem wk_X9_isSeason (l : Launch) (h_X9_in : Ct_X9_in l) (sp : ∀ (season_ : Int32), vc_X9_isSeason season_ (fun r => r = fn_X9_isSeason season_)) : Ct_X9_isSeason l := by
  intro season_
  refine Met.ofW (cc := cX9_isSeason) (maxL := 1) (ret := (some .boolean)) (by decide) rfl ?_
  intro p e s m args below meth c s₁ B hml hv0
  obtain ⟨rfl, -⟩ := hv0
  have hx := B.exec
  have hb := B.bytes
  have hr := B.returns
  have hts := atoms_spec (ws := wsX9_isSeason) B.pre
  have hown : s.vm.findClass RX9 = some m.cls := findClass_of_methodNamed B.named
  have hlocks := B.notSynchronized
  have hv := sp season_
  have hl := lv_entry ([.int season_]) (n := 1) (Nat.le_of_ble_eq_true rfl)
  rw [lg_entry_eq]
  generalize (lg_sl ([.int season_]) ++ List.replicate (1 - (lg_sl ([.int season_])).length) Slot.unset).toArray = ls at hl ⊢
  have hl : lv_has ls 1 [(0, .int season_)] := hl
  refine W_gen (fun R Z H locs hR hZ hH hlo => ?_)
  have hRf : R.frames = 1 := by rw [hR]; rfl
  have hRl : R.locals = 25 := by rw [hR]; rfl
  have hRc : R.cells = 0 := by rw [hR]; rfl
  have hRs : R.slots = 0 := by rw [hR]; rfl
  have hS : va_S (fun _ => False) s.heap H locs := by rw [hH, hlo]; exact va_S.rf
  obtain ⟨Q, hQ⟩ : ∃ q : Int32 → Prop, q = (fun r => r = fn_X9_isSeason season_) := ⟨_, rfl⟩
  rw [← hQ] at hv
  refine lv_iload_n hx hb dX9_isSeason_0 rfl (lv_at hl 0 rfl) ?_
  refine lv_i2l hx hb dX9_isSeason_1 rfl ?_
  refine lv_lconst (v := 0) hx hb dX9_isSeason_2 rfl ?_
  refine lv_ldc2 (v := (39)) hx hb hown (hts (.constantLong RX9 116 (39)) (List.mem_of_getElem? (i := 1) rfl)) dX9_isSeason_3 ?_
  refine k_pure0_i (va_runS (As := [.long (Int32.toInt64 season_), .long 0, .long (39)]) (rest := []) ⟨hx, hb, hml, hown, hts⟩ (h_X9_in (Int32.toInt64 season_) 0 (39)) (va_cwS 3 hts gX9_isSeason_X9_in rfl rfl rfl (by decide +kernel) ⟨le_R hRf (Nat.le_of_ble_eq_true rfl), le_R hRl (Nat.le_of_ble_eq_true rfl)⟩) ⟨(fun a U g mk q => ⟨q.1, trivial⟩), (fun U hU hW => ⟨rfl, trivial⟩)⟩ rfl rfl hl.1 rfl (lv_room (Nat.le_of_ble_eq_true rfl)) dX9_isSeason_6 ⟨le_R hRc (Nat.le_refl 0), le_R hRs (Nat.le_refl 0)⟩) hS (fun r H locs hr1 hS => ?_)
  subst hr1
  obtain ⟨h01, hv⟩ := hv
  rw [hZ]; rw [hQ] at hv
  exact W.zret (v := (fn_X9_in (Int32.toInt64 season_) 0 (39))) hx hb hr (nar_b h01) (fun t ht hW => ⟨⟨(fn_X9_in (Int32.toInt64 season_) 0 (39)), (), rfl, hv, trivial⟩, hS.F ht⟩) hS.2.2 dX9_isSeason_9
set_option maxHeartbeats 4000000 in
set_option maxRecDepth 100000 in
theorem wk_X9_noSheet (l : Launch) (h_X9_in : Ct_X9_in l) (sp : ∀ (k_ : Int32), vc_X9_noSheet k_ (fun r => r = fn_X9_noSheet k_)) : Ct_X9_noSheet l := by
  intro k_
  refine Met.ofW (cc := cX9_noSheet) (maxL := 1) (ret := (some .boolean)) (by decide) rfl ?_
  intro p e s m args below meth c s₁ B hml hv0
  obtain ⟨rfl, -⟩ := hv0
  have hx := B.exec
  have hb := B.bytes
  have hr := B.returns
  have hts := atoms_spec (ws := wsX9_noSheet) B.pre
  have hown : s.vm.findClass RX9 = some m.cls := findClass_of_methodNamed B.named
  have hlocks := B.notSynchronized
  have hv := sp k_
  have hl := lv_entry ([.int k_]) (n := 1) (Nat.le_of_ble_eq_true rfl)
  rw [lg_entry_eq]
  generalize (lg_sl ([.int k_]) ++ List.replicate (1 - (lg_sl ([.int k_])).length) Slot.unset).toArray = ls at hl ⊢
  have hl : lv_has ls 1 [(0, .int k_)] := hl
  refine W_gen (fun R Z H locs hR hZ hH hlo => ?_)
  have hRf : R.frames = 1 := by rw [hR]; rfl
  have hRl : R.locals = 25 := by rw [hR]; rfl
  have hRc : R.cells = 0 := by rw [hR]; rfl
  have hRs : R.slots = 0 := by rw [hR]; rfl
  have hS : va_S (fun _ => False) s.heap H locs := by rw [hH, hlo]; exact va_S.rf
  obtain ⟨Q, hQ⟩ : ∃ q : Int32 → Prop, q = (fun r => r = fn_X9_noSheet k_) := ⟨_, rfl⟩
  rw [← hQ] at hv
  refine lv_iload_n hx hb dX9_noSheet_0 rfl (lv_at hl 0 rfl) ?_
  refine lv_i2l hx hb dX9_noSheet_1 rfl ?_
  refine lv_lconst (v := 0) hx hb dX9_noSheet_2 rfl ?_
  refine lv_ldc2 (v := (3)) hx hb hown (hts (.constantLong RX9 248 (3)) (List.mem_of_getElem? (i := 1) rfl)) dX9_noSheet_3 ?_
  refine k_pure0_i (va_runS (As := [.long (Int32.toInt64 k_), .long 0, .long (3)]) (rest := []) ⟨hx, hb, hml, hown, hts⟩ (h_X9_in (Int32.toInt64 k_) 0 (3)) (va_cwS 3 hts gX9_noSheet_X9_in rfl rfl rfl (by decide +kernel) ⟨le_R hRf (Nat.le_of_ble_eq_true rfl), le_R hRl (Nat.le_of_ble_eq_true rfl)⟩) ⟨(fun a U g mk q => ⟨q.1, trivial⟩), (fun U hU hW => ⟨rfl, trivial⟩)⟩ rfl rfl hl.1 rfl (lv_room (Nat.le_of_ble_eq_true rfl)) dX9_noSheet_6 ⟨le_R hRc (Nat.le_refl 0), le_R hRs (Nat.le_refl 0)⟩) hS (fun r H locs hr1 hS => ?_)
  subst hr1
  refine lv_if_ne (tgt := 16) hx hb dX9_noSheet_9 (by decide) (fun c1 => ?_) (fun c1 => ?_)
  · have hv := hv.1 c1
    refine lv_iconst (v := 0) hx hb dX9_noSheet_16 (by decide) ?_
    rw [hZ]; rw [hQ] at hv
    exact W.zret (v := 0) hx hb hr rfl (fun t ht hW => ⟨⟨0, (), rfl, hv, trivial⟩, hS.F ht⟩) hS.2.2 dX9_noSheet_17
  · have hv := hv.2 c1
    refine lv_iconst (v := 1) hx hb dX9_noSheet_12 (by decide) ?_
    refine lv_goto (tgt := 17) hx hb dX9_noSheet_13 (by decide) ?_
    rw [hZ]; rw [hQ] at hv
    exact W.zret (v := 1) hx hb hr rfl (fun t ht hW => ⟨⟨1, (), rfl, hv, trivial⟩, hS.F ht⟩) hS.2.2 dX9_noSheet_17
set_option maxHeartbeats 4000000 in
set_option maxRecDepth 100000 in
theorem wk_X9_isBeyond (l : Launch) (sp : ∀ (i_ : Int32) (n_ : Int64) (all_ : Int32), vc_X9_isBeyond i_ n_ all_ (fun r => r = fn_X9_isBeyond i_ n_ all_)) : Ct_X9_isBeyond l := by
  intro i_ n_ all_
  refine Met.ofW (cc := cX9_isBeyond) (maxL := 4) (ret := (some .boolean)) (by decide) rfl ?_
  intro p e s m args below meth c s₁ B hml hv0
  obtain ⟨rfl, -⟩ := hv0
  have hx := B.exec
  have hb := B.bytes
  have hr := B.returns
  have hts := atoms_spec (ws := wsX9_isBeyond) B.pre
  have hown : s.vm.findClass RX9 = some m.cls := findClass_of_methodNamed B.named
  have hlocks := B.notSynchronized
  have hv := sp i_ n_ all_
  have hl := lv_entry ([.int i_, .long n_, .int all_]) (n := 4) (Nat.le_of_ble_eq_true rfl)
  rw [lg_entry_eq]
  generalize (lg_sl ([.int i_, .long n_, .int all_]) ++ List.replicate (4 - (lg_sl ([.int i_, .long n_, .int all_])).length) Slot.unset).toArray = ls at hl ⊢
  have hl : lv_has ls 4 [(0, .int i_), (1, .long n_), (3, .int all_)] := hl
  refine W_gen (fun R Z H locs hR hZ hH hlo => ?_)
  have hRf : R.frames = 0 := by rw [hR]; rfl
  have hRl : R.locals = 0 := by rw [hR]; rfl
  have hRc : R.cells = 0 := by rw [hR]; rfl
  have hRs : R.slots = 0 := by rw [hR]; rfl
  have hS : va_S (fun _ => False) s.heap H locs := by rw [hH, hlo]; exact va_S.rf
  obtain ⟨Q, hQ⟩ : ∃ q : Int32 → Prop, q = (fun r => r = fn_X9_isBeyond i_ n_ all_) := ⟨_, rfl⟩
  rw [← hQ] at hv
  refine lv_iload_n hx hb dX9_isBeyond_0 rfl (lv_at hl 0 rfl) ?_
  refine lv_if_lt (tgt := 20) hx hb dX9_isBeyond_1 (by decide) (fun c3 => ?_) (fun c3 => ?_)
  · have hv := hv.1 c3
    refine lv_iconst (v := 1) hx hb dX9_isBeyond_20 (by decide) ?_
    refine lv_goto (tgt := 25) hx hb dX9_isBeyond_21 (by decide) ?_
    rw [hZ]; rw [hQ] at hv
    exact W.zret (v := 1) hx hb hr rfl (fun t ht hW => ⟨⟨1, (), rfl, hv, trivial⟩, hS.F ht⟩) hS.2.2 dX9_isBeyond_25
  · have hv := hv.2 c3
    refine lv_lload_n hx hb dX9_isBeyond_4 rfl (lv_at hl 1 rfl) ?_
    refine lv_lconst (v := 0) hx hb dX9_isBeyond_5 rfl ?_
    refine W.lcmp hx hb dX9_isBeyond_6 ?_
    refine lv_if_lt (tgt := 20) hx hb dX9_isBeyond_7 (by decide) (fun c2 => ?_) (fun c2 => ?_)
    · have hv := hv.1 c2
      refine lv_iconst (v := 1) hx hb dX9_isBeyond_20 (by decide) ?_
      refine lv_goto (tgt := 25) hx hb dX9_isBeyond_21 (by decide) ?_
      rw [hZ]; rw [hQ] at hv
      exact W.zret (v := 1) hx hb hr rfl (fun t ht hW => ⟨⟨1, (), rfl, hv, trivial⟩, hS.F ht⟩) hS.2.2 dX9_isBeyond_25
    · have hv := hv.2 c2
      refine lv_iload_n hx hb dX9_isBeyond_10 rfl (lv_at hl 0 rfl) ?_
      refine lv_i2l hx hb dX9_isBeyond_11 rfl ?_
      refine lv_lload_n hx hb dX9_isBeyond_12 rfl (lv_at hl 1 rfl) ?_
      refine lv_ladd hx hb dX9_isBeyond_13 ?_
      refine lv_iload_n hx hb dX9_isBeyond_14 rfl (lv_at hl 2 rfl) ?_
      refine lv_i2l hx hb dX9_isBeyond_15 rfl ?_
      refine W.lcmp hx hb dX9_isBeyond_16 ?_
      refine lv_if_le (tgt := 24) hx hb dX9_isBeyond_17 (by decide) (fun c1 => ?_) (fun c1 => ?_)
      · have hv := hv.1 c1
        refine lv_iconst (v := 0) hx hb dX9_isBeyond_24 (by decide) ?_
        rw [hZ]; rw [hQ] at hv
        exact W.zret (v := 0) hx hb hr rfl (fun t ht hW => ⟨⟨0, (), rfl, hv, trivial⟩, hS.F ht⟩) hS.2.2 dX9_isBeyond_25
      · have hv := hv.2 c1
        refine lv_iconst (v := 1) hx hb dX9_isBeyond_20 (by decide) ?_
        refine lv_goto (tgt := 25) hx hb dX9_isBeyond_21 (by decide) ?_
        rw [hZ]; rw [hQ] at hv
        exact W.zret (v := 1) hx hb hr rfl (fun t ht hW => ⟨⟨1, (), rfl, hv, trivial⟩, hS.F ht⟩) hS.2.2 dX9_isBeyond_25
set_option maxHeartbeats 4000000 in
set_option maxRecDepth 100000 in
theorem wk_X9_refused (l : Launch) (sp : ∀ (code_ : Int32) (σ0 : S_), True → vc_X9_refused code_ σ0 (post_X9_refused code_ σ0)) : Ct_X9_refused l := by
  intro D cy ad A code_  σ0  hpre
  refine Met.ofW (cc := cX9_refused) (maxL := 2) (ret := (some .int)) (by decide) rfl ?_
  intro p e s m args below meth c s₁ B hml hv0
  obtain ⟨rfl, hP, hK, hD, hN⟩ := hv0
  have hx := B.exec
  have hb := B.bytes
  have hr := B.returns
  have hts := atoms_spec (ws := wsX9_refused) B.pre
  have hown : s.vm.findClass RX9 = some m.cls := findClass_of_methodNamed B.named
  have hlocks := B.notSynchronized
  have hv := sp code_  σ0 hpre
  have hl := lv_entry ([.ref (ad 0), .int code_]) (n := 2) (Nat.le_of_ble_eq_true rfl)
  rw [lg_entry_eq]
  generalize (lg_sl ([.ref (ad 0), .int code_]) ++ List.replicate (2 - (lg_sl ([.ref (ad 0), .int code_])).length) Slot.unset).toArray = ls at hl ⊢
  have hl : lv_has ls 2 [(0, .ref (ad 0)), (1, .int code_)] := hl
  refine W_gen (fun R Z H locs hR hZ hH hlo => ?_)
  have hRf : R.frames = 0 := by rw [hR]; rfl
  have hRl : R.locals = 0 := by rw [hR]; rfl
  have hRc : R.cells = 0 := by rw [hR]; rfl
  have hRs : R.slots = 0 := by rw [hR]; rfl
  have hS : va_S A s.heap H locs := by rw [hH, hlo]; exact va_S.rf
  rw [← hH] at hP
  obtain ⟨Q, hQ⟩ : ∃ q : Int32 → S_ → Prop, q = (post_X9_refused code_  σ0) := ⟨_, rfl⟩
  rw [← hQ] at hv
  have hinX9 : ∀ w ∈ wsX90, w ∈ wsX9_refused := by decide +kernel
  refine lv_aload_n hx hb dX9_refused_0 rfl (lv_at hl 0 rfl) ?_
  refine lv_iconst (v := 0) hx hb dX9_refused_1 (by decide) ?_
  refine va_put (ci := 9) (v := .int 0) (ty := .int) (C := RX9) (T := TX9) (N := 38) hx hb hts hinX9 tyX9 tyX9_ok nmX9 hown hK hP hD hS 0 (wR_0 cy ad σ0) rfl 0 (by decide) (hts (.fieldLink RX9 94 "TaleBansModel" "fault" "I") (List.mem_of_getElem? (i := 1) rfl)) (fun x h => h) rfl (by decide +kernel) rfl rfl (Nat.le_of_ble_eq_true rfl) dX9_refused_2 (fun H locs hP hD hS => ?_)
  obtain ⟨σ1, e2⟩ : ∃ y : S_, y = wrI σ0 0 0 := ⟨_, rfl⟩
  have hP : va_P D vwCl (wR cy ad σ1) H := by rw [e2]; exact hP
  have hD : va_D A (wR cy ad σ1) := by rw [e2]; exact hD
  have hv := hv σ1 e2
  refine lv_iload_n hx hb dX9_refused_5 rfl (lv_at hl 1 rfl) ?_
  rw [hZ]; rw [hQ] at hv
  exact W.iret (v := code_) hx hb hr (fun t ht hW => ⟨⟨code_, σ1, rfl, hv, ⟨P_of ht hP, hD⟩⟩, hS.F ht⟩) hS.2.2 dX9_refused_6
set_option maxHeartbeats 4000000 in
set_option maxRecDepth 100000 in
theorem wk_X9_failed (l : Launch) (sp : ∀ (f_ : Int32) (σ0 : S_), True → vc_X9_failed f_ σ0 (post_X9_failed f_ σ0)) : Ct_X9_failed l := by
  intro D cy ad A f_  σ0  hpre
  refine Met.ofW (cc := cX9_failed) (maxL := 2) (ret := (some .int)) (by decide) rfl ?_
  intro p e s m args below meth c s₁ B hml hv0
  obtain ⟨rfl, hP, hK, hD, hN⟩ := hv0
  have hx := B.exec
  have hb := B.bytes
  have hr := B.returns
  have hts := atoms_spec (ws := wsX9_failed) B.pre
  have hown : s.vm.findClass RX9 = some m.cls := findClass_of_methodNamed B.named
  have hlocks := B.notSynchronized
  have hv := sp f_  σ0 hpre
  have hl := lv_entry ([.ref (ad 0), .int f_]) (n := 2) (Nat.le_of_ble_eq_true rfl)
  rw [lg_entry_eq]
  generalize (lg_sl ([.ref (ad 0), .int f_]) ++ List.replicate (2 - (lg_sl ([.ref (ad 0), .int f_])).length) Slot.unset).toArray = ls at hl ⊢
  have hl : lv_has ls 2 [(0, .ref (ad 0)), (1, .int f_)] := hl
  refine W_gen (fun R Z H locs hR hZ hH hlo => ?_)
  have hRf : R.frames = 0 := by rw [hR]; rfl
  have hRl : R.locals = 0 := by rw [hR]; rfl
  have hRc : R.cells = 0 := by rw [hR]; rfl
  have hRs : R.slots = 0 := by rw [hR]; rfl
  have hS : va_S A s.heap H locs := by rw [hH, hlo]; exact va_S.rf
  rw [← hH] at hP
  obtain ⟨Q, hQ⟩ : ∃ q : Int32 → S_ → Prop, q = (post_X9_failed f_  σ0) := ⟨_, rfl⟩
  rw [← hQ] at hv
  have hinX9 : ∀ w ∈ wsX90, w ∈ wsX9_failed := by decide +kernel
  refine lv_aload_n hx hb dX9_failed_0 rfl (lv_at hl 0 rfl) ?_
  refine lv_iload_n hx hb dX9_failed_1 rfl (lv_at hl 1 rfl) ?_
  refine va_put (ci := 9) (v := .int f_) (ty := .int) (C := RX9) (T := TX9) (N := 38) hx hb hts hinX9 tyX9 tyX9_ok nmX9 hown hK hP hD hS 0 (wR_0 cy ad σ0) rfl 0 (by decide) (hts (.fieldLink RX9 94 "TaleBansModel" "fault" "I") (List.mem_of_getElem? (i := 1) rfl)) (fun x h => h) rfl (by decide +kernel) rfl rfl (Nat.le_of_ble_eq_true rfl) dX9_failed_2 (fun H locs hP hD hS => ?_)
  obtain ⟨σ1, e2⟩ : ∃ y : S_, y = wrI σ0 0 f_ := ⟨_, rfl⟩
  have hP : va_P D vwCl (wR cy ad σ1) H := by rw [e2]; exact hP
  have hD : va_D A (wR cy ad σ1) := by rw [e2]; exact hD
  have hv := hv σ1 e2
  refine lv_bipush (v := (-10)) hx hb dX9_failed_5 (by decide) ?_
  refine lv_iload_n hx hb dX9_failed_7 rfl (lv_at hl 1 rfl) ?_
  refine lv_isub hx hb dX9_failed_8 ?_
  rw [hZ]; rw [hQ] at hv
  exact W.iret (v := ((-10) - f_)) hx hb hr (fun t ht hW => ⟨⟨((-10) - f_), σ1, rfl, hv, ⟨P_of ht hP, hD⟩⟩, hS.F ht⟩) hS.2.2 dX9_failed_9
set_option maxHeartbeats 4000000 in
set_option maxRecDepth 100000 in
theorem wk_X9_failedLong (l : Launch) (h_X9_lost : Ct_X9_lost l) (sp : ∀ (f_ : Int32) (σ0 : S_), True → vc_X9_failedLong f_ σ0 (post_X9_failedLong f_ σ0)) : Ct_X9_failedLong l := by
  intro D cy ad A f_  σ0  hpre
  refine Met.ofW (cc := cX9_failedLong) (maxL := 2) (ret := (some .long)) (by decide) rfl ?_
  intro p e s m args below meth c s₁ B hml hv0
  obtain ⟨rfl, hP, hK, hD, hN⟩ := hv0
  have hx := B.exec
  have hb := B.bytes
  have hr := B.returns
  have hts := atoms_spec (ws := wsX9_failedLong) B.pre
  have hown : s.vm.findClass RX9 = some m.cls := findClass_of_methodNamed B.named
  have hlocks := B.notSynchronized
  have hv := sp f_  σ0 hpre
  have hl := lv_entry ([.ref (ad 0), .int f_]) (n := 2) (Nat.le_of_ble_eq_true rfl)
  rw [lg_entry_eq]
  generalize (lg_sl ([.ref (ad 0), .int f_]) ++ List.replicate (2 - (lg_sl ([.ref (ad 0), .int f_])).length) Slot.unset).toArray = ls at hl ⊢
  have hl : lv_has ls 2 [(0, .ref (ad 0)), (1, .int f_)] := hl
  refine W_gen (fun R Z H locs hR hZ hH hlo => ?_)
  have hRf : R.frames = 1 := by rw [hR]; rfl
  have hRl : R.locals = 19 := by rw [hR]; rfl
  have hRc : R.cells = 0 := by rw [hR]; rfl
  have hRs : R.slots = 0 := by rw [hR]; rfl
  have hS : va_S A s.heap H locs := by rw [hH, hlo]; exact va_S.rf
  rw [← hH] at hP
  obtain ⟨Q, hQ⟩ : ∃ q : Int64 → S_ → Prop, q = (post_X9_failedLong f_  σ0) := ⟨_, rfl⟩
  rw [← hQ] at hv
  have hinX9 : ∀ w ∈ wsX90, w ∈ wsX9_failedLong := by decide +kernel
  refine lv_aload_n hx hb dX9_failedLong_0 rfl (lv_at hl 0 rfl) ?_
  refine lv_iload_n hx hb dX9_failedLong_1 rfl (lv_at hl 1 rfl) ?_
  refine va_put (ci := 9) (v := .int f_) (ty := .int) (C := RX9) (T := TX9) (N := 38) hx hb hts hinX9 tyX9 tyX9_ok nmX9 hown hK hP hD hS 0 (wR_0 cy ad σ0) rfl 0 (by decide) (hts (.fieldLink RX9 94 "TaleBansModel" "fault" "I") (List.mem_of_getElem? (i := 1) rfl)) (fun x h => h) rfl (by decide +kernel) rfl rfl (Nat.le_of_ble_eq_true rfl) dX9_failedLong_2 (fun H locs hP hD hS => ?_)
  obtain ⟨σ1, e2⟩ : ∃ y : S_, y = wrI σ0 0 f_ := ⟨_, rfl⟩
  have hP : va_P D vwCl (wR cy ad σ1) H := by rw [e2]; exact hP
  have hD : va_D A (wR cy ad σ1) := by rw [e2]; exact hD
  have hv := hv σ1 e2
  refine k_pure_l (va_runS (As := []) (rest := []) ⟨hx, hb, hml, hown, hts⟩ (h_X9_lost ) (va_cwS 0 hts gX9_failedLong_X9_lost rfl rfl rfl (by decide +kernel) ⟨le_R hRf (Nat.le_of_ble_eq_true rfl), le_R hRl (Nat.le_of_ble_eq_true rfl)⟩) ⟨(fun a U g mk q => ⟨q.1, trivial⟩), (fun U hU hW => ⟨rfl, trivial⟩)⟩ rfl rfl hl.1 rfl (lv_room (Nat.le_of_ble_eq_true rfl)) dX9_failedLong_5 ⟨le_R hRc (Nat.le_refl 0), le_R hRs (Nat.le_refl 0)⟩) hS hP (fun r H locs hr1 hP hS => ?_)
  subst hr1
  rw [hZ]; rw [hQ] at hv
  exact W.lret (v := fn_X9_lost) hx hb hr (fun t ht hW => ⟨⟨fn_X9_lost, σ1, rfl, hv, ⟨P_of ht hP, hD⟩⟩, hS.F ht⟩) hS.2.2 dX9_failedLong_8
set_option maxHeartbeats 4000000 in
set_option maxRecDepth 100000 in
theorem wk_X9_noPerson (l : Launch) (h_X9_in : Ct_X9_in l) (sp : ∀ (p_ : Int32) (σ0 : S_), True → vc_X9_noPerson p_ σ0 (fun r => r = fn_X9_noPerson p_ σ0)) : Ct_X9_noPerson l := by
  intro D cy ad A p_  σ0  hpre
  refine Met.ofW (cc := cX9_noPerson) (maxL := 2) (ret := (some .boolean)) (by decide) rfl ?_
  intro p e s m args below meth c s₁ B hml hv0
  obtain ⟨rfl, hP, hK, hD, hN⟩ := hv0
  have hx := B.exec
  have hb := B.bytes
  have hr := B.returns
  have hts := atoms_spec (ws := wsX9_noPerson) B.pre
  have hown : s.vm.findClass RX9 = some m.cls := findClass_of_methodNamed B.named
  have hlocks := B.notSynchronized
  have hv := sp p_  σ0 hpre
  have hl := lv_entry ([.ref (ad 0), .int p_]) (n := 2) (Nat.le_of_ble_eq_true rfl)
  rw [lg_entry_eq]
  generalize (lg_sl ([.ref (ad 0), .int p_]) ++ List.replicate (2 - (lg_sl ([.ref (ad 0), .int p_])).length) Slot.unset).toArray = ls at hl ⊢
  have hl : lv_has ls 2 [(0, .ref (ad 0)), (1, .int p_)] := hl
  refine W_gen (fun R Z H locs hR hZ hH hlo => ?_)
  have hRf : R.frames = 1 := by rw [hR]; rfl
  have hRl : R.locals = 25 := by rw [hR]; rfl
  have hRc : R.cells = 0 := by rw [hR]; rfl
  have hRs : R.slots = 0 := by rw [hR]; rfl
  have hS : va_S A s.heap H locs := by rw [hH, hlo]; exact va_S.rf
  rw [← hH] at hP
  obtain ⟨Q, hQ⟩ : ∃ q : Int32 → Prop, q = (fun r => r = fn_X9_noPerson p_ σ0) := ⟨_, rfl⟩
  rw [← hQ] at hv
  have hinX9 : ∀ w ∈ wsX90, w ∈ wsX9_noPerson := by decide +kernel
  refine lv_iload_n hx hb dX9_noPerson_0 rfl (lv_at hl 1 rfl) ?_
  refine lv_i2l hx hb dX9_noPerson_1 rfl ?_
  refine lv_lconst (v := 0) hx hb dX9_noPerson_2 rfl ?_
  refine lv_aload_n hx hb dX9_noPerson_3 rfl (lv_at hl 0 rfl) ?_
  refine va_get (ci := 9) (v := .int (rdI σ0 1)) (C := RX9) (T := TX9) (N := 38) hx hb hts hinX9 hown hK hP 0 (wR_0 cy ad σ0) rfl 1 (by decide) (hts (.fieldLink RX9 102 "TaleBansModel" "persons" "I") (List.mem_of_getElem? (i := 1) rfl)) (fun x h => h) rfl dX9_noPerson_4 ?_
  refine lv_i2l hx hb dX9_noPerson_7 rfl ?_
  refine lv_lconst (v := 1) hx hb dX9_noPerson_8 rfl ?_
  refine lv_lsub hx hb dX9_noPerson_9 ?_
  refine k_pure_i (va_runS (As := [.long (Int32.toInt64 p_), .long 0, .long ((Int32.toInt64 (rdI σ0 1)) - 1)]) (rest := []) ⟨hx, hb, hml, hown, hts⟩ (h_X9_in (Int32.toInt64 p_) 0 ((Int32.toInt64 (rdI σ0 1)) - 1)) (va_cwS 3 hts gX9_noPerson_X9_in rfl rfl rfl (by decide +kernel) ⟨le_R hRf (Nat.le_of_ble_eq_true rfl), le_R hRl (Nat.le_of_ble_eq_true rfl)⟩) ⟨(fun a U g mk q => ⟨q.1, trivial⟩), (fun U hU hW => ⟨rfl, trivial⟩)⟩ rfl rfl hl.1 rfl (lv_room (Nat.le_of_ble_eq_true rfl)) dX9_noPerson_10 ⟨le_R hRc (Nat.le_refl 0), le_R hRs (Nat.le_refl 0)⟩) hS hP (fun r H locs hr1 hP hS => ?_)
  subst hr1
  refine lv_if_ne (tgt := 20) hx hb dX9_noPerson_13 (by decide) (fun c1 => ?_) (fun c1 => ?_)
  · have hv := hv.1 c1
    refine lv_iconst (v := 0) hx hb dX9_noPerson_20 (by decide) ?_
    rw [hZ]; rw [hQ] at hv
    exact W.zret (v := 0) hx hb hr rfl (fun t ht hW => ⟨⟨0, (), rfl, hv, (P_of ht hP)⟩, hS.F ht⟩) hS.2.2 dX9_noPerson_21
  · have hv := hv.2 c1
    refine lv_iconst (v := 1) hx hb dX9_noPerson_16 (by decide) ?_
    refine lv_goto (tgt := 21) hx hb dX9_noPerson_17 (by decide) ?_
    rw [hZ]; rw [hQ] at hv
    exact W.zret (v := 1) hx hb hr rfl (fun t ht hW => ⟨⟨1, (), rfl, hv, (P_of ht hP)⟩, hS.F ht⟩) hS.2.2 dX9_noPerson_21
set_option maxHeartbeats 4000000 in
set_option maxRecDepth 100000 in
theorem wk_X9_noTale (l : Launch) (h_X9_in : Ct_X9_in l) (sp : ∀ (t_ : Int32) (σ0 : S_), True → vc_X9_noTale t_ σ0 (fun r => r = fn_X9_noTale t_ σ0)) : Ct_X9_noTale l := by
  intro D cy ad A t_  σ0  hpre
  refine Met.ofW (cc := cX9_noTale) (maxL := 2) (ret := (some .boolean)) (by decide) rfl ?_
  intro p e s m args below meth c s₁ B hml hv0
  obtain ⟨rfl, hP, hK, hD, hN⟩ := hv0
  have hx := B.exec
  have hb := B.bytes
  have hr := B.returns
  have hts := atoms_spec (ws := wsX9_noTale) B.pre
  have hown : s.vm.findClass RX9 = some m.cls := findClass_of_methodNamed B.named
  have hlocks := B.notSynchronized
  have hv := sp t_  σ0 hpre
  have hl := lv_entry ([.ref (ad 0), .int t_]) (n := 2) (Nat.le_of_ble_eq_true rfl)
  rw [lg_entry_eq]
  generalize (lg_sl ([.ref (ad 0), .int t_]) ++ List.replicate (2 - (lg_sl ([.ref (ad 0), .int t_])).length) Slot.unset).toArray = ls at hl ⊢
  have hl : lv_has ls 2 [(0, .ref (ad 0)), (1, .int t_)] := hl
  refine W_gen (fun R Z H locs hR hZ hH hlo => ?_)
  have hRf : R.frames = 1 := by rw [hR]; rfl
  have hRl : R.locals = 25 := by rw [hR]; rfl
  have hRc : R.cells = 0 := by rw [hR]; rfl
  have hRs : R.slots = 0 := by rw [hR]; rfl
  have hS : va_S A s.heap H locs := by rw [hH, hlo]; exact va_S.rf
  rw [← hH] at hP
  obtain ⟨Q, hQ⟩ : ∃ q : Int32 → Prop, q = (fun r => r = fn_X9_noTale t_ σ0) := ⟨_, rfl⟩
  rw [← hQ] at hv
  have hinX9 : ∀ w ∈ wsX90, w ∈ wsX9_noTale := by decide +kernel
  refine lv_iload_n hx hb dX9_noTale_0 rfl (lv_at hl 1 rfl) ?_
  refine lv_i2l hx hb dX9_noTale_1 rfl ?_
  refine lv_lconst (v := 0) hx hb dX9_noTale_2 rfl ?_
  refine lv_aload_n hx hb dX9_noTale_3 rfl (lv_at hl 0 rfl) ?_
  refine va_get (ci := 9) (v := .int (rdI σ0 6)) (C := RX9) (T := TX9) (N := 38) hx hb hts hinX9 hown hK hP 0 (wR_0 cy ad σ0) rfl 12 (by decide) (hts (.fieldLink RX9 109 "TaleBansModel" "tales" "I") (List.mem_of_getElem? (i := 1) rfl)) (fun x h => h) rfl dX9_noTale_4 ?_
  refine lv_i2l hx hb dX9_noTale_7 rfl ?_
  refine lv_lconst (v := 1) hx hb dX9_noTale_8 rfl ?_
  refine lv_lsub hx hb dX9_noTale_9 ?_
  refine k_pure_i (va_runS (As := [.long (Int32.toInt64 t_), .long 0, .long ((Int32.toInt64 (rdI σ0 6)) - 1)]) (rest := []) ⟨hx, hb, hml, hown, hts⟩ (h_X9_in (Int32.toInt64 t_) 0 ((Int32.toInt64 (rdI σ0 6)) - 1)) (va_cwS 3 hts gX9_noTale_X9_in rfl rfl rfl (by decide +kernel) ⟨le_R hRf (Nat.le_of_ble_eq_true rfl), le_R hRl (Nat.le_of_ble_eq_true rfl)⟩) ⟨(fun a U g mk q => ⟨q.1, trivial⟩), (fun U hU hW => ⟨rfl, trivial⟩)⟩ rfl rfl hl.1 rfl (lv_room (Nat.le_of_ble_eq_true rfl)) dX9_noTale_10 ⟨le_R hRc (Nat.le_refl 0), le_R hRs (Nat.le_refl 0)⟩) hS hP (fun r H locs hr1 hP hS => ?_)
  subst hr1
  refine lv_if_ne (tgt := 20) hx hb dX9_noTale_13 (by decide) (fun c1 => ?_) (fun c1 => ?_)
  · have hv := hv.1 c1
    refine lv_iconst (v := 0) hx hb dX9_noTale_20 (by decide) ?_
    rw [hZ]; rw [hQ] at hv
    exact W.zret (v := 0) hx hb hr rfl (fun t ht hW => ⟨⟨0, (), rfl, hv, (P_of ht hP)⟩, hS.F ht⟩) hS.2.2 dX9_noTale_21
  · have hv := hv.2 c1
    refine lv_iconst (v := 1) hx hb dX9_noTale_16 (by decide) ?_
    refine lv_goto (tgt := 21) hx hb dX9_noTale_17 (by decide) ?_
    rw [hZ]; rw [hQ] at hv
    exact W.zret (v := 1) hx hb hr rfl (fun t ht hW => ⟨⟨1, (), rfl, hv, (P_of ht hP)⟩, hS.F ht⟩) hS.2.2 dX9_noTale_21
set_option maxHeartbeats 4000000 in
set_option maxRecDepth 100000 in
theorem wk_X9_all (l : Launch) (sp : ∀ (σ0 : S_), True → vc_X9_all σ0 (fun r => r = fn_X9_all σ0)) : Ct_X9_all l := by
  intro D cy ad A   σ0  hpre
  refine Met.ofW (cc := cX9_all) (maxL := 1) (ret := (some .int)) (by decide) rfl ?_
  intro p e s m args below meth c s₁ B hml hv0
  obtain ⟨rfl, hP, hK, hD, hN⟩ := hv0
  have hx := B.exec
  have hb := B.bytes
  have hr := B.returns
  have hts := atoms_spec (ws := wsX9_all) B.pre
  have hown : s.vm.findClass RX9 = some m.cls := findClass_of_methodNamed B.named
  have hlocks := B.notSynchronized
  have hv := sp   σ0 hpre
  have hl := lv_entry ([.ref (ad 0)]) (n := 1) (Nat.le_of_ble_eq_true rfl)
  rw [lg_entry_eq]
  generalize (lg_sl ([.ref (ad 0)]) ++ List.replicate (1 - (lg_sl ([.ref (ad 0)])).length) Slot.unset).toArray = ls at hl ⊢
  have hl : lv_has ls 1 [(0, .ref (ad 0))] := hl
  refine W_gen (fun R Z H locs hR hZ hH hlo => ?_)
  have hRf : R.frames = 0 := by rw [hR]; rfl
  have hRl : R.locals = 0 := by rw [hR]; rfl
  have hRc : R.cells = 0 := by rw [hR]; rfl
  have hRs : R.slots = 0 := by rw [hR]; rfl
  have hS : va_S A s.heap H locs := by rw [hH, hlo]; exact va_S.rf
  rw [← hH] at hP
  obtain ⟨Q, hQ⟩ : ∃ q : Int32 → Prop, q = (fun r => r = fn_X9_all  σ0) := ⟨_, rfl⟩
  rw [← hQ] at hv
  have hinX9 : ∀ w ∈ wsX90, w ∈ wsX9_all := by decide +kernel
  refine lv_iconst (v := 1) hx hb dX9_all_0 (by decide) ?_
  refine lv_aload_n hx hb dX9_all_1 rfl (lv_at hl 0 rfl) ?_
  refine va_get (ci := 9) (v := .int (rdI σ0 1)) (C := RX9) (T := TX9) (N := 38) hx hb hts hinX9 hown hK hP 0 (wR_0 cy ad σ0) rfl 1 (by decide) (hts (.fieldLink RX9 102 "TaleBansModel" "persons" "I") (List.mem_of_getElem? (i := 1) rfl)) (fun x h => h) rfl dX9_all_2 ?_
  refine lv_ishl hx hb dX9_all_5 ?_
  refine lv_iconst (v := 1) hx hb dX9_all_6 (by decide) ?_
  refine lv_isub hx hb dX9_all_7 ?_
  rw [hZ]; rw [hQ] at hv
  exact W.iret (v := ((1 <<< ((rdI σ0 1) &&& 31)) - 1)) hx hb hr (fun t ht hW => ⟨⟨((1 <<< ((rdI σ0 1) &&& 31)) - 1), (), rfl, hv, (P_of ht hP)⟩, hS.F ht⟩) hS.2.2 dX9_all_8
set_option maxHeartbeats 4000000 in
set_option maxRecDepth 100000 in
theorem wk_X9_codeAt (l : Launch) (sp : ∀ (fr_ : Int32) (n_ : Int32) (σ0 : S_), pre_X9_codeAt fr_ n_ σ0 → vc_X9_codeAt fr_ n_ σ0 (fun r => r = fn_X9_codeAt fr_ n_ σ0)) : Ct_X9_codeAt l := by
  intro D cy ad A fr_ n_  σ0  hpre
  refine Met.ofW (cc := cX9_codeAt) (maxL := 3) (ret := (some .int)) (by decide) rfl ?_
  intro p e s m args below meth c s₁ B hml hv0
  obtain ⟨rfl, hP, hK, hD, hN⟩ := hv0
  have hx := B.exec
  have hb := B.bytes
  have hr := B.returns
  have hts := atoms_spec (ws := wsX9_codeAt) B.pre
  have hown : s.vm.findClass RX9 = some m.cls := findClass_of_methodNamed B.named
  have hlocks := B.notSynchronized
  have hv := sp fr_ n_  σ0 hpre
  have hl := lv_entry ([.ref (ad 0), .int fr_, .int n_]) (n := 3) (Nat.le_of_ble_eq_true rfl)
  rw [lg_entry_eq]
  generalize (lg_sl ([.ref (ad 0), .int fr_, .int n_]) ++ List.replicate (3 - (lg_sl ([.ref (ad 0), .int fr_, .int n_])).length) Slot.unset).toArray = ls at hl ⊢
  have hl : lv_has ls 3 [(0, .ref (ad 0)), (1, .int fr_), (2, .int n_)] := hl
  refine W_gen (fun R Z H locs hR hZ hH hlo => ?_)
  have hRf : R.frames = 0 := by rw [hR]; rfl
  have hRl : R.locals = 0 := by rw [hR]; rfl
  have hRc : R.cells = 0 := by rw [hR]; rfl
  have hRs : R.slots = 0 := by rw [hR]; rfl
  have hS : va_S A s.heap H locs := by rw [hH, hlo]; exact va_S.rf
  rw [← hH] at hP
  obtain ⟨Q, hQ⟩ : ∃ q : Int32 → Prop, q = (fun r => r = fn_X9_codeAt fr_ n_ σ0) := ⟨_, rfl⟩
  rw [← hQ] at hv
  have hinX9 : ∀ w ∈ wsX90, w ∈ wsX9_codeAt := by decide +kernel
  refine lv_aload_n hx hb dX9_codeAt_0 rfl (lv_at hl 0 rfl) ?_
  refine va_get (ci := 9) (v := .int (rdI σ0 4)) (C := RX9) (T := TX9) (N := 38) hx hb hts hinX9 hown hK hP 0 (wR_0 cy ad σ0) rfl 7 (by decide) (hts (.fieldLink RX9 118 "TaleBansModel" "readAt" "I") (List.mem_of_getElem? (i := 1) rfl)) (fun x h => h) rfl dX9_codeAt_1 ?_
  refine lv_iload_n hx hb dX9_codeAt_4 rfl (lv_at hl 2 rfl) ?_
  refine lv_icmp_ge (tgt := 22) hx hb dX9_codeAt_5 (by decide) (fun c1 => ?_) (fun c1 => ?_)
  · have hv := hv.1 c1
    refine lv_bipush (v := (-9)) hx hb dX9_codeAt_22 (by decide) ?_
    rw [hZ]; rw [hQ] at hv
    exact W.iret (v := (-9)) hx hb hr (fun t ht hW => ⟨⟨(-9), (), rfl, hv, (P_of ht hP)⟩, hS.F ht⟩) hS.2.2 dX9_codeAt_24
  · have hv := hv.2 c1
    refine lv_aload_n hx hb dX9_codeAt_8 rfl (lv_at hl 0 rfl) ?_
    refine va_get (ci := 9) (v := .ref (ad (26))) (C := RX9) (T := TX9) (N := 38) hx hb hts hinX9 hown hK hP 0 (wR_0 cy ad σ0) rfl 35 (by decide) (hts (.fieldLink RX9 86 "TaleBansModel" "sheet" "[I") (List.mem_of_getElem? (i := 2) rfl)) (fun x h => h) rfl dX9_codeAt_9 ?_
    refine lv_iload_n hx hb dX9_codeAt_12 rfl (lv_at hl 1 rfl) ?_
    refine lv_aload_n hx hb dX9_codeAt_13 rfl (lv_at hl 0 rfl) ?_
    refine va_get (ci := 9) (v := .int (rdI σ0 4)) (C := RX9) (T := TX9) (N := 38) hx hb hts hinX9 hown hK hP 0 (wR_0 cy ad σ0) rfl 7 (by decide) (hts (.fieldLink RX9 118 "TaleBansModel" "readAt" "I") (List.mem_of_getElem? (i := 1) rfl)) (fun x h => h) rfl dX9_codeAt_14 ?_
    refine lv_iadd hx hb dX9_codeAt_17 ?_
    obtain ⟨hi, hv⟩ := hv
    refine va_iald hx hb hK hP 26 0 (wR_26 cy ad σ0) rfl hi dX9_codeAt_18 ?_
    refine lv_goto (tgt := 24) hx hb dX9_codeAt_19 (by decide) ?_
    rw [hZ]; rw [hQ] at hv
    exact W.iret (v := (rdA σ0 26 (Int32.toNatClampNeg (fr_ + (rdI σ0 4))))) hx hb hr (fun t ht hW => ⟨⟨(rdA σ0 26 (Int32.toNatClampNeg (fr_ + (rdI σ0 4)))), (), rfl, hv, (P_of ht hP)⟩, hS.F ht⟩) hS.2.2 dX9_codeAt_24
set_option maxHeartbeats 4000000 in
set_option maxRecDepth 100000 in
theorem wk_X9_figure (l : Launch) (h_X9_codeAt : Ct_X9_codeAt l) (h_X9_in : Ct_X9_in l) (sp : ∀ (fr_ : Int32) (n_ : Int32) (lo_ : Int32) (hi_ : Int32) (σ0 : S_), pre_X9_figure fr_ n_ lo_ hi_ σ0 → vc_X9_figure fr_ n_ lo_ hi_ σ0 (post_X9_figure fr_ n_ lo_ hi_ σ0)) : Ct_X9_figure l := by
  intro D cy ad A fr_ n_ lo_ hi_  σ0  hpre
  refine Met.ofW (cc := cX9_figure) (maxL := 7) (ret := (some .int)) (by decide) rfl ?_
  intro p e s m args below meth c s₁ B hml hv0
  obtain ⟨rfl, hP, hK, hD, hN⟩ := hv0
  have hx := B.exec
  have hb := B.bytes
  have hr := B.returns
  have hts := atoms_spec (ws := wsX9_figure) B.pre
  have hown : s.vm.findClass RX9 = some m.cls := findClass_of_methodNamed B.named
  have hlocks := B.notSynchronized
  have hv := sp fr_ n_ lo_ hi_  σ0 hpre
  have hl := lv_entry ([.ref (ad 0), .int fr_, .int n_, .int lo_, .int hi_]) (n := 7) (Nat.le_of_ble_eq_true rfl)
  rw [lg_entry_eq]
  generalize (lg_sl ([.ref (ad 0), .int fr_, .int n_, .int lo_, .int hi_]) ++ List.replicate (7 - (lg_sl ([.ref (ad 0), .int fr_, .int n_, .int lo_, .int hi_])).length) Slot.unset).toArray = ls at hl ⊢
  have hl : lv_has ls 7 [(0, .ref (ad 0)), (1, .int fr_), (2, .int n_), (3, .int lo_), (4, .int hi_)] := hl
  refine W_gen (fun R Z H locs hR hZ hH hlo => ?_)
  have hRf : R.frames = 1 := by rw [hR]; rfl
  have hRl : R.locals = 25 := by rw [hR]; rfl
  have hRc : R.cells = 0 := by rw [hR]; rfl
  have hRs : R.slots = 0 := by rw [hR]; rfl
  have hS : va_S A s.heap H locs := by rw [hH, hlo]; exact va_S.rf
  rw [← hH] at hP
  obtain ⟨Q, hQ⟩ : ∃ q : Int32 → S_ → Prop, q = (post_X9_figure fr_ n_ lo_ hi_  σ0) := ⟨_, rfl⟩
  rw [← hQ] at hv
  have hinX9 : ∀ w ∈ wsX90, w ∈ wsX9_figure := by decide +kernel
  refine lv_aload_n hx hb dX9_figure_0 rfl (lv_at hl 0 rfl) ?_
  refine lv_iload_n hx hb dX9_figure_1 rfl (lv_at hl 1 rfl) ?_
  refine lv_iload_n hx hb dX9_figure_2 rfl (lv_at hl 2 rfl) ?_
  obtain ⟨hp, hv⟩ := hv
  refine k_read_i (w := wR cy ad) (va_runV (As := [.int fr_, .int n_]) (rest := []) ⟨hx, hb, hml, hown, hts⟩ (h_X9_codeAt D cy ad A fr_ n_ σ0 hp) (cwV 2 hts gX9_figure_X9_codeAt rfl rfl rfl (by decide +kernel) ⟨le_R hRf (Nat.le_of_ble_eq_true rfl), le_R hRl (Nat.le_of_ble_eq_true rfl)⟩) ⟨(fun a U g mk q => ⟨q.1, q.2.blind⟩), va_recv hK hP (ci := 9) (q0 := 0) rfl (wR_0 cy ad σ0), (fun U hU hW => ⟨rfl, WdR.pre hP hK hD hN hU hW⟩)⟩ rfl rfl hl.1 rfl (lv_room (Nat.le_of_ble_eq_true rfl)) dX9_figure_3 ⟨le_R hRc (Nat.le_refl 0), le_R hRs (Nat.le_refl 0)⟩) hS (fun r H locs hr1 hP hS => ?_)
  subst hr1
  refine lv_bipush (v := 48) hx hb dX9_figure_6 (by decide) ?_
  refine lv_isub hx hb dX9_figure_8 ?_
  refine lv_istore (lv' := [(5, .int ((fn_X9_codeAt fr_ n_ σ0) - 48)), (0, .ref (ad 0)), (1, .int fr_), (2, .int n_), (3, .int lo_), (4, .int hi_)]) hx hb dX9_figure_9 hl (by decide) rfl (fun ls hl => ?_)
  refine lv_iload hx hb dX9_figure_11 (lv_at hl 0 rfl) ?_
  refine lv_i2l hx hb dX9_figure_13 rfl ?_
  refine lv_iload_n hx hb dX9_figure_14 rfl (lv_at hl 4 rfl) ?_
  refine lv_i2l hx hb dX9_figure_15 rfl ?_
  refine lv_iload hx hb dX9_figure_16 (lv_at hl 5 rfl) ?_
  refine lv_i2l hx hb dX9_figure_18 rfl ?_
  refine k_pure_i (va_runS (As := [.long (Int32.toInt64 ((fn_X9_codeAt fr_ n_ σ0) - 48)), .long (Int32.toInt64 lo_), .long (Int32.toInt64 hi_)]) (rest := []) ⟨hx, hb, hml, hown, hts⟩ (h_X9_in (Int32.toInt64 ((fn_X9_codeAt fr_ n_ σ0) - 48)) (Int32.toInt64 lo_) (Int32.toInt64 hi_)) (va_cwS 3 hts gX9_figure_X9_in rfl rfl rfl (by decide +kernel) ⟨le_R hRf (Nat.le_of_ble_eq_true rfl), le_R hRl (Nat.le_of_ble_eq_true rfl)⟩) ⟨(fun a U g mk q => ⟨q.1, trivial⟩), (fun U hU hW => ⟨rfl, trivial⟩)⟩ rfl rfl hl.1 rfl (lv_room (Nat.le_of_ble_eq_true rfl)) dX9_figure_19 ⟨le_R hRc (Nat.le_refl 0), le_R hRs (Nat.le_refl 0)⟩) hS hP (fun r H locs hr1 hP hS => ?_)
  subst hr1
  refine lv_topi (fun x1 h9 => ?_)
  have hv := hv x1 h9
  refine lv_istore (lv' := [(6, .int x1), (5, .int ((fn_X9_codeAt fr_ n_ σ0) - 48)), (0, .ref (ad 0)), (1, .int fr_), (2, .int n_), (3, .int lo_), (4, .int hi_)]) hx hb dX9_figure_22 hl (by decide) rfl (fun ls hl => ?_)
  refine lv_aload_n hx hb dX9_figure_24 rfl (lv_at hl 2 rfl) ?_
  refine lv_dup hx hb dX9_figure_25 rfl ?_
  refine va_get (ci := 9) (v := .int (rdI σ0 4)) (C := RX9) (T := TX9) (N := 38) hx hb hts hinX9 hown hK hP 0 (wR_0 cy ad σ0) rfl 7 (by decide) (hts (.fieldLink RX9 118 "TaleBansModel" "readAt" "I") (List.mem_of_getElem? (i := 1) rfl)) (fun x h => h) rfl dX9_figure_26 ?_
  refine lv_iload hx hb dX9_figure_29 (lv_at hl 0 rfl) ?_
  obtain ⟨P2, hv, hvr⟩ := hv
  have jn3 : ∀ (b4 : Int32) (H : Heap) (locs : List Loc) (ls : Array Slot), P2 b4 → va_P D vwCl (wR cy ad σ0) H → va_S A s.heap H locs → lv_has ls 7 [(6, .int x1), (5, .int ((fn_X9_codeAt fr_ n_ σ0) - 48)), (0, .ref (ad 0)), (1, .int fr_), (2, .int n_), (3, .int lo_), (4, .int hi_)] → W p l e R s m ([.ref (ad 0), .int fr_, .int n_, .int lo_, .int hi_] : List Value).toArray below meth c H locs 0 0 Z (F0 m 39 ls [.int b4, .int (rdI σ0 4), .ref (ad 0)]) := by
    intro b4 H locs ls hv hP hS hl
    have hv := hvr b4 hv
    refine lv_iadd hx hb dX9_figure_39 ?_
    refine va_put (ci := 9) (v := .int ((rdI σ0 4) + b4)) (ty := .int) (C := RX9) (T := TX9) (N := 38) hx hb hts hinX9 tyX9 tyX9_ok nmX9 hown hK hP hD hS 0 (wR_0 cy ad σ0) rfl 7 (by decide) (hts (.fieldLink RX9 118 "TaleBansModel" "readAt" "I") (List.mem_of_getElem? (i := 1) rfl)) (fun x h => h) rfl (by decide +kernel) rfl rfl (Nat.le_of_ble_eq_true rfl) dX9_figure_40 (fun H locs hP hD hS => ?_)
    obtain ⟨σ6, e7⟩ : ∃ y : S_, y = wrI σ0 4 ((rdI σ0 4) + b4) := ⟨_, rfl⟩
    have hP : va_P D vwCl (wR cy ad σ6) H := by rw [e7]; exact hP
    have hD : va_D A (wR cy ad σ6) := by rw [e7]; exact hD
    have hv := hv σ6 e7
    refine lv_iload hx hb dX9_figure_43 (lv_at hl 0 rfl) ?_
    refine lv_if_eq (tgt := 53) hx hb dX9_figure_45 (by decide) (fun c8 => ?_) (fun c8 => ?_)
    · have hv := hv.1 c8
      refine lv_bipush (v := (-9)) hx hb dX9_figure_53 (by decide) ?_
      rw [hZ]; rw [hQ] at hv
      exact W.iret (v := (-9)) hx hb hr (fun t ht hW => ⟨⟨(-9), σ6, rfl, hv, ⟨P_of ht hP, hD⟩⟩, hS.F ht⟩) hS.2.2 dX9_figure_55
    · have hv := hv.2 c8
      refine lv_iload hx hb dX9_figure_48 (lv_at hl 1 rfl) ?_
      refine lv_goto (tgt := 55) hx hb dX9_figure_50 (by decide) ?_
      rw [hZ]; rw [hQ] at hv
      exact W.iret (v := ((fn_X9_codeAt fr_ n_ σ0) - 48)) hx hb hr (fun t ht hW => ⟨⟨((fn_X9_codeAt fr_ n_ σ0) - 48), σ6, rfl, hv, ⟨P_of ht hP, hD⟩⟩, hS.F ht⟩) hS.2.2 dX9_figure_55
  refine lv_if_eq (tgt := 38) hx hb dX9_figure_31 (by decide) (fun c5 => ?_) (fun c5 => ?_)
  · have hv := hv.1 c5
    refine lv_iconst (v := 0) hx hb dX9_figure_38 (by decide) ?_
    exact jn3 0 _ _ _ hv hP hS hl
  · have hv := hv.2 c5
    refine lv_iconst (v := 1) hx hb dX9_figure_34 (by decide) ?_
    refine lv_goto (tgt := 39) hx hb dX9_figure_35 (by decide) ?_
    exact jn3 1 _ _ _ hv hP hS hl
set_option maxHeartbeats 4000000 in
set_option maxRecDepth 100000 in
theorem wk_X9_readsPerson (l : Launch) (h_X9_codeAt : Ct_X9_codeAt l) (h_X9_figure : Ct_X9_figure l) (sp : ∀ (fr_ : Int32) (n_ : Int32) (σ0 : S_), pre_X9_readsPerson fr_ n_ σ0 → vc_X9_readsPerson fr_ n_ σ0 (post_X9_readsPerson fr_ n_ σ0)) : Ct_X9_readsPerson l := by
  intro D cy ad A fr_ n_  σ0  hpre
  refine Met.ofW (cc := cX9_readsPerson) (maxL := 6) (ret := (some .boolean)) (by decide) rfl ?_
  intro p e s m args below meth c s₁ B hml hv0
  obtain ⟨rfl, hP, hK, hD, hN⟩ := hv0
  have hx := B.exec
  have hb := B.bytes
  have hr := B.returns
  have hts := atoms_spec (ws := wsX9_readsPerson) B.pre
  have hown : s.vm.findClass RX9 = some m.cls := findClass_of_methodNamed B.named
  have hlocks := B.notSynchronized
  have hv := sp fr_ n_  σ0 hpre
  have hl := lv_entry ([.ref (ad 0), .int fr_, .int n_]) (n := 6) (Nat.le_of_ble_eq_true rfl)
  rw [lg_entry_eq]
  generalize (lg_sl ([.ref (ad 0), .int fr_, .int n_]) ++ List.replicate (6 - (lg_sl ([.ref (ad 0), .int fr_, .int n_])).length) Slot.unset).toArray = ls at hl ⊢
  have hl : lv_has ls 6 [(0, .ref (ad 0)), (1, .int fr_), (2, .int n_)] := hl
  refine W_gen (fun R Z H locs hR hZ hH hlo => ?_)
  have hRf : R.frames = 2 := by rw [hR]; rfl
  have hRl : R.locals = 51 := by rw [hR]; rfl
  have hRc : R.cells = 0 := by rw [hR]; rfl
  have hRs : R.slots = 0 := by rw [hR]; rfl
  have hS : va_S A s.heap H locs := by rw [hH, hlo]; exact va_S.rf
  rw [← hH] at hP
  obtain ⟨Q, hQ⟩ : ∃ q : Int32 → S_ → Prop, q = (post_X9_readsPerson fr_ n_  σ0) := ⟨_, rfl⟩
  rw [← hQ] at hv
  have hinX9 : ∀ w ∈ wsX90, w ∈ wsX9_readsPerson := by decide +kernel
  refine lv_aload_n hx hb dX9_readsPerson_0 rfl (lv_at hl 0 rfl) ?_
  refine va_get (ci := 9) (v := .int (rdI σ0 5)) (C := RX9) (T := TX9) (N := 38) hx hb hts hinX9 hown hK hP 0 (wR_0 cy ad σ0) rfl 8 (by decide) (hts (.fieldLink RX9 125 "TaleBansModel" "readPersons" "I") (List.mem_of_getElem? (i := 1) rfl)) (fun x h => h) rfl dX9_readsPerson_1 ?_
  refine lv_bipush (v := 6) hx hb dX9_readsPerson_4 (by decide) ?_
  refine lv_icmp_eq (tgt := 20) hx hb dX9_readsPerson_6 (by decide) (fun c112 => ?_) (fun c112 => ?_)
  · have hv := hv.1 c112
    refine lv_iconst (v := 0) hx hb dX9_readsPerson_20 (by decide) ?_
    rw [hZ]; rw [hQ] at hv
    exact W.zret (v := 0) hx hb hr rfl (fun t ht hW => ⟨⟨0, σ0, rfl, hv, ⟨P_of ht hP, hD⟩⟩, hS.F ht⟩) hS.2.2 dX9_readsPerson_21
  · have hv := hv.2 c112
    refine lv_aload_n hx hb dX9_readsPerson_9 rfl (lv_at hl 0 rfl) ?_
    refine lv_iload_n hx hb dX9_readsPerson_10 rfl (lv_at hl 1 rfl) ?_
    refine lv_iload_n hx hb dX9_readsPerson_11 rfl (lv_at hl 2 rfl) ?_
    obtain ⟨hp, hv⟩ := hv
    refine k_read_i (w := wR cy ad) (va_runV (As := [.int fr_, .int n_]) (rest := []) ⟨hx, hb, hml, hown, hts⟩ (h_X9_codeAt D cy ad A fr_ n_ σ0 hp) (cwV 2 hts gX9_readsPerson_X9_codeAt rfl rfl rfl (by decide +kernel) ⟨le_R hRf (Nat.le_of_ble_eq_true rfl), le_R hRl (Nat.le_of_ble_eq_true rfl)⟩) ⟨(fun a U g mk q => ⟨q.1, q.2.blind⟩), va_recv hK hP (ci := 9) (q0 := 0) rfl (wR_0 cy ad σ0), (fun U hU hW => ⟨rfl, WdR.pre hP hK hD hN hU hW⟩)⟩ rfl rfl hl.1 rfl (lv_room (Nat.le_of_ble_eq_true rfl)) dX9_readsPerson_12 ⟨le_R hRc (Nat.le_refl 0), le_R hRs (Nat.le_refl 0)⟩) hS (fun r H locs hr1 hP hS => ?_)
    subst hr1
    refine lv_bipush (v := 59) hx hb dX9_readsPerson_15 (by decide) ?_
    refine lv_icmp_eq (tgt := 22) hx hb dX9_readsPerson_17 (by decide) (fun c111 => ?_) (fun c111 => ?_)
    · have hv := hv.1 c111
      refine lv_aload_n hx hb dX9_readsPerson_22 rfl (lv_at hl 0 rfl) ?_
      refine lv_dup hx hb dX9_readsPerson_23 rfl ?_
      refine va_get (ci := 9) (v := .int (rdI σ0 4)) (C := RX9) (T := TX9) (N := 38) hx hb hts hinX9 hown hK hP 0 (wR_0 cy ad σ0) rfl 7 (by decide) (hts (.fieldLink RX9 118 "TaleBansModel" "readAt" "I") (List.mem_of_getElem? (i := 2) rfl)) (fun x h => h) rfl dX9_readsPerson_24 ?_
      refine lv_iconst (v := 1) hx hb dX9_readsPerson_27 (by decide) ?_
      refine lv_iadd hx hb dX9_readsPerson_28 ?_
      refine va_put (ci := 9) (v := .int ((rdI σ0 4) + 1)) (ty := .int) (C := RX9) (T := TX9) (N := 38) hx hb hts hinX9 tyX9 tyX9_ok nmX9 hown hK hP hD hS 0 (wR_0 cy ad σ0) rfl 7 (by decide) (hts (.fieldLink RX9 118 "TaleBansModel" "readAt" "I") (List.mem_of_getElem? (i := 2) rfl)) (fun x h => h) rfl (by decide +kernel) rfl rfl (Nat.le_of_ble_eq_true rfl) dX9_readsPerson_29 (fun H locs hP hD hS => ?_)
      obtain ⟨σ1, e2⟩ : ∃ y : S_, y = wrI σ0 4 ((rdI σ0 4) + 1) := ⟨_, rfl⟩
      have hP : va_P D vwCl (wR cy ad σ1) H := by rw [e2]; exact hP
      have hD : va_D A (wR cy ad σ1) := by rw [e2]; exact hD
      have hv := hv σ1 e2
      refine lv_aload_n hx hb dX9_readsPerson_32 rfl (lv_at hl 0 rfl) ?_
      refine lv_iload_n hx hb dX9_readsPerson_33 rfl (lv_at hl 1 rfl) ?_
      refine lv_iload_n hx hb dX9_readsPerson_34 rfl (lv_at hl 2 rfl) ?_
      obtain ⟨hp, hv⟩ := hv
      refine k_read_i (w := wR cy ad) (va_runV (As := [.int fr_, .int n_]) (rest := []) ⟨hx, hb, hml, hown, hts⟩ (h_X9_codeAt D cy ad A fr_ n_ σ1 hp) (cwV 2 hts gX9_readsPerson_X9_codeAt rfl rfl rfl (by decide +kernel) ⟨le_R hRf (Nat.le_of_ble_eq_true rfl), le_R hRl (Nat.le_of_ble_eq_true rfl)⟩) ⟨(fun a U g mk q => ⟨q.1, q.2.blind⟩), va_recv hK hP (ci := 9) (q0 := 0) rfl (wR_0 cy ad σ1), (fun U hU hW => ⟨rfl, WdR.pre hP hK hD hN hU hW⟩)⟩ rfl rfl hl.1 rfl (lv_room (Nat.le_of_ble_eq_true rfl)) dX9_readsPerson_35 ⟨le_R hRc (Nat.le_refl 0), le_R hRs (Nat.le_refl 0)⟩) hS (fun r H locs hr1 hP hS => ?_)
      subst hr1
      refine lv_istore_n (lv' := [(3, .int (fn_X9_codeAt fr_ n_ σ1)), (0, .ref (ad 0)), (1, .int fr_), (2, .int n_)]) hx hb dX9_readsPerson_38 rfl hl (by decide) rfl (fun ls hl => ?_)
      refine lv_iload_n hx hb dX9_readsPerson_39 rfl (lv_at hl 0 rfl) ?_
      refine lv_bipush (v := 104) hx hb dX9_readsPerson_40 (by decide) ?_
      refine lv_icmp_eq (tgt := 59) hx hb dX9_readsPerson_42 (by decide) (fun c110 => ?_) (fun c110 => ?_)
      · have hv := hv.1 c110
        refine lv_aload_n hx hb dX9_readsPerson_59 rfl (lv_at hl 1 rfl) ?_
        refine lv_dup hx hb dX9_readsPerson_60 rfl ?_
        refine va_get (ci := 9) (v := .int (rdI σ1 4)) (C := RX9) (T := TX9) (N := 38) hx hb hts hinX9 hown hK hP 0 (wR_0 cy ad σ1) rfl 7 (by decide) (hts (.fieldLink RX9 118 "TaleBansModel" "readAt" "I") (List.mem_of_getElem? (i := 2) rfl)) (fun x h => h) rfl dX9_readsPerson_61 ?_
        refine lv_iconst (v := 1) hx hb dX9_readsPerson_64 (by decide) ?_
        refine lv_iadd hx hb dX9_readsPerson_65 ?_
        refine va_put (ci := 9) (v := .int ((rdI σ1 4) + 1)) (ty := .int) (C := RX9) (T := TX9) (N := 38) hx hb hts hinX9 tyX9 tyX9_ok nmX9 hown hK hP hD hS 0 (wR_0 cy ad σ1) rfl 7 (by decide) (hts (.fieldLink RX9 118 "TaleBansModel" "readAt" "I") (List.mem_of_getElem? (i := 2) rfl)) (fun x h => h) rfl (by decide +kernel) rfl rfl (Nat.le_of_ble_eq_true rfl) dX9_readsPerson_66 (fun H locs hP hD hS => ?_)
        obtain ⟨σ3, e4⟩ : ∃ y : S_, y = wrI σ1 4 ((rdI σ1 4) + 1) := ⟨_, rfl⟩
        have hP : va_P D vwCl (wR cy ad σ3) H := by rw [e4]; exact hP
        have hD : va_D A (wR cy ad σ3) := by rw [e4]; exact hD
        have hv := hv σ3 e4
        refine lv_aload_n hx hb dX9_readsPerson_69 rfl (lv_at hl 1 rfl) ?_
        refine lv_iload_n hx hb dX9_readsPerson_70 rfl (lv_at hl 2 rfl) ?_
        refine lv_iload_n hx hb dX9_readsPerson_71 rfl (lv_at hl 3 rfl) ?_
        refine lv_iconst (v := 1) hx hb dX9_readsPerson_72 (by decide) ?_
        refine lv_iconst (v := 5) hx hb dX9_readsPerson_73 (by decide) ?_
        obtain ⟨hp, hv⟩ := hv
        refine k_rel_i (w := wR cy ad) (va_runV (As := [.int fr_, .int n_, .int 1, .int 5]) (rest := []) ⟨hx, hb, hml, hown, hts⟩ (h_X9_figure D cy ad A fr_ n_ 1 5 σ3 hp) (cwV 4 hts gX9_readsPerson_X9_figure rfl rfl rfl (by decide +kernel) ⟨le_R hRf (Nat.le_of_ble_eq_true rfl), le_R hRl (Nat.le_of_ble_eq_true rfl)⟩) ⟨(fun a U g mk q => ⟨q.1, q.2.blind⟩), va_recv hK hP (ci := 9) (q0 := 0) rfl (wR_0 cy ad σ3), (fun U hU hW => ⟨rfl, WdR.pre hP hK hD hN hU hW⟩)⟩ rfl rfl hl.1 rfl (lv_room (Nat.le_of_ble_eq_true rfl)) dX9_readsPerson_74 ⟨le_R hRc (Nat.le_refl 0), le_R hRs (Nat.le_refl 0)⟩) hS (fun r6 σ5 H locs hr1 hP hD hS => ?_)
        have hv := hv r6 σ5 hr1
        refine lv_istore (lv' := [(4, .int r6), (3, .int (fn_X9_codeAt fr_ n_ σ1)), (0, .ref (ad 0)), (1, .int fr_), (2, .int n_)]) hx hb dX9_readsPerson_77 hl (by decide) rfl (fun ls hl => ?_)
        refine lv_iload hx hb dX9_readsPerson_79 (lv_at hl 0 rfl) ?_
        refine lv_if_ge (tgt := 89) hx hb dX9_readsPerson_81 (by decide) (fun c37 => ?_) (fun c37 => ?_)
        · have hv := hv.1 c37
          refine lv_aload_n hx hb dX9_readsPerson_89 rfl (lv_at hl 2 rfl) ?_
          refine lv_iload_n hx hb dX9_readsPerson_90 rfl (lv_at hl 3 rfl) ?_
          refine lv_iload_n hx hb dX9_readsPerson_91 rfl (lv_at hl 4 rfl) ?_
          refine lv_iconst (v := 0) hx hb dX9_readsPerson_92 (by decide) ?_
          refine lv_iconst (v := 2) hx hb dX9_readsPerson_93 (by decide) ?_
          obtain ⟨hp, hv⟩ := hv
          refine k_rel_i (w := wR cy ad) (va_runV (As := [.int fr_, .int n_, .int 0, .int 2]) (rest := []) ⟨hx, hb, hml, hown, hts⟩ (h_X9_figure D cy ad A fr_ n_ 0 2 σ5 hp) (cwV 4 hts gX9_readsPerson_X9_figure rfl rfl rfl (by decide +kernel) ⟨le_R hRf (Nat.le_of_ble_eq_true rfl), le_R hRl (Nat.le_of_ble_eq_true rfl)⟩) ⟨(fun a U g mk q => ⟨q.1, q.2.blind⟩), va_recv hK hP (ci := 9) (q0 := 0) rfl (wR_0 cy ad σ5), (fun U hU hW => ⟨rfl, WdR.pre hP hK hD hN hU hW⟩)⟩ rfl rfl hl.1 rfl (lv_room (Nat.le_of_ble_eq_true rfl)) dX9_readsPerson_94 ⟨le_R hRc (Nat.le_refl 0), le_R hRs (Nat.le_refl 0)⟩) hS (fun r8 σ7 H locs hr1 hP hD hS => ?_)
          have hv := hv r8 σ7 hr1
          refine lv_istore (lv' := [(5, .int r8), (4, .int r6), (3, .int (fn_X9_codeAt fr_ n_ σ1)), (0, .ref (ad 0)), (1, .int fr_), (2, .int n_)]) hx hb dX9_readsPerson_97 hl (by decide) rfl (fun ls hl => ?_)
          refine lv_iload hx hb dX9_readsPerson_99 (lv_at hl 0 rfl) ?_
          refine lv_if_ge (tgt := 106) hx hb dX9_readsPerson_101 (by decide) (fun c22 => ?_) (fun c22 => ?_)
          · have hv := hv.1 c22
            refine lv_aload_n hx hb dX9_readsPerson_106 rfl (lv_at hl 3 rfl) ?_
            refine va_get (ci := 9) (v := .ref (ad (4))) (C := RX9) (T := TX9) (N := 38) hx hb hts hinX9 hown hK hP 0 (wR_0 cy ad σ7) rfl 9 (by decide) (hts (.fieldLink RX9 19 "TaleBansModel" "readKind" "[I") (List.mem_of_getElem? (i := 3) rfl)) (fun x h => h) rfl dX9_readsPerson_107 ?_
            refine lv_aload_n hx hb dX9_readsPerson_110 rfl (lv_at hl 3 rfl) ?_
            refine va_get (ci := 9) (v := .int (rdI σ7 5)) (C := RX9) (T := TX9) (N := 38) hx hb hts hinX9 hown hK hP 0 (wR_0 cy ad σ7) rfl 8 (by decide) (hts (.fieldLink RX9 125 "TaleBansModel" "readPersons" "I") (List.mem_of_getElem? (i := 1) rfl)) (fun x h => h) rfl dX9_readsPerson_111 ?_
            refine lv_iload_n hx hb dX9_readsPerson_114 rfl (lv_at hl 2 rfl) ?_
            refine lv_bipush (v := 104) hx hb dX9_readsPerson_115 (by decide) ?_
            obtain ⟨P9, hv, hvr⟩ := hv
            have jn10 : ∀ (b11 : Int32) (H : Heap) (locs : List Loc) (ls : Array Slot), P9 b11 → va_P D vwCl (wR cy ad σ7) H → va_S A s.heap H locs → lv_has ls 6 [(5, .int r8), (4, .int r6), (3, .int (fn_X9_codeAt fr_ n_ σ1)), (0, .ref (ad 0)), (1, .int fr_), (2, .int n_)] → W p l e R s m ([.ref (ad 0), .int fr_, .int n_] : List Value).toArray below meth c H locs 0 0 Z (F0 m 135 ls [.int b11, .int (rdI σ7 5), .ref (ad (4))]) := by
              intro b11 H locs ls hv hP hS hl
              have hv := hvr b11 hv
              obtain ⟨hi, hv⟩ := hv
              refine va_iast hx hb hK hP hD hS 4 0 (wR_4 cy ad σ7) rfl hi dX9_readsPerson_135 (fun H locs hP hD hS => ?_)
              obtain ⟨σ14, e15⟩ : ∃ y : S_, y = wr2 σ7 4 (Int32.toNatClampNeg (rdI σ7 5)) b11 := ⟨_, rfl⟩
              have hP : va_P D vwCl (wR cy ad σ14) H := by rw [e15]; exact hP
              have hD : va_D A (wR cy ad σ14) := by rw [e15]; exact hD
              have hv := hv σ14 e15
              refine lv_aload_n hx hb dX9_readsPerson_136 rfl (lv_at hl 3 rfl) ?_
              refine va_get (ci := 9) (v := .ref (ad (5))) (C := RX9) (T := TX9) (N := 38) hx hb hts hinX9 hown hK hP 0 (wR_0 cy ad σ14) rfl 10 (by decide) (hts (.fieldLink RX9 22 "TaleBansModel" "readMinds" "[I") (List.mem_of_getElem? (i := 4) rfl)) (fun x h => h) rfl dX9_readsPerson_137 ?_
              refine lv_aload_n hx hb dX9_readsPerson_140 rfl (lv_at hl 3 rfl) ?_
              refine va_get (ci := 9) (v := .int (rdI σ14 5)) (C := RX9) (T := TX9) (N := 38) hx hb hts hinX9 hown hK hP 0 (wR_0 cy ad σ14) rfl 8 (by decide) (hts (.fieldLink RX9 125 "TaleBansModel" "readPersons" "I") (List.mem_of_getElem? (i := 1) rfl)) (fun x h => h) rfl dX9_readsPerson_141 ?_
              refine lv_iload hx hb dX9_readsPerson_144 (lv_at hl 1 rfl) ?_
              obtain ⟨hi, hv⟩ := hv
              refine va_iast hx hb hK hP hD hS 5 0 (wR_5 cy ad σ14) rfl hi dX9_readsPerson_146 (fun H locs hP hD hS => ?_)
              obtain ⟨σ16, e17⟩ : ∃ y : S_, y = wr2 σ14 5 (Int32.toNatClampNeg (rdI σ14 5)) r6 := ⟨_, rfl⟩
              have hP : va_P D vwCl (wR cy ad σ16) H := by rw [e17]; exact hP
              have hD : va_D A (wR cy ad σ16) := by rw [e17]; exact hD
              have hv := hv σ16 e17
              refine lv_aload_n hx hb dX9_readsPerson_147 rfl (lv_at hl 3 rfl) ?_
              refine va_get (ci := 9) (v := .ref (ad (6))) (C := RX9) (T := TX9) (N := 38) hx hb hts hinX9 hown hK hP 0 (wR_0 cy ad σ16) rfl 11 (by decide) (hts (.fieldLink RX9 25 "TaleBansModel" "readHearth" "[I") (List.mem_of_getElem? (i := 5) rfl)) (fun x h => h) rfl dX9_readsPerson_148 ?_
              refine lv_aload_n hx hb dX9_readsPerson_151 rfl (lv_at hl 3 rfl) ?_
              refine va_get (ci := 9) (v := .int (rdI σ16 5)) (C := RX9) (T := TX9) (N := 38) hx hb hts hinX9 hown hK hP 0 (wR_0 cy ad σ16) rfl 8 (by decide) (hts (.fieldLink RX9 125 "TaleBansModel" "readPersons" "I") (List.mem_of_getElem? (i := 1) rfl)) (fun x h => h) rfl dX9_readsPerson_152 ?_
              refine lv_iload hx hb dX9_readsPerson_155 (lv_at hl 0 rfl) ?_
              obtain ⟨hi, hv⟩ := hv
              refine va_iast hx hb hK hP hD hS 6 0 (wR_6 cy ad σ16) rfl hi dX9_readsPerson_157 (fun H locs hP hD hS => ?_)
              obtain ⟨σ18, e19⟩ : ∃ y : S_, y = wr2 σ16 6 (Int32.toNatClampNeg (rdI σ16 5)) r8 := ⟨_, rfl⟩
              have hP : va_P D vwCl (wR cy ad σ18) H := by rw [e19]; exact hP
              have hD : va_D A (wR cy ad σ18) := by rw [e19]; exact hD
              have hv := hv σ18 e19
              refine lv_aload_n hx hb dX9_readsPerson_158 rfl (lv_at hl 3 rfl) ?_
              refine lv_dup hx hb dX9_readsPerson_159 rfl ?_
              refine va_get (ci := 9) (v := .int (rdI σ18 5)) (C := RX9) (T := TX9) (N := 38) hx hb hts hinX9 hown hK hP 0 (wR_0 cy ad σ18) rfl 8 (by decide) (hts (.fieldLink RX9 125 "TaleBansModel" "readPersons" "I") (List.mem_of_getElem? (i := 1) rfl)) (fun x h => h) rfl dX9_readsPerson_160 ?_
              refine lv_iconst (v := 1) hx hb dX9_readsPerson_163 (by decide) ?_
              refine lv_iadd hx hb dX9_readsPerson_164 ?_
              refine va_put (ci := 9) (v := .int ((rdI σ18 5) + 1)) (ty := .int) (C := RX9) (T := TX9) (N := 38) hx hb hts hinX9 tyX9 tyX9_ok nmX9 hown hK hP hD hS 0 (wR_0 cy ad σ18) rfl 8 (by decide) (hts (.fieldLink RX9 125 "TaleBansModel" "readPersons" "I") (List.mem_of_getElem? (i := 1) rfl)) (fun x h => h) rfl (by decide +kernel) rfl rfl (Nat.le_of_ble_eq_true rfl) dX9_readsPerson_165 (fun H locs hP hD hS => ?_)
              obtain ⟨σ20, e21⟩ : ∃ y : S_, y = wrI σ18 5 ((rdI σ18 5) + 1) := ⟨_, rfl⟩
              have hP : va_P D vwCl (wR cy ad σ20) H := by rw [e21]; exact hP
              have hD : va_D A (wR cy ad σ20) := by rw [e21]; exact hD
              have hv := hv σ20 e21
              refine lv_iconst (v := 1) hx hb dX9_readsPerson_168 (by decide) ?_
              rw [hZ]; rw [hQ] at hv
              exact W.zret (v := 1) hx hb hr rfl (fun t ht hW => ⟨⟨1, σ20, rfl, hv, ⟨P_of ht hP, hD⟩⟩, hS.F ht⟩) hS.2.2 dX9_readsPerson_169
            refine lv_icmp_ne (tgt := 124) hx hb dX9_readsPerson_117 (by decide) (fun c13 => ?_) (fun c13 => ?_)
            · have hv := hv.1 c13
              refine lv_iload_n hx hb dX9_readsPerson_124 rfl (lv_at hl 2 rfl) ?_
              refine lv_bipush (v := 98) hx hb dX9_readsPerson_125 (by decide) ?_
              refine lv_icmp_ne (tgt := 134) hx hb dX9_readsPerson_127 (by decide) (fun c12 => ?_) (fun c12 => ?_)
              · have hv := hv.1 c12
                refine lv_iconst (v := 2) hx hb dX9_readsPerson_134 (by decide) ?_
                exact jn10 2 _ _ _ hv hP hS hl
              · have hv := hv.2 c12
                refine lv_iconst (v := 1) hx hb dX9_readsPerson_130 (by decide) ?_
                refine lv_goto (tgt := 135) hx hb dX9_readsPerson_131 (by decide) ?_
                exact jn10 1 _ _ _ hv hP hS hl
            · have hv := hv.2 c13
              refine lv_iconst (v := 0) hx hb dX9_readsPerson_120 (by decide) ?_
              refine lv_goto (tgt := 135) hx hb dX9_readsPerson_121 (by decide) ?_
              exact jn10 0 _ _ _ hv hP hS hl
          · have hv := hv.2 c22
            refine lv_iconst (v := 0) hx hb dX9_readsPerson_104 (by decide) ?_
            rw [hZ]; rw [hQ] at hv
            exact W.zret (v := 0) hx hb hr rfl (fun t ht hW => ⟨⟨0, σ7, rfl, hv, ⟨P_of ht hP, hD⟩⟩, hS.F ht⟩) hS.2.2 dX9_readsPerson_105
        · have hv := hv.2 c37
          refine lv_bipush (v := (-9)) hx hb dX9_readsPerson_84 (by decide) ?_
          refine lv_goto (tgt := 97) hx hb dX9_readsPerson_86 (by decide) ?_
          refine lv_istore (lv' := [(5, .int (-9)), (4, .int r6), (3, .int (fn_X9_codeAt fr_ n_ σ1)), (0, .ref (ad 0)), (1, .int fr_), (2, .int n_)]) hx hb dX9_readsPerson_97 hl (by decide) rfl (fun ls hl => ?_)
          refine lv_iload hx hb dX9_readsPerson_99 (lv_at hl 0 rfl) ?_
          refine lv_if_ge (tgt := 106) hx hb dX9_readsPerson_101 (by decide) (fun c36 => ?_) (fun c36 => ?_)
          · have hv := hv.1 c36
            refine lv_aload_n hx hb dX9_readsPerson_106 rfl (lv_at hl 3 rfl) ?_
            refine va_get (ci := 9) (v := .ref (ad (4))) (C := RX9) (T := TX9) (N := 38) hx hb hts hinX9 hown hK hP 0 (wR_0 cy ad σ5) rfl 9 (by decide) (hts (.fieldLink RX9 19 "TaleBansModel" "readKind" "[I") (List.mem_of_getElem? (i := 3) rfl)) (fun x h => h) rfl dX9_readsPerson_107 ?_
            refine lv_aload_n hx hb dX9_readsPerson_110 rfl (lv_at hl 3 rfl) ?_
            refine va_get (ci := 9) (v := .int (rdI σ5 5)) (C := RX9) (T := TX9) (N := 38) hx hb hts hinX9 hown hK hP 0 (wR_0 cy ad σ5) rfl 8 (by decide) (hts (.fieldLink RX9 125 "TaleBansModel" "readPersons" "I") (List.mem_of_getElem? (i := 1) rfl)) (fun x h => h) rfl dX9_readsPerson_111 ?_
            refine lv_iload_n hx hb dX9_readsPerson_114 rfl (lv_at hl 2 rfl) ?_
            refine lv_bipush (v := 104) hx hb dX9_readsPerson_115 (by decide) ?_
            obtain ⟨P23, hv, hvr⟩ := hv
            have jn24 : ∀ (b25 : Int32) (H : Heap) (locs : List Loc) (ls : Array Slot), P23 b25 → va_P D vwCl (wR cy ad σ5) H → va_S A s.heap H locs → lv_has ls 6 [(5, .int (-9)), (4, .int r6), (3, .int (fn_X9_codeAt fr_ n_ σ1)), (0, .ref (ad 0)), (1, .int fr_), (2, .int n_)] → W p l e R s m ([.ref (ad 0), .int fr_, .int n_] : List Value).toArray below meth c H locs 0 0 Z (F0 m 135 ls [.int b25, .int (rdI σ5 5), .ref (ad (4))]) := by
              intro b25 H locs ls hv hP hS hl
              have hv := hvr b25 hv
              obtain ⟨hi, hv⟩ := hv
              refine va_iast hx hb hK hP hD hS 4 0 (wR_4 cy ad σ5) rfl hi dX9_readsPerson_135 (fun H locs hP hD hS => ?_)
              obtain ⟨σ28, e29⟩ : ∃ y : S_, y = wr2 σ5 4 (Int32.toNatClampNeg (rdI σ5 5)) b25 := ⟨_, rfl⟩
              have hP : va_P D vwCl (wR cy ad σ28) H := by rw [e29]; exact hP
              have hD : va_D A (wR cy ad σ28) := by rw [e29]; exact hD
              have hv := hv σ28 e29
              refine lv_aload_n hx hb dX9_readsPerson_136 rfl (lv_at hl 3 rfl) ?_
              refine va_get (ci := 9) (v := .ref (ad (5))) (C := RX9) (T := TX9) (N := 38) hx hb hts hinX9 hown hK hP 0 (wR_0 cy ad σ28) rfl 10 (by decide) (hts (.fieldLink RX9 22 "TaleBansModel" "readMinds" "[I") (List.mem_of_getElem? (i := 4) rfl)) (fun x h => h) rfl dX9_readsPerson_137 ?_
              refine lv_aload_n hx hb dX9_readsPerson_140 rfl (lv_at hl 3 rfl) ?_
              refine va_get (ci := 9) (v := .int (rdI σ28 5)) (C := RX9) (T := TX9) (N := 38) hx hb hts hinX9 hown hK hP 0 (wR_0 cy ad σ28) rfl 8 (by decide) (hts (.fieldLink RX9 125 "TaleBansModel" "readPersons" "I") (List.mem_of_getElem? (i := 1) rfl)) (fun x h => h) rfl dX9_readsPerson_141 ?_
              refine lv_iload hx hb dX9_readsPerson_144 (lv_at hl 1 rfl) ?_
              obtain ⟨hi, hv⟩ := hv
              refine va_iast hx hb hK hP hD hS 5 0 (wR_5 cy ad σ28) rfl hi dX9_readsPerson_146 (fun H locs hP hD hS => ?_)
              obtain ⟨σ30, e31⟩ : ∃ y : S_, y = wr2 σ28 5 (Int32.toNatClampNeg (rdI σ28 5)) r6 := ⟨_, rfl⟩
              have hP : va_P D vwCl (wR cy ad σ30) H := by rw [e31]; exact hP
              have hD : va_D A (wR cy ad σ30) := by rw [e31]; exact hD
              have hv := hv σ30 e31
              refine lv_aload_n hx hb dX9_readsPerson_147 rfl (lv_at hl 3 rfl) ?_
              refine va_get (ci := 9) (v := .ref (ad (6))) (C := RX9) (T := TX9) (N := 38) hx hb hts hinX9 hown hK hP 0 (wR_0 cy ad σ30) rfl 11 (by decide) (hts (.fieldLink RX9 25 "TaleBansModel" "readHearth" "[I") (List.mem_of_getElem? (i := 5) rfl)) (fun x h => h) rfl dX9_readsPerson_148 ?_
              refine lv_aload_n hx hb dX9_readsPerson_151 rfl (lv_at hl 3 rfl) ?_
              refine va_get (ci := 9) (v := .int (rdI σ30 5)) (C := RX9) (T := TX9) (N := 38) hx hb hts hinX9 hown hK hP 0 (wR_0 cy ad σ30) rfl 8 (by decide) (hts (.fieldLink RX9 125 "TaleBansModel" "readPersons" "I") (List.mem_of_getElem? (i := 1) rfl)) (fun x h => h) rfl dX9_readsPerson_152 ?_
              refine lv_iload hx hb dX9_readsPerson_155 (lv_at hl 0 rfl) ?_
              obtain ⟨hi, hv⟩ := hv
              refine va_iast hx hb hK hP hD hS 6 0 (wR_6 cy ad σ30) rfl hi dX9_readsPerson_157 (fun H locs hP hD hS => ?_)
              obtain ⟨σ32, e33⟩ : ∃ y : S_, y = wr2 σ30 6 (Int32.toNatClampNeg (rdI σ30 5)) (-9) := ⟨_, rfl⟩
              have hP : va_P D vwCl (wR cy ad σ32) H := by rw [e33]; exact hP
              have hD : va_D A (wR cy ad σ32) := by rw [e33]; exact hD
              have hv := hv σ32 e33
              refine lv_aload_n hx hb dX9_readsPerson_158 rfl (lv_at hl 3 rfl) ?_
              refine lv_dup hx hb dX9_readsPerson_159 rfl ?_
              refine va_get (ci := 9) (v := .int (rdI σ32 5)) (C := RX9) (T := TX9) (N := 38) hx hb hts hinX9 hown hK hP 0 (wR_0 cy ad σ32) rfl 8 (by decide) (hts (.fieldLink RX9 125 "TaleBansModel" "readPersons" "I") (List.mem_of_getElem? (i := 1) rfl)) (fun x h => h) rfl dX9_readsPerson_160 ?_
              refine lv_iconst (v := 1) hx hb dX9_readsPerson_163 (by decide) ?_
              refine lv_iadd hx hb dX9_readsPerson_164 ?_
              refine va_put (ci := 9) (v := .int ((rdI σ32 5) + 1)) (ty := .int) (C := RX9) (T := TX9) (N := 38) hx hb hts hinX9 tyX9 tyX9_ok nmX9 hown hK hP hD hS 0 (wR_0 cy ad σ32) rfl 8 (by decide) (hts (.fieldLink RX9 125 "TaleBansModel" "readPersons" "I") (List.mem_of_getElem? (i := 1) rfl)) (fun x h => h) rfl (by decide +kernel) rfl rfl (Nat.le_of_ble_eq_true rfl) dX9_readsPerson_165 (fun H locs hP hD hS => ?_)
              obtain ⟨σ34, e35⟩ : ∃ y : S_, y = wrI σ32 5 ((rdI σ32 5) + 1) := ⟨_, rfl⟩
              have hP : va_P D vwCl (wR cy ad σ34) H := by rw [e35]; exact hP
              have hD : va_D A (wR cy ad σ34) := by rw [e35]; exact hD
              have hv := hv σ34 e35
              refine lv_iconst (v := 1) hx hb dX9_readsPerson_168 (by decide) ?_
              rw [hZ]; rw [hQ] at hv
              exact W.zret (v := 1) hx hb hr rfl (fun t ht hW => ⟨⟨1, σ34, rfl, hv, ⟨P_of ht hP, hD⟩⟩, hS.F ht⟩) hS.2.2 dX9_readsPerson_169
            refine lv_icmp_ne (tgt := 124) hx hb dX9_readsPerson_117 (by decide) (fun c27 => ?_) (fun c27 => ?_)
            · have hv := hv.1 c27
              refine lv_iload_n hx hb dX9_readsPerson_124 rfl (lv_at hl 2 rfl) ?_
              refine lv_bipush (v := 98) hx hb dX9_readsPerson_125 (by decide) ?_
              refine lv_icmp_ne (tgt := 134) hx hb dX9_readsPerson_127 (by decide) (fun c26 => ?_) (fun c26 => ?_)
              · have hv := hv.1 c26
                refine lv_iconst (v := 2) hx hb dX9_readsPerson_134 (by decide) ?_
                exact jn24 2 _ _ _ hv hP hS hl
              · have hv := hv.2 c26
                refine lv_iconst (v := 1) hx hb dX9_readsPerson_130 (by decide) ?_
                refine lv_goto (tgt := 135) hx hb dX9_readsPerson_131 (by decide) ?_
                exact jn24 1 _ _ _ hv hP hS hl
            · have hv := hv.2 c27
              refine lv_iconst (v := 0) hx hb dX9_readsPerson_120 (by decide) ?_
              refine lv_goto (tgt := 135) hx hb dX9_readsPerson_121 (by decide) ?_
              exact jn24 0 _ _ _ hv hP hS hl
          · have hv := hv.2 c36
            refine lv_iconst (v := 0) hx hb dX9_readsPerson_104 (by decide) ?_
            rw [hZ]; rw [hQ] at hv
            exact W.zret (v := 0) hx hb hr rfl (fun t ht hW => ⟨⟨0, σ5, rfl, hv, ⟨P_of ht hP, hD⟩⟩, hS.F ht⟩) hS.2.2 dX9_readsPerson_105
      · have hv := hv.2 c110
        refine lv_iload_n hx hb dX9_readsPerson_45 rfl (lv_at hl 0 rfl) ?_
        refine lv_bipush (v := 98) hx hb dX9_readsPerson_46 (by decide) ?_
        refine lv_icmp_eq (tgt := 59) hx hb dX9_readsPerson_48 (by decide) (fun c109 => ?_) (fun c109 => ?_)
        · have hv := hv.1 c109
          refine lv_aload_n hx hb dX9_readsPerson_59 rfl (lv_at hl 1 rfl) ?_
          refine lv_dup hx hb dX9_readsPerson_60 rfl ?_
          refine va_get (ci := 9) (v := .int (rdI σ1 4)) (C := RX9) (T := TX9) (N := 38) hx hb hts hinX9 hown hK hP 0 (wR_0 cy ad σ1) rfl 7 (by decide) (hts (.fieldLink RX9 118 "TaleBansModel" "readAt" "I") (List.mem_of_getElem? (i := 2) rfl)) (fun x h => h) rfl dX9_readsPerson_61 ?_
          refine lv_iconst (v := 1) hx hb dX9_readsPerson_64 (by decide) ?_
          refine lv_iadd hx hb dX9_readsPerson_65 ?_
          refine va_put (ci := 9) (v := .int ((rdI σ1 4) + 1)) (ty := .int) (C := RX9) (T := TX9) (N := 38) hx hb hts hinX9 tyX9 tyX9_ok nmX9 hown hK hP hD hS 0 (wR_0 cy ad σ1) rfl 7 (by decide) (hts (.fieldLink RX9 118 "TaleBansModel" "readAt" "I") (List.mem_of_getElem? (i := 2) rfl)) (fun x h => h) rfl (by decide +kernel) rfl rfl (Nat.le_of_ble_eq_true rfl) dX9_readsPerson_66 (fun H locs hP hD hS => ?_)
          obtain ⟨σ38, e39⟩ : ∃ y : S_, y = wrI σ1 4 ((rdI σ1 4) + 1) := ⟨_, rfl⟩
          have hP : va_P D vwCl (wR cy ad σ38) H := by rw [e39]; exact hP
          have hD : va_D A (wR cy ad σ38) := by rw [e39]; exact hD
          have hv := hv σ38 e39
          refine lv_aload_n hx hb dX9_readsPerson_69 rfl (lv_at hl 1 rfl) ?_
          refine lv_iload_n hx hb dX9_readsPerson_70 rfl (lv_at hl 2 rfl) ?_
          refine lv_iload_n hx hb dX9_readsPerson_71 rfl (lv_at hl 3 rfl) ?_
          refine lv_iconst (v := 1) hx hb dX9_readsPerson_72 (by decide) ?_
          refine lv_iconst (v := 5) hx hb dX9_readsPerson_73 (by decide) ?_
          obtain ⟨hp, hv⟩ := hv
          refine k_rel_i (w := wR cy ad) (va_runV (As := [.int fr_, .int n_, .int 1, .int 5]) (rest := []) ⟨hx, hb, hml, hown, hts⟩ (h_X9_figure D cy ad A fr_ n_ 1 5 σ38 hp) (cwV 4 hts gX9_readsPerson_X9_figure rfl rfl rfl (by decide +kernel) ⟨le_R hRf (Nat.le_of_ble_eq_true rfl), le_R hRl (Nat.le_of_ble_eq_true rfl)⟩) ⟨(fun a U g mk q => ⟨q.1, q.2.blind⟩), va_recv hK hP (ci := 9) (q0 := 0) rfl (wR_0 cy ad σ38), (fun U hU hW => ⟨rfl, WdR.pre hP hK hD hN hU hW⟩)⟩ rfl rfl hl.1 rfl (lv_room (Nat.le_of_ble_eq_true rfl)) dX9_readsPerson_74 ⟨le_R hRc (Nat.le_refl 0), le_R hRs (Nat.le_refl 0)⟩) hS (fun r41 σ40 H locs hr1 hP hD hS => ?_)
          have hv := hv r41 σ40 hr1
          refine lv_istore (lv' := [(4, .int r41), (3, .int (fn_X9_codeAt fr_ n_ σ1)), (0, .ref (ad 0)), (1, .int fr_), (2, .int n_)]) hx hb dX9_readsPerson_77 hl (by decide) rfl (fun ls hl => ?_)
          refine lv_iload hx hb dX9_readsPerson_79 (lv_at hl 0 rfl) ?_
          refine lv_if_ge (tgt := 89) hx hb dX9_readsPerson_81 (by decide) (fun c72 => ?_) (fun c72 => ?_)
          · have hv := hv.1 c72
            refine lv_aload_n hx hb dX9_readsPerson_89 rfl (lv_at hl 2 rfl) ?_
            refine lv_iload_n hx hb dX9_readsPerson_90 rfl (lv_at hl 3 rfl) ?_
            refine lv_iload_n hx hb dX9_readsPerson_91 rfl (lv_at hl 4 rfl) ?_
            refine lv_iconst (v := 0) hx hb dX9_readsPerson_92 (by decide) ?_
            refine lv_iconst (v := 2) hx hb dX9_readsPerson_93 (by decide) ?_
            obtain ⟨hp, hv⟩ := hv
            refine k_rel_i (w := wR cy ad) (va_runV (As := [.int fr_, .int n_, .int 0, .int 2]) (rest := []) ⟨hx, hb, hml, hown, hts⟩ (h_X9_figure D cy ad A fr_ n_ 0 2 σ40 hp) (cwV 4 hts gX9_readsPerson_X9_figure rfl rfl rfl (by decide +kernel) ⟨le_R hRf (Nat.le_of_ble_eq_true rfl), le_R hRl (Nat.le_of_ble_eq_true rfl)⟩) ⟨(fun a U g mk q => ⟨q.1, q.2.blind⟩), va_recv hK hP (ci := 9) (q0 := 0) rfl (wR_0 cy ad σ40), (fun U hU hW => ⟨rfl, WdR.pre hP hK hD hN hU hW⟩)⟩ rfl rfl hl.1 rfl (lv_room (Nat.le_of_ble_eq_true rfl)) dX9_readsPerson_94 ⟨le_R hRc (Nat.le_refl 0), le_R hRs (Nat.le_refl 0)⟩) hS (fun r43 σ42 H locs hr1 hP hD hS => ?_)
            have hv := hv r43 σ42 hr1
            refine lv_istore (lv' := [(5, .int r43), (4, .int r41), (3, .int (fn_X9_codeAt fr_ n_ σ1)), (0, .ref (ad 0)), (1, .int fr_), (2, .int n_)]) hx hb dX9_readsPerson_97 hl (by decide) rfl (fun ls hl => ?_)
            refine lv_iload hx hb dX9_readsPerson_99 (lv_at hl 0 rfl) ?_
            refine lv_if_ge (tgt := 106) hx hb dX9_readsPerson_101 (by decide) (fun c57 => ?_) (fun c57 => ?_)
            · have hv := hv.1 c57
              refine lv_aload_n hx hb dX9_readsPerson_106 rfl (lv_at hl 3 rfl) ?_
              refine va_get (ci := 9) (v := .ref (ad (4))) (C := RX9) (T := TX9) (N := 38) hx hb hts hinX9 hown hK hP 0 (wR_0 cy ad σ42) rfl 9 (by decide) (hts (.fieldLink RX9 19 "TaleBansModel" "readKind" "[I") (List.mem_of_getElem? (i := 3) rfl)) (fun x h => h) rfl dX9_readsPerson_107 ?_
              refine lv_aload_n hx hb dX9_readsPerson_110 rfl (lv_at hl 3 rfl) ?_
              refine va_get (ci := 9) (v := .int (rdI σ42 5)) (C := RX9) (T := TX9) (N := 38) hx hb hts hinX9 hown hK hP 0 (wR_0 cy ad σ42) rfl 8 (by decide) (hts (.fieldLink RX9 125 "TaleBansModel" "readPersons" "I") (List.mem_of_getElem? (i := 1) rfl)) (fun x h => h) rfl dX9_readsPerson_111 ?_
              refine lv_iload_n hx hb dX9_readsPerson_114 rfl (lv_at hl 2 rfl) ?_
              refine lv_bipush (v := 104) hx hb dX9_readsPerson_115 (by decide) ?_
              obtain ⟨P44, hv, hvr⟩ := hv
              have jn45 : ∀ (b46 : Int32) (H : Heap) (locs : List Loc) (ls : Array Slot), P44 b46 → va_P D vwCl (wR cy ad σ42) H → va_S A s.heap H locs → lv_has ls 6 [(5, .int r43), (4, .int r41), (3, .int (fn_X9_codeAt fr_ n_ σ1)), (0, .ref (ad 0)), (1, .int fr_), (2, .int n_)] → W p l e R s m ([.ref (ad 0), .int fr_, .int n_] : List Value).toArray below meth c H locs 0 0 Z (F0 m 135 ls [.int b46, .int (rdI σ42 5), .ref (ad (4))]) := by
                intro b46 H locs ls hv hP hS hl
                have hv := hvr b46 hv
                obtain ⟨hi, hv⟩ := hv
                refine va_iast hx hb hK hP hD hS 4 0 (wR_4 cy ad σ42) rfl hi dX9_readsPerson_135 (fun H locs hP hD hS => ?_)
                obtain ⟨σ49, e50⟩ : ∃ y : S_, y = wr2 σ42 4 (Int32.toNatClampNeg (rdI σ42 5)) b46 := ⟨_, rfl⟩
                have hP : va_P D vwCl (wR cy ad σ49) H := by rw [e50]; exact hP
                have hD : va_D A (wR cy ad σ49) := by rw [e50]; exact hD
                have hv := hv σ49 e50
                refine lv_aload_n hx hb dX9_readsPerson_136 rfl (lv_at hl 3 rfl) ?_
                refine va_get (ci := 9) (v := .ref (ad (5))) (C := RX9) (T := TX9) (N := 38) hx hb hts hinX9 hown hK hP 0 (wR_0 cy ad σ49) rfl 10 (by decide) (hts (.fieldLink RX9 22 "TaleBansModel" "readMinds" "[I") (List.mem_of_getElem? (i := 4) rfl)) (fun x h => h) rfl dX9_readsPerson_137 ?_
                refine lv_aload_n hx hb dX9_readsPerson_140 rfl (lv_at hl 3 rfl) ?_
                refine va_get (ci := 9) (v := .int (rdI σ49 5)) (C := RX9) (T := TX9) (N := 38) hx hb hts hinX9 hown hK hP 0 (wR_0 cy ad σ49) rfl 8 (by decide) (hts (.fieldLink RX9 125 "TaleBansModel" "readPersons" "I") (List.mem_of_getElem? (i := 1) rfl)) (fun x h => h) rfl dX9_readsPerson_141 ?_
                refine lv_iload hx hb dX9_readsPerson_144 (lv_at hl 1 rfl) ?_
                obtain ⟨hi, hv⟩ := hv
                refine va_iast hx hb hK hP hD hS 5 0 (wR_5 cy ad σ49) rfl hi dX9_readsPerson_146 (fun H locs hP hD hS => ?_)
                obtain ⟨σ51, e52⟩ : ∃ y : S_, y = wr2 σ49 5 (Int32.toNatClampNeg (rdI σ49 5)) r41 := ⟨_, rfl⟩
                have hP : va_P D vwCl (wR cy ad σ51) H := by rw [e52]; exact hP
                have hD : va_D A (wR cy ad σ51) := by rw [e52]; exact hD
                have hv := hv σ51 e52
                refine lv_aload_n hx hb dX9_readsPerson_147 rfl (lv_at hl 3 rfl) ?_
                refine va_get (ci := 9) (v := .ref (ad (6))) (C := RX9) (T := TX9) (N := 38) hx hb hts hinX9 hown hK hP 0 (wR_0 cy ad σ51) rfl 11 (by decide) (hts (.fieldLink RX9 25 "TaleBansModel" "readHearth" "[I") (List.mem_of_getElem? (i := 5) rfl)) (fun x h => h) rfl dX9_readsPerson_148 ?_
                refine lv_aload_n hx hb dX9_readsPerson_151 rfl (lv_at hl 3 rfl) ?_
                refine va_get (ci := 9) (v := .int (rdI σ51 5)) (C := RX9) (T := TX9) (N := 38) hx hb hts hinX9 hown hK hP 0 (wR_0 cy ad σ51) rfl 8 (by decide) (hts (.fieldLink RX9 125 "TaleBansModel" "readPersons" "I") (List.mem_of_getElem? (i := 1) rfl)) (fun x h => h) rfl dX9_readsPerson_152 ?_
                refine lv_iload hx hb dX9_readsPerson_155 (lv_at hl 0 rfl) ?_
                obtain ⟨hi, hv⟩ := hv
                refine va_iast hx hb hK hP hD hS 6 0 (wR_6 cy ad σ51) rfl hi dX9_readsPerson_157 (fun H locs hP hD hS => ?_)
                obtain ⟨σ53, e54⟩ : ∃ y : S_, y = wr2 σ51 6 (Int32.toNatClampNeg (rdI σ51 5)) r43 := ⟨_, rfl⟩
                have hP : va_P D vwCl (wR cy ad σ53) H := by rw [e54]; exact hP
                have hD : va_D A (wR cy ad σ53) := by rw [e54]; exact hD
                have hv := hv σ53 e54
                refine lv_aload_n hx hb dX9_readsPerson_158 rfl (lv_at hl 3 rfl) ?_
                refine lv_dup hx hb dX9_readsPerson_159 rfl ?_
                refine va_get (ci := 9) (v := .int (rdI σ53 5)) (C := RX9) (T := TX9) (N := 38) hx hb hts hinX9 hown hK hP 0 (wR_0 cy ad σ53) rfl 8 (by decide) (hts (.fieldLink RX9 125 "TaleBansModel" "readPersons" "I") (List.mem_of_getElem? (i := 1) rfl)) (fun x h => h) rfl dX9_readsPerson_160 ?_
                refine lv_iconst (v := 1) hx hb dX9_readsPerson_163 (by decide) ?_
                refine lv_iadd hx hb dX9_readsPerson_164 ?_
                refine va_put (ci := 9) (v := .int ((rdI σ53 5) + 1)) (ty := .int) (C := RX9) (T := TX9) (N := 38) hx hb hts hinX9 tyX9 tyX9_ok nmX9 hown hK hP hD hS 0 (wR_0 cy ad σ53) rfl 8 (by decide) (hts (.fieldLink RX9 125 "TaleBansModel" "readPersons" "I") (List.mem_of_getElem? (i := 1) rfl)) (fun x h => h) rfl (by decide +kernel) rfl rfl (Nat.le_of_ble_eq_true rfl) dX9_readsPerson_165 (fun H locs hP hD hS => ?_)
                obtain ⟨σ55, e56⟩ : ∃ y : S_, y = wrI σ53 5 ((rdI σ53 5) + 1) := ⟨_, rfl⟩
                have hP : va_P D vwCl (wR cy ad σ55) H := by rw [e56]; exact hP
                have hD : va_D A (wR cy ad σ55) := by rw [e56]; exact hD
                have hv := hv σ55 e56
                refine lv_iconst (v := 1) hx hb dX9_readsPerson_168 (by decide) ?_
                rw [hZ]; rw [hQ] at hv
                exact W.zret (v := 1) hx hb hr rfl (fun t ht hW => ⟨⟨1, σ55, rfl, hv, ⟨P_of ht hP, hD⟩⟩, hS.F ht⟩) hS.2.2 dX9_readsPerson_169
              refine lv_icmp_ne (tgt := 124) hx hb dX9_readsPerson_117 (by decide) (fun c48 => ?_) (fun c48 => ?_)
              · have hv := hv.1 c48
                refine lv_iload_n hx hb dX9_readsPerson_124 rfl (lv_at hl 2 rfl) ?_
                refine lv_bipush (v := 98) hx hb dX9_readsPerson_125 (by decide) ?_
                refine lv_icmp_ne (tgt := 134) hx hb dX9_readsPerson_127 (by decide) (fun c47 => ?_) (fun c47 => ?_)
                · have hv := hv.1 c47
                  refine lv_iconst (v := 2) hx hb dX9_readsPerson_134 (by decide) ?_
                  exact jn45 2 _ _ _ hv hP hS hl
                · have hv := hv.2 c47
                  refine lv_iconst (v := 1) hx hb dX9_readsPerson_130 (by decide) ?_
                  refine lv_goto (tgt := 135) hx hb dX9_readsPerson_131 (by decide) ?_
                  exact jn45 1 _ _ _ hv hP hS hl
              · have hv := hv.2 c48
                refine lv_iconst (v := 0) hx hb dX9_readsPerson_120 (by decide) ?_
                refine lv_goto (tgt := 135) hx hb dX9_readsPerson_121 (by decide) ?_
                exact jn45 0 _ _ _ hv hP hS hl
            · have hv := hv.2 c57
              refine lv_iconst (v := 0) hx hb dX9_readsPerson_104 (by decide) ?_
              rw [hZ]; rw [hQ] at hv
              exact W.zret (v := 0) hx hb hr rfl (fun t ht hW => ⟨⟨0, σ42, rfl, hv, ⟨P_of ht hP, hD⟩⟩, hS.F ht⟩) hS.2.2 dX9_readsPerson_105
          · have hv := hv.2 c72
            refine lv_bipush (v := (-9)) hx hb dX9_readsPerson_84 (by decide) ?_
            refine lv_goto (tgt := 97) hx hb dX9_readsPerson_86 (by decide) ?_
            refine lv_istore (lv' := [(5, .int (-9)), (4, .int r41), (3, .int (fn_X9_codeAt fr_ n_ σ1)), (0, .ref (ad 0)), (1, .int fr_), (2, .int n_)]) hx hb dX9_readsPerson_97 hl (by decide) rfl (fun ls hl => ?_)
            refine lv_iload hx hb dX9_readsPerson_99 (lv_at hl 0 rfl) ?_
            refine lv_if_ge (tgt := 106) hx hb dX9_readsPerson_101 (by decide) (fun c71 => ?_) (fun c71 => ?_)
            · have hv := hv.1 c71
              refine lv_aload_n hx hb dX9_readsPerson_106 rfl (lv_at hl 3 rfl) ?_
              refine va_get (ci := 9) (v := .ref (ad (4))) (C := RX9) (T := TX9) (N := 38) hx hb hts hinX9 hown hK hP 0 (wR_0 cy ad σ40) rfl 9 (by decide) (hts (.fieldLink RX9 19 "TaleBansModel" "readKind" "[I") (List.mem_of_getElem? (i := 3) rfl)) (fun x h => h) rfl dX9_readsPerson_107 ?_
              refine lv_aload_n hx hb dX9_readsPerson_110 rfl (lv_at hl 3 rfl) ?_
              refine va_get (ci := 9) (v := .int (rdI σ40 5)) (C := RX9) (T := TX9) (N := 38) hx hb hts hinX9 hown hK hP 0 (wR_0 cy ad σ40) rfl 8 (by decide) (hts (.fieldLink RX9 125 "TaleBansModel" "readPersons" "I") (List.mem_of_getElem? (i := 1) rfl)) (fun x h => h) rfl dX9_readsPerson_111 ?_
              refine lv_iload_n hx hb dX9_readsPerson_114 rfl (lv_at hl 2 rfl) ?_
              refine lv_bipush (v := 104) hx hb dX9_readsPerson_115 (by decide) ?_
              obtain ⟨P58, hv, hvr⟩ := hv
              have jn59 : ∀ (b60 : Int32) (H : Heap) (locs : List Loc) (ls : Array Slot), P58 b60 → va_P D vwCl (wR cy ad σ40) H → va_S A s.heap H locs → lv_has ls 6 [(5, .int (-9)), (4, .int r41), (3, .int (fn_X9_codeAt fr_ n_ σ1)), (0, .ref (ad 0)), (1, .int fr_), (2, .int n_)] → W p l e R s m ([.ref (ad 0), .int fr_, .int n_] : List Value).toArray below meth c H locs 0 0 Z (F0 m 135 ls [.int b60, .int (rdI σ40 5), .ref (ad (4))]) := by
                intro b60 H locs ls hv hP hS hl
                have hv := hvr b60 hv
                obtain ⟨hi, hv⟩ := hv
                refine va_iast hx hb hK hP hD hS 4 0 (wR_4 cy ad σ40) rfl hi dX9_readsPerson_135 (fun H locs hP hD hS => ?_)
                obtain ⟨σ63, e64⟩ : ∃ y : S_, y = wr2 σ40 4 (Int32.toNatClampNeg (rdI σ40 5)) b60 := ⟨_, rfl⟩
                have hP : va_P D vwCl (wR cy ad σ63) H := by rw [e64]; exact hP
                have hD : va_D A (wR cy ad σ63) := by rw [e64]; exact hD
                have hv := hv σ63 e64
                refine lv_aload_n hx hb dX9_readsPerson_136 rfl (lv_at hl 3 rfl) ?_
                refine va_get (ci := 9) (v := .ref (ad (5))) (C := RX9) (T := TX9) (N := 38) hx hb hts hinX9 hown hK hP 0 (wR_0 cy ad σ63) rfl 10 (by decide) (hts (.fieldLink RX9 22 "TaleBansModel" "readMinds" "[I") (List.mem_of_getElem? (i := 4) rfl)) (fun x h => h) rfl dX9_readsPerson_137 ?_
                refine lv_aload_n hx hb dX9_readsPerson_140 rfl (lv_at hl 3 rfl) ?_
                refine va_get (ci := 9) (v := .int (rdI σ63 5)) (C := RX9) (T := TX9) (N := 38) hx hb hts hinX9 hown hK hP 0 (wR_0 cy ad σ63) rfl 8 (by decide) (hts (.fieldLink RX9 125 "TaleBansModel" "readPersons" "I") (List.mem_of_getElem? (i := 1) rfl)) (fun x h => h) rfl dX9_readsPerson_141 ?_
                refine lv_iload hx hb dX9_readsPerson_144 (lv_at hl 1 rfl) ?_
                obtain ⟨hi, hv⟩ := hv
                refine va_iast hx hb hK hP hD hS 5 0 (wR_5 cy ad σ63) rfl hi dX9_readsPerson_146 (fun H locs hP hD hS => ?_)
                obtain ⟨σ65, e66⟩ : ∃ y : S_, y = wr2 σ63 5 (Int32.toNatClampNeg (rdI σ63 5)) r41 := ⟨_, rfl⟩
                have hP : va_P D vwCl (wR cy ad σ65) H := by rw [e66]; exact hP
                have hD : va_D A (wR cy ad σ65) := by rw [e66]; exact hD
                have hv := hv σ65 e66
                refine lv_aload_n hx hb dX9_readsPerson_147 rfl (lv_at hl 3 rfl) ?_
                refine va_get (ci := 9) (v := .ref (ad (6))) (C := RX9) (T := TX9) (N := 38) hx hb hts hinX9 hown hK hP 0 (wR_0 cy ad σ65) rfl 11 (by decide) (hts (.fieldLink RX9 25 "TaleBansModel" "readHearth" "[I") (List.mem_of_getElem? (i := 5) rfl)) (fun x h => h) rfl dX9_readsPerson_148 ?_
                refine lv_aload_n hx hb dX9_readsPerson_151 rfl (lv_at hl 3 rfl) ?_
                refine va_get (ci := 9) (v := .int (rdI σ65 5)) (C := RX9) (T := TX9) (N := 38) hx hb hts hinX9 hown hK hP 0 (wR_0 cy ad σ65) rfl 8 (by decide) (hts (.fieldLink RX9 125 "TaleBansModel" "readPersons" "I") (List.mem_of_getElem? (i := 1) rfl)) (fun x h => h) rfl dX9_readsPerson_152 ?_
                refine lv_iload hx hb dX9_readsPerson_155 (lv_at hl 0 rfl) ?_
                obtain ⟨hi, hv⟩ := hv
                refine va_iast hx hb hK hP hD hS 6 0 (wR_6 cy ad σ65) rfl hi dX9_readsPerson_157 (fun H locs hP hD hS => ?_)
                obtain ⟨σ67, e68⟩ : ∃ y : S_, y = wr2 σ65 6 (Int32.toNatClampNeg (rdI σ65 5)) (-9) := ⟨_, rfl⟩
                have hP : va_P D vwCl (wR cy ad σ67) H := by rw [e68]; exact hP
                have hD : va_D A (wR cy ad σ67) := by rw [e68]; exact hD
                have hv := hv σ67 e68
                refine lv_aload_n hx hb dX9_readsPerson_158 rfl (lv_at hl 3 rfl) ?_
                refine lv_dup hx hb dX9_readsPerson_159 rfl ?_
                refine va_get (ci := 9) (v := .int (rdI σ67 5)) (C := RX9) (T := TX9) (N := 38) hx hb hts hinX9 hown hK hP 0 (wR_0 cy ad σ67) rfl 8 (by decide) (hts (.fieldLink RX9 125 "TaleBansModel" "readPersons" "I") (List.mem_of_getElem? (i := 1) rfl)) (fun x h => h) rfl dX9_readsPerson_160 ?_
                refine lv_iconst (v := 1) hx hb dX9_readsPerson_163 (by decide) ?_
                refine lv_iadd hx hb dX9_readsPerson_164 ?_
                refine va_put (ci := 9) (v := .int ((rdI σ67 5) + 1)) (ty := .int) (C := RX9) (T := TX9) (N := 38) hx hb hts hinX9 tyX9 tyX9_ok nmX9 hown hK hP hD hS 0 (wR_0 cy ad σ67) rfl 8 (by decide) (hts (.fieldLink RX9 125 "TaleBansModel" "readPersons" "I") (List.mem_of_getElem? (i := 1) rfl)) (fun x h => h) rfl (by decide +kernel) rfl rfl (Nat.le_of_ble_eq_true rfl) dX9_readsPerson_165 (fun H locs hP hD hS => ?_)
                obtain ⟨σ69, e70⟩ : ∃ y : S_, y = wrI σ67 5 ((rdI σ67 5) + 1) := ⟨_, rfl⟩
                have hP : va_P D vwCl (wR cy ad σ69) H := by rw [e70]; exact hP
                have hD : va_D A (wR cy ad σ69) := by rw [e70]; exact hD
                have hv := hv σ69 e70
                refine lv_iconst (v := 1) hx hb dX9_readsPerson_168 (by decide) ?_
                rw [hZ]; rw [hQ] at hv
                exact W.zret (v := 1) hx hb hr rfl (fun t ht hW => ⟨⟨1, σ69, rfl, hv, ⟨P_of ht hP, hD⟩⟩, hS.F ht⟩) hS.2.2 dX9_readsPerson_169
              refine lv_icmp_ne (tgt := 124) hx hb dX9_readsPerson_117 (by decide) (fun c62 => ?_) (fun c62 => ?_)
              · have hv := hv.1 c62
                refine lv_iload_n hx hb dX9_readsPerson_124 rfl (lv_at hl 2 rfl) ?_
                refine lv_bipush (v := 98) hx hb dX9_readsPerson_125 (by decide) ?_
                refine lv_icmp_ne (tgt := 134) hx hb dX9_readsPerson_127 (by decide) (fun c61 => ?_) (fun c61 => ?_)
                · have hv := hv.1 c61
                  refine lv_iconst (v := 2) hx hb dX9_readsPerson_134 (by decide) ?_
                  exact jn59 2 _ _ _ hv hP hS hl
                · have hv := hv.2 c61
                  refine lv_iconst (v := 1) hx hb dX9_readsPerson_130 (by decide) ?_
                  refine lv_goto (tgt := 135) hx hb dX9_readsPerson_131 (by decide) ?_
                  exact jn59 1 _ _ _ hv hP hS hl
              · have hv := hv.2 c62
                refine lv_iconst (v := 0) hx hb dX9_readsPerson_120 (by decide) ?_
                refine lv_goto (tgt := 135) hx hb dX9_readsPerson_121 (by decide) ?_
                exact jn59 0 _ _ _ hv hP hS hl
            · have hv := hv.2 c71
              refine lv_iconst (v := 0) hx hb dX9_readsPerson_104 (by decide) ?_
              rw [hZ]; rw [hQ] at hv
              exact W.zret (v := 0) hx hb hr rfl (fun t ht hW => ⟨⟨0, σ40, rfl, hv, ⟨P_of ht hP, hD⟩⟩, hS.F ht⟩) hS.2.2 dX9_readsPerson_105
        · have hv := hv.2 c109
          refine lv_iload_n hx hb dX9_readsPerson_51 rfl (lv_at hl 0 rfl) ?_
          refine lv_bipush (v := 103) hx hb dX9_readsPerson_52 (by decide) ?_
          refine lv_icmp_eq (tgt := 59) hx hb dX9_readsPerson_54 (by decide) (fun c108 => ?_) (fun c108 => ?_)
          · have hv := hv.1 c108
            refine lv_aload_n hx hb dX9_readsPerson_59 rfl (lv_at hl 1 rfl) ?_
            refine lv_dup hx hb dX9_readsPerson_60 rfl ?_
            refine va_get (ci := 9) (v := .int (rdI σ1 4)) (C := RX9) (T := TX9) (N := 38) hx hb hts hinX9 hown hK hP 0 (wR_0 cy ad σ1) rfl 7 (by decide) (hts (.fieldLink RX9 118 "TaleBansModel" "readAt" "I") (List.mem_of_getElem? (i := 2) rfl)) (fun x h => h) rfl dX9_readsPerson_61 ?_
            refine lv_iconst (v := 1) hx hb dX9_readsPerson_64 (by decide) ?_
            refine lv_iadd hx hb dX9_readsPerson_65 ?_
            refine va_put (ci := 9) (v := .int ((rdI σ1 4) + 1)) (ty := .int) (C := RX9) (T := TX9) (N := 38) hx hb hts hinX9 tyX9 tyX9_ok nmX9 hown hK hP hD hS 0 (wR_0 cy ad σ1) rfl 7 (by decide) (hts (.fieldLink RX9 118 "TaleBansModel" "readAt" "I") (List.mem_of_getElem? (i := 2) rfl)) (fun x h => h) rfl (by decide +kernel) rfl rfl (Nat.le_of_ble_eq_true rfl) dX9_readsPerson_66 (fun H locs hP hD hS => ?_)
            obtain ⟨σ73, e74⟩ : ∃ y : S_, y = wrI σ1 4 ((rdI σ1 4) + 1) := ⟨_, rfl⟩
            have hP : va_P D vwCl (wR cy ad σ73) H := by rw [e74]; exact hP
            have hD : va_D A (wR cy ad σ73) := by rw [e74]; exact hD
            have hv := hv σ73 e74
            refine lv_aload_n hx hb dX9_readsPerson_69 rfl (lv_at hl 1 rfl) ?_
            refine lv_iload_n hx hb dX9_readsPerson_70 rfl (lv_at hl 2 rfl) ?_
            refine lv_iload_n hx hb dX9_readsPerson_71 rfl (lv_at hl 3 rfl) ?_
            refine lv_iconst (v := 1) hx hb dX9_readsPerson_72 (by decide) ?_
            refine lv_iconst (v := 5) hx hb dX9_readsPerson_73 (by decide) ?_
            obtain ⟨hp, hv⟩ := hv
            refine k_rel_i (w := wR cy ad) (va_runV (As := [.int fr_, .int n_, .int 1, .int 5]) (rest := []) ⟨hx, hb, hml, hown, hts⟩ (h_X9_figure D cy ad A fr_ n_ 1 5 σ73 hp) (cwV 4 hts gX9_readsPerson_X9_figure rfl rfl rfl (by decide +kernel) ⟨le_R hRf (Nat.le_of_ble_eq_true rfl), le_R hRl (Nat.le_of_ble_eq_true rfl)⟩) ⟨(fun a U g mk q => ⟨q.1, q.2.blind⟩), va_recv hK hP (ci := 9) (q0 := 0) rfl (wR_0 cy ad σ73), (fun U hU hW => ⟨rfl, WdR.pre hP hK hD hN hU hW⟩)⟩ rfl rfl hl.1 rfl (lv_room (Nat.le_of_ble_eq_true rfl)) dX9_readsPerson_74 ⟨le_R hRc (Nat.le_refl 0), le_R hRs (Nat.le_refl 0)⟩) hS (fun r76 σ75 H locs hr1 hP hD hS => ?_)
            have hv := hv r76 σ75 hr1
            refine lv_istore (lv' := [(4, .int r76), (3, .int (fn_X9_codeAt fr_ n_ σ1)), (0, .ref (ad 0)), (1, .int fr_), (2, .int n_)]) hx hb dX9_readsPerson_77 hl (by decide) rfl (fun ls hl => ?_)
            refine lv_iload hx hb dX9_readsPerson_79 (lv_at hl 0 rfl) ?_
            refine lv_if_ge (tgt := 89) hx hb dX9_readsPerson_81 (by decide) (fun c107 => ?_) (fun c107 => ?_)
            · have hv := hv.1 c107
              refine lv_aload_n hx hb dX9_readsPerson_89 rfl (lv_at hl 2 rfl) ?_
              refine lv_iload_n hx hb dX9_readsPerson_90 rfl (lv_at hl 3 rfl) ?_
              refine lv_iload_n hx hb dX9_readsPerson_91 rfl (lv_at hl 4 rfl) ?_
              refine lv_iconst (v := 0) hx hb dX9_readsPerson_92 (by decide) ?_
              refine lv_iconst (v := 2) hx hb dX9_readsPerson_93 (by decide) ?_
              obtain ⟨hp, hv⟩ := hv
              refine k_rel_i (w := wR cy ad) (va_runV (As := [.int fr_, .int n_, .int 0, .int 2]) (rest := []) ⟨hx, hb, hml, hown, hts⟩ (h_X9_figure D cy ad A fr_ n_ 0 2 σ75 hp) (cwV 4 hts gX9_readsPerson_X9_figure rfl rfl rfl (by decide +kernel) ⟨le_R hRf (Nat.le_of_ble_eq_true rfl), le_R hRl (Nat.le_of_ble_eq_true rfl)⟩) ⟨(fun a U g mk q => ⟨q.1, q.2.blind⟩), va_recv hK hP (ci := 9) (q0 := 0) rfl (wR_0 cy ad σ75), (fun U hU hW => ⟨rfl, WdR.pre hP hK hD hN hU hW⟩)⟩ rfl rfl hl.1 rfl (lv_room (Nat.le_of_ble_eq_true rfl)) dX9_readsPerson_94 ⟨le_R hRc (Nat.le_refl 0), le_R hRs (Nat.le_refl 0)⟩) hS (fun r78 σ77 H locs hr1 hP hD hS => ?_)
              have hv := hv r78 σ77 hr1
              refine lv_istore (lv' := [(5, .int r78), (4, .int r76), (3, .int (fn_X9_codeAt fr_ n_ σ1)), (0, .ref (ad 0)), (1, .int fr_), (2, .int n_)]) hx hb dX9_readsPerson_97 hl (by decide) rfl (fun ls hl => ?_)
              refine lv_iload hx hb dX9_readsPerson_99 (lv_at hl 0 rfl) ?_
              refine lv_if_ge (tgt := 106) hx hb dX9_readsPerson_101 (by decide) (fun c92 => ?_) (fun c92 => ?_)
              · have hv := hv.1 c92
                refine lv_aload_n hx hb dX9_readsPerson_106 rfl (lv_at hl 3 rfl) ?_
                refine va_get (ci := 9) (v := .ref (ad (4))) (C := RX9) (T := TX9) (N := 38) hx hb hts hinX9 hown hK hP 0 (wR_0 cy ad σ77) rfl 9 (by decide) (hts (.fieldLink RX9 19 "TaleBansModel" "readKind" "[I") (List.mem_of_getElem? (i := 3) rfl)) (fun x h => h) rfl dX9_readsPerson_107 ?_
                refine lv_aload_n hx hb dX9_readsPerson_110 rfl (lv_at hl 3 rfl) ?_
                refine va_get (ci := 9) (v := .int (rdI σ77 5)) (C := RX9) (T := TX9) (N := 38) hx hb hts hinX9 hown hK hP 0 (wR_0 cy ad σ77) rfl 8 (by decide) (hts (.fieldLink RX9 125 "TaleBansModel" "readPersons" "I") (List.mem_of_getElem? (i := 1) rfl)) (fun x h => h) rfl dX9_readsPerson_111 ?_
                refine lv_iload_n hx hb dX9_readsPerson_114 rfl (lv_at hl 2 rfl) ?_
                refine lv_bipush (v := 104) hx hb dX9_readsPerson_115 (by decide) ?_
                obtain ⟨P79, hv, hvr⟩ := hv
                have jn80 : ∀ (b81 : Int32) (H : Heap) (locs : List Loc) (ls : Array Slot), P79 b81 → va_P D vwCl (wR cy ad σ77) H → va_S A s.heap H locs → lv_has ls 6 [(5, .int r78), (4, .int r76), (3, .int (fn_X9_codeAt fr_ n_ σ1)), (0, .ref (ad 0)), (1, .int fr_), (2, .int n_)] → W p l e R s m ([.ref (ad 0), .int fr_, .int n_] : List Value).toArray below meth c H locs 0 0 Z (F0 m 135 ls [.int b81, .int (rdI σ77 5), .ref (ad (4))]) := by
                  intro b81 H locs ls hv hP hS hl
                  have hv := hvr b81 hv
                  obtain ⟨hi, hv⟩ := hv
                  refine va_iast hx hb hK hP hD hS 4 0 (wR_4 cy ad σ77) rfl hi dX9_readsPerson_135 (fun H locs hP hD hS => ?_)
                  obtain ⟨σ84, e85⟩ : ∃ y : S_, y = wr2 σ77 4 (Int32.toNatClampNeg (rdI σ77 5)) b81 := ⟨_, rfl⟩
                  have hP : va_P D vwCl (wR cy ad σ84) H := by rw [e85]; exact hP
                  have hD : va_D A (wR cy ad σ84) := by rw [e85]; exact hD
                  have hv := hv σ84 e85
                  refine lv_aload_n hx hb dX9_readsPerson_136 rfl (lv_at hl 3 rfl) ?_
                  refine va_get (ci := 9) (v := .ref (ad (5))) (C := RX9) (T := TX9) (N := 38) hx hb hts hinX9 hown hK hP 0 (wR_0 cy ad σ84) rfl 10 (by decide) (hts (.fieldLink RX9 22 "TaleBansModel" "readMinds" "[I") (List.mem_of_getElem? (i := 4) rfl)) (fun x h => h) rfl dX9_readsPerson_137 ?_
                  refine lv_aload_n hx hb dX9_readsPerson_140 rfl (lv_at hl 3 rfl) ?_
                  refine va_get (ci := 9) (v := .int (rdI σ84 5)) (C := RX9) (T := TX9) (N := 38) hx hb hts hinX9 hown hK hP 0 (wR_0 cy ad σ84) rfl 8 (by decide) (hts (.fieldLink RX9 125 "TaleBansModel" "readPersons" "I") (List.mem_of_getElem? (i := 1) rfl)) (fun x h => h) rfl dX9_readsPerson_141 ?_
                  refine lv_iload hx hb dX9_readsPerson_144 (lv_at hl 1 rfl) ?_
                  obtain ⟨hi, hv⟩ := hv
                  refine va_iast hx hb hK hP hD hS 5 0 (wR_5 cy ad σ84) rfl hi dX9_readsPerson_146 (fun H locs hP hD hS => ?_)
                  obtain ⟨σ86, e87⟩ : ∃ y : S_, y = wr2 σ84 5 (Int32.toNatClampNeg (rdI σ84 5)) r76 := ⟨_, rfl⟩
                  have hP : va_P D vwCl (wR cy ad σ86) H := by rw [e87]; exact hP
                  have hD : va_D A (wR cy ad σ86) := by rw [e87]; exact hD
                  have hv := hv σ86 e87
                  refine lv_aload_n hx hb dX9_readsPerson_147 rfl (lv_at hl 3 rfl) ?_
                  refine va_get (ci := 9) (v := .ref (ad (6))) (C := RX9) (T := TX9) (N := 38) hx hb hts hinX9 hown hK hP 0 (wR_0 cy ad σ86) rfl 11 (by decide) (hts (.fieldLink RX9 25 "TaleBansModel" "readHearth" "[I") (List.mem_of_getElem? (i := 5) rfl)) (fun x h => h) rfl dX9_readsPerson_148 ?_
                  refine lv_aload_n hx hb dX9_readsPerson_151 rfl (lv_at hl 3 rfl) ?_
                  refine va_get (ci := 9) (v := .int (rdI σ86 5)) (C := RX9) (T := TX9) (N := 38) hx hb hts hinX9 hown hK hP 0 (wR_0 cy ad σ86) rfl 8 (by decide) (hts (.fieldLink RX9 125 "TaleBansModel" "readPersons" "I") (List.mem_of_getElem? (i := 1) rfl)) (fun x h => h) rfl dX9_readsPerson_152 ?_
                  refine lv_iload hx hb dX9_readsPerson_155 (lv_at hl 0 rfl) ?_
                  obtain ⟨hi, hv⟩ := hv
                  refine va_iast hx hb hK hP hD hS 6 0 (wR_6 cy ad σ86) rfl hi dX9_readsPerson_157 (fun H locs hP hD hS => ?_)
                  obtain ⟨σ88, e89⟩ : ∃ y : S_, y = wr2 σ86 6 (Int32.toNatClampNeg (rdI σ86 5)) r78 := ⟨_, rfl⟩
                  have hP : va_P D vwCl (wR cy ad σ88) H := by rw [e89]; exact hP
                  have hD : va_D A (wR cy ad σ88) := by rw [e89]; exact hD
                  have hv := hv σ88 e89
                  refine lv_aload_n hx hb dX9_readsPerson_158 rfl (lv_at hl 3 rfl) ?_
                  refine lv_dup hx hb dX9_readsPerson_159 rfl ?_
                  refine va_get (ci := 9) (v := .int (rdI σ88 5)) (C := RX9) (T := TX9) (N := 38) hx hb hts hinX9 hown hK hP 0 (wR_0 cy ad σ88) rfl 8 (by decide) (hts (.fieldLink RX9 125 "TaleBansModel" "readPersons" "I") (List.mem_of_getElem? (i := 1) rfl)) (fun x h => h) rfl dX9_readsPerson_160 ?_
                  refine lv_iconst (v := 1) hx hb dX9_readsPerson_163 (by decide) ?_
                  refine lv_iadd hx hb dX9_readsPerson_164 ?_
                  refine va_put (ci := 9) (v := .int ((rdI σ88 5) + 1)) (ty := .int) (C := RX9) (T := TX9) (N := 38) hx hb hts hinX9 tyX9 tyX9_ok nmX9 hown hK hP hD hS 0 (wR_0 cy ad σ88) rfl 8 (by decide) (hts (.fieldLink RX9 125 "TaleBansModel" "readPersons" "I") (List.mem_of_getElem? (i := 1) rfl)) (fun x h => h) rfl (by decide +kernel) rfl rfl (Nat.le_of_ble_eq_true rfl) dX9_readsPerson_165 (fun H locs hP hD hS => ?_)
                  obtain ⟨σ90, e91⟩ : ∃ y : S_, y = wrI σ88 5 ((rdI σ88 5) + 1) := ⟨_, rfl⟩
                  have hP : va_P D vwCl (wR cy ad σ90) H := by rw [e91]; exact hP
                  have hD : va_D A (wR cy ad σ90) := by rw [e91]; exact hD
                  have hv := hv σ90 e91
                  refine lv_iconst (v := 1) hx hb dX9_readsPerson_168 (by decide) ?_
                  rw [hZ]; rw [hQ] at hv
                  exact W.zret (v := 1) hx hb hr rfl (fun t ht hW => ⟨⟨1, σ90, rfl, hv, ⟨P_of ht hP, hD⟩⟩, hS.F ht⟩) hS.2.2 dX9_readsPerson_169
                refine lv_icmp_ne (tgt := 124) hx hb dX9_readsPerson_117 (by decide) (fun c83 => ?_) (fun c83 => ?_)
                · have hv := hv.1 c83
                  refine lv_iload_n hx hb dX9_readsPerson_124 rfl (lv_at hl 2 rfl) ?_
                  refine lv_bipush (v := 98) hx hb dX9_readsPerson_125 (by decide) ?_
                  refine lv_icmp_ne (tgt := 134) hx hb dX9_readsPerson_127 (by decide) (fun c82 => ?_) (fun c82 => ?_)
                  · have hv := hv.1 c82
                    refine lv_iconst (v := 2) hx hb dX9_readsPerson_134 (by decide) ?_
                    exact jn80 2 _ _ _ hv hP hS hl
                  · have hv := hv.2 c82
                    refine lv_iconst (v := 1) hx hb dX9_readsPerson_130 (by decide) ?_
                    refine lv_goto (tgt := 135) hx hb dX9_readsPerson_131 (by decide) ?_
                    exact jn80 1 _ _ _ hv hP hS hl
                · have hv := hv.2 c83
                  refine lv_iconst (v := 0) hx hb dX9_readsPerson_120 (by decide) ?_
                  refine lv_goto (tgt := 135) hx hb dX9_readsPerson_121 (by decide) ?_
                  exact jn80 0 _ _ _ hv hP hS hl
              · have hv := hv.2 c92
                refine lv_iconst (v := 0) hx hb dX9_readsPerson_104 (by decide) ?_
                rw [hZ]; rw [hQ] at hv
                exact W.zret (v := 0) hx hb hr rfl (fun t ht hW => ⟨⟨0, σ77, rfl, hv, ⟨P_of ht hP, hD⟩⟩, hS.F ht⟩) hS.2.2 dX9_readsPerson_105
            · have hv := hv.2 c107
              refine lv_bipush (v := (-9)) hx hb dX9_readsPerson_84 (by decide) ?_
              refine lv_goto (tgt := 97) hx hb dX9_readsPerson_86 (by decide) ?_
              refine lv_istore (lv' := [(5, .int (-9)), (4, .int r76), (3, .int (fn_X9_codeAt fr_ n_ σ1)), (0, .ref (ad 0)), (1, .int fr_), (2, .int n_)]) hx hb dX9_readsPerson_97 hl (by decide) rfl (fun ls hl => ?_)
              refine lv_iload hx hb dX9_readsPerson_99 (lv_at hl 0 rfl) ?_
              refine lv_if_ge (tgt := 106) hx hb dX9_readsPerson_101 (by decide) (fun c106 => ?_) (fun c106 => ?_)
              · have hv := hv.1 c106
                refine lv_aload_n hx hb dX9_readsPerson_106 rfl (lv_at hl 3 rfl) ?_
                refine va_get (ci := 9) (v := .ref (ad (4))) (C := RX9) (T := TX9) (N := 38) hx hb hts hinX9 hown hK hP 0 (wR_0 cy ad σ75) rfl 9 (by decide) (hts (.fieldLink RX9 19 "TaleBansModel" "readKind" "[I") (List.mem_of_getElem? (i := 3) rfl)) (fun x h => h) rfl dX9_readsPerson_107 ?_
                refine lv_aload_n hx hb dX9_readsPerson_110 rfl (lv_at hl 3 rfl) ?_
                refine va_get (ci := 9) (v := .int (rdI σ75 5)) (C := RX9) (T := TX9) (N := 38) hx hb hts hinX9 hown hK hP 0 (wR_0 cy ad σ75) rfl 8 (by decide) (hts (.fieldLink RX9 125 "TaleBansModel" "readPersons" "I") (List.mem_of_getElem? (i := 1) rfl)) (fun x h => h) rfl dX9_readsPerson_111 ?_
                refine lv_iload_n hx hb dX9_readsPerson_114 rfl (lv_at hl 2 rfl) ?_
                refine lv_bipush (v := 104) hx hb dX9_readsPerson_115 (by decide) ?_
                obtain ⟨P93, hv, hvr⟩ := hv
                have jn94 : ∀ (b95 : Int32) (H : Heap) (locs : List Loc) (ls : Array Slot), P93 b95 → va_P D vwCl (wR cy ad σ75) H → va_S A s.heap H locs → lv_has ls 6 [(5, .int (-9)), (4, .int r76), (3, .int (fn_X9_codeAt fr_ n_ σ1)), (0, .ref (ad 0)), (1, .int fr_), (2, .int n_)] → W p l e R s m ([.ref (ad 0), .int fr_, .int n_] : List Value).toArray below meth c H locs 0 0 Z (F0 m 135 ls [.int b95, .int (rdI σ75 5), .ref (ad (4))]) := by
                  intro b95 H locs ls hv hP hS hl
                  have hv := hvr b95 hv
                  obtain ⟨hi, hv⟩ := hv
                  refine va_iast hx hb hK hP hD hS 4 0 (wR_4 cy ad σ75) rfl hi dX9_readsPerson_135 (fun H locs hP hD hS => ?_)
                  obtain ⟨σ98, e99⟩ : ∃ y : S_, y = wr2 σ75 4 (Int32.toNatClampNeg (rdI σ75 5)) b95 := ⟨_, rfl⟩
                  have hP : va_P D vwCl (wR cy ad σ98) H := by rw [e99]; exact hP
                  have hD : va_D A (wR cy ad σ98) := by rw [e99]; exact hD
                  have hv := hv σ98 e99
                  refine lv_aload_n hx hb dX9_readsPerson_136 rfl (lv_at hl 3 rfl) ?_
                  refine va_get (ci := 9) (v := .ref (ad (5))) (C := RX9) (T := TX9) (N := 38) hx hb hts hinX9 hown hK hP 0 (wR_0 cy ad σ98) rfl 10 (by decide) (hts (.fieldLink RX9 22 "TaleBansModel" "readMinds" "[I") (List.mem_of_getElem? (i := 4) rfl)) (fun x h => h) rfl dX9_readsPerson_137 ?_
                  refine lv_aload_n hx hb dX9_readsPerson_140 rfl (lv_at hl 3 rfl) ?_
                  refine va_get (ci := 9) (v := .int (rdI σ98 5)) (C := RX9) (T := TX9) (N := 38) hx hb hts hinX9 hown hK hP 0 (wR_0 cy ad σ98) rfl 8 (by decide) (hts (.fieldLink RX9 125 "TaleBansModel" "readPersons" "I") (List.mem_of_getElem? (i := 1) rfl)) (fun x h => h) rfl dX9_readsPerson_141 ?_
                  refine lv_iload hx hb dX9_readsPerson_144 (lv_at hl 1 rfl) ?_
                  obtain ⟨hi, hv⟩ := hv
                  refine va_iast hx hb hK hP hD hS 5 0 (wR_5 cy ad σ98) rfl hi dX9_readsPerson_146 (fun H locs hP hD hS => ?_)
                  obtain ⟨σ100, e101⟩ : ∃ y : S_, y = wr2 σ98 5 (Int32.toNatClampNeg (rdI σ98 5)) r76 := ⟨_, rfl⟩
                  have hP : va_P D vwCl (wR cy ad σ100) H := by rw [e101]; exact hP
                  have hD : va_D A (wR cy ad σ100) := by rw [e101]; exact hD
                  have hv := hv σ100 e101
                  refine lv_aload_n hx hb dX9_readsPerson_147 rfl (lv_at hl 3 rfl) ?_
                  refine va_get (ci := 9) (v := .ref (ad (6))) (C := RX9) (T := TX9) (N := 38) hx hb hts hinX9 hown hK hP 0 (wR_0 cy ad σ100) rfl 11 (by decide) (hts (.fieldLink RX9 25 "TaleBansModel" "readHearth" "[I") (List.mem_of_getElem? (i := 5) rfl)) (fun x h => h) rfl dX9_readsPerson_148 ?_
                  refine lv_aload_n hx hb dX9_readsPerson_151 rfl (lv_at hl 3 rfl) ?_
                  refine va_get (ci := 9) (v := .int (rdI σ100 5)) (C := RX9) (T := TX9) (N := 38) hx hb hts hinX9 hown hK hP 0 (wR_0 cy ad σ100) rfl 8 (by decide) (hts (.fieldLink RX9 125 "TaleBansModel" "readPersons" "I") (List.mem_of_getElem? (i := 1) rfl)) (fun x h => h) rfl dX9_readsPerson_152 ?_
                  refine lv_iload hx hb dX9_readsPerson_155 (lv_at hl 0 rfl) ?_
                  obtain ⟨hi, hv⟩ := hv
                  refine va_iast hx hb hK hP hD hS 6 0 (wR_6 cy ad σ100) rfl hi dX9_readsPerson_157 (fun H locs hP hD hS => ?_)
                  obtain ⟨σ102, e103⟩ : ∃ y : S_, y = wr2 σ100 6 (Int32.toNatClampNeg (rdI σ100 5)) (-9) := ⟨_, rfl⟩
                  have hP : va_P D vwCl (wR cy ad σ102) H := by rw [e103]; exact hP
                  have hD : va_D A (wR cy ad σ102) := by rw [e103]; exact hD
                  have hv := hv σ102 e103
                  refine lv_aload_n hx hb dX9_readsPerson_158 rfl (lv_at hl 3 rfl) ?_
                  refine lv_dup hx hb dX9_readsPerson_159 rfl ?_
                  refine va_get (ci := 9) (v := .int (rdI σ102 5)) (C := RX9) (T := TX9) (N := 38) hx hb hts hinX9 hown hK hP 0 (wR_0 cy ad σ102) rfl 8 (by decide) (hts (.fieldLink RX9 125 "TaleBansModel" "readPersons" "I") (List.mem_of_getElem? (i := 1) rfl)) (fun x h => h) rfl dX9_readsPerson_160 ?_
                  refine lv_iconst (v := 1) hx hb dX9_readsPerson_163 (by decide) ?_
                  refine lv_iadd hx hb dX9_readsPerson_164 ?_
                  refine va_put (ci := 9) (v := .int ((rdI σ102 5) + 1)) (ty := .int) (C := RX9) (T := TX9) (N := 38) hx hb hts hinX9 tyX9 tyX9_ok nmX9 hown hK hP hD hS 0 (wR_0 cy ad σ102) rfl 8 (by decide) (hts (.fieldLink RX9 125 "TaleBansModel" "readPersons" "I") (List.mem_of_getElem? (i := 1) rfl)) (fun x h => h) rfl (by decide +kernel) rfl rfl (Nat.le_of_ble_eq_true rfl) dX9_readsPerson_165 (fun H locs hP hD hS => ?_)
                  obtain ⟨σ104, e105⟩ : ∃ y : S_, y = wrI σ102 5 ((rdI σ102 5) + 1) := ⟨_, rfl⟩
                  have hP : va_P D vwCl (wR cy ad σ104) H := by rw [e105]; exact hP
                  have hD : va_D A (wR cy ad σ104) := by rw [e105]; exact hD
                  have hv := hv σ104 e105
                  refine lv_iconst (v := 1) hx hb dX9_readsPerson_168 (by decide) ?_
                  rw [hZ]; rw [hQ] at hv
                  exact W.zret (v := 1) hx hb hr rfl (fun t ht hW => ⟨⟨1, σ104, rfl, hv, ⟨P_of ht hP, hD⟩⟩, hS.F ht⟩) hS.2.2 dX9_readsPerson_169
                refine lv_icmp_ne (tgt := 124) hx hb dX9_readsPerson_117 (by decide) (fun c97 => ?_) (fun c97 => ?_)
                · have hv := hv.1 c97
                  refine lv_iload_n hx hb dX9_readsPerson_124 rfl (lv_at hl 2 rfl) ?_
                  refine lv_bipush (v := 98) hx hb dX9_readsPerson_125 (by decide) ?_
                  refine lv_icmp_ne (tgt := 134) hx hb dX9_readsPerson_127 (by decide) (fun c96 => ?_) (fun c96 => ?_)
                  · have hv := hv.1 c96
                    refine lv_iconst (v := 2) hx hb dX9_readsPerson_134 (by decide) ?_
                    exact jn94 2 _ _ _ hv hP hS hl
                  · have hv := hv.2 c96
                    refine lv_iconst (v := 1) hx hb dX9_readsPerson_130 (by decide) ?_
                    refine lv_goto (tgt := 135) hx hb dX9_readsPerson_131 (by decide) ?_
                    exact jn94 1 _ _ _ hv hP hS hl
                · have hv := hv.2 c97
                  refine lv_iconst (v := 0) hx hb dX9_readsPerson_120 (by decide) ?_
                  refine lv_goto (tgt := 135) hx hb dX9_readsPerson_121 (by decide) ?_
                  exact jn94 0 _ _ _ hv hP hS hl
              · have hv := hv.2 c106
                refine lv_iconst (v := 0) hx hb dX9_readsPerson_104 (by decide) ?_
                rw [hZ]; rw [hQ] at hv
                exact W.zret (v := 0) hx hb hr rfl (fun t ht hW => ⟨⟨0, σ75, rfl, hv, ⟨P_of ht hP, hD⟩⟩, hS.F ht⟩) hS.2.2 dX9_readsPerson_105
          · have hv := hv.2 c108
            refine lv_iconst (v := 0) hx hb dX9_readsPerson_57 (by decide) ?_
            rw [hZ]; rw [hQ] at hv
            exact W.zret (v := 0) hx hb hr rfl (fun t ht hW => ⟨⟨0, σ1, rfl, hv, ⟨P_of ht hP, hD⟩⟩, hS.F ht⟩) hS.2.2 dX9_readsPerson_58
    · have hv := hv.2 c111
      refine lv_iconst (v := 0) hx hb dX9_readsPerson_20 (by decide) ?_
      rw [hZ]; rw [hQ] at hv
      exact W.zret (v := 0) hx hb hr rfl (fun t ht hW => ⟨⟨0, σ0, rfl, hv, ⟨P_of ht hP, hD⟩⟩, hS.F ht⟩) hS.2.2 dX9_readsPerson_21
set_option maxHeartbeats 4000000 in
set_option maxRecDepth 100000 in
theorem wk_X9_readsSteppe (l : Launch) (h_X9_codeAt : Ct_X9_codeAt l) (h_X9_readsPerson : Ct_X9_readsPerson l) (sp : ∀ (fr_ : Int32) (n_ : Int32) (σ0 : S_), pre_X9_readsSteppe fr_ n_ σ0 → vc_X9_readsSteppe fr_ n_ σ0 (post_X9_readsSteppe fr_ n_ σ0)) : Ct_X9_readsSteppe l := by
  intro D cy ad A fr_ n_  σ0  hpre
  refine Met.ofW (cc := cX9_readsSteppe) (maxL := 4) (ret := (some .boolean)) (by decide) rfl ?_
  intro p e s m args below meth c s₁ B hml hv0
  obtain ⟨rfl, hP, hK, hD, hN⟩ := hv0
  have hx := B.exec
  have hb := B.bytes
  have hr := B.returns
  have hts := atoms_spec (ws := wsX9_readsSteppe) B.pre
  have hown : s.vm.findClass RX9 = some m.cls := findClass_of_methodNamed B.named
  have hlocks := B.notSynchronized
  have hv := sp fr_ n_  σ0 hpre
  have hl := lv_entry ([.ref (ad 0), .int fr_, .int n_]) (n := 4) (Nat.le_of_ble_eq_true rfl)
  rw [lg_entry_eq]
  generalize (lg_sl ([.ref (ad 0), .int fr_, .int n_]) ++ List.replicate (4 - (lg_sl ([.ref (ad 0), .int fr_, .int n_])).length) Slot.unset).toArray = ls at hl ⊢
  have hl : lv_has ls 4 [(0, .ref (ad 0)), (1, .int fr_), (2, .int n_)] := hl
  refine W_gen (fun R Z H locs hR hZ hH hlo => ?_)
  have hRf : R.frames = 3 := by rw [hR]; rfl
  have hRl : R.locals = 76 := by rw [hR]; rfl
  have hRc : R.cells = 0 := by rw [hR]; rfl
  have hRs : R.slots = 0 := by rw [hR]; rfl
  have hS : va_S A s.heap H locs := by rw [hH, hlo]; exact va_S.rf
  rw [← hH] at hP
  obtain ⟨Q, hQ⟩ : ∃ q : Int32 → S_ → Prop, q = (post_X9_readsSteppe fr_ n_  σ0) := ⟨_, rfl⟩
  rw [← hQ] at hv
  have hinX9 : ∀ w ∈ wsX90, w ∈ wsX9_readsSteppe := by decide +kernel
  refine lv_aload_n hx hb dX9_readsSteppe_0 rfl (lv_at hl 0 rfl) ?_
  refine lv_iconst (v := 0) hx hb dX9_readsSteppe_1 (by decide) ?_
  refine va_put (ci := 9) (v := .int 0) (ty := .int) (C := RX9) (T := TX9) (N := 38) hx hb hts hinX9 tyX9 tyX9_ok nmX9 hown hK hP hD hS 0 (wR_0 cy ad σ0) rfl 7 (by decide) (hts (.fieldLink RX9 118 "TaleBansModel" "readAt" "I") (List.mem_of_getElem? (i := 1) rfl)) (fun x h => h) rfl (by decide +kernel) rfl rfl (Nat.le_of_ble_eq_true rfl) dX9_readsSteppe_2 (fun H locs hP hD hS => ?_)
  obtain ⟨σ1, e2⟩ : ∃ y : S_, y = wrI σ0 4 0 := ⟨_, rfl⟩
  have hP : va_P D vwCl (wR cy ad σ1) H := by rw [e2]; exact hP
  have hD : va_D A (wR cy ad σ1) := by rw [e2]; exact hD
  have hv := hv σ1 e2
  refine lv_aload_n hx hb dX9_readsSteppe_5 rfl (lv_at hl 0 rfl) ?_
  refine lv_iconst (v := 0) hx hb dX9_readsSteppe_6 (by decide) ?_
  refine va_put (ci := 9) (v := .int 0) (ty := .int) (C := RX9) (T := TX9) (N := 38) hx hb hts hinX9 tyX9 tyX9_ok nmX9 hown hK hP hD hS 0 (wR_0 cy ad σ1) rfl 8 (by decide) (hts (.fieldLink RX9 125 "TaleBansModel" "readPersons" "I") (List.mem_of_getElem? (i := 2) rfl)) (fun x h => h) rfl (by decide +kernel) rfl rfl (Nat.le_of_ble_eq_true rfl) dX9_readsSteppe_7 (fun H locs hP hD hS => ?_)
  obtain ⟨σ3, e4⟩ : ∃ y : S_, y = wrI σ1 5 0 := ⟨_, rfl⟩
  have hP : va_P D vwCl (wR cy ad σ3) H := by rw [e4]; exact hP
  have hD : va_D A (wR cy ad σ3) := by rw [e4]; exact hD
  have hv := hv σ3 e4
  refine lv_aload_n hx hb dX9_readsSteppe_10 rfl (lv_at hl 0 rfl) ?_
  refine lv_iload_n hx hb dX9_readsSteppe_11 rfl (lv_at hl 1 rfl) ?_
  refine lv_iload_n hx hb dX9_readsSteppe_12 rfl (lv_at hl 2 rfl) ?_
  obtain ⟨hp, hv⟩ := hv
  refine k_read_i (w := wR cy ad) (va_runV (As := [.int fr_, .int n_]) (rest := []) ⟨hx, hb, hml, hown, hts⟩ (h_X9_codeAt D cy ad A fr_ n_ σ3 hp) (cwV 2 hts gX9_readsSteppe_X9_codeAt rfl rfl rfl (by decide +kernel) ⟨le_R hRf (Nat.le_of_ble_eq_true rfl), le_R hRl (Nat.le_of_ble_eq_true rfl)⟩) ⟨(fun a U g mk q => ⟨q.1, q.2.blind⟩), va_recv hK hP (ci := 9) (q0 := 0) rfl (wR_0 cy ad σ3), (fun U hU hW => ⟨rfl, WdR.pre hP hK hD hN hU hW⟩)⟩ rfl rfl hl.1 rfl (lv_room (Nat.le_of_ble_eq_true rfl)) dX9_readsSteppe_13 ⟨le_R hRc (Nat.le_refl 0), le_R hRs (Nat.le_refl 0)⟩) hS (fun r H locs hr1 hP hS => ?_)
  subst hr1
  refine lv_bipush (v := 115) hx hb dX9_readsSteppe_16 (by decide) ?_
  obtain ⟨P5, hv, hvr⟩ := hv
  have jn6 : ∀ (b7 : Int32) (H : Heap) (locs : List Loc) (ls : Array Slot), P5 b7 → va_P D vwCl (wR cy ad σ3) H → va_S A s.heap H locs → lv_has ls 4 [(0, .ref (ad 0)), (1, .int fr_), (2, .int n_)] → W p l e R s m ([.ref (ad 0), .int fr_, .int n_] : List Value).toArray below meth c H locs 0 0 Z (F0 m 26 ls [.int b7]) := by
    intro b7 H locs ls hv hP hS hl
    have hv := hvr b7 hv
    refine lv_istore_n (lv' := [(3, .int b7), (0, .ref (ad 0)), (1, .int fr_), (2, .int n_)]) hx hb dX9_readsSteppe_26 rfl hl (by decide) rfl (fun ls hl => ?_)
    refine lv_aload_n hx hb dX9_readsSteppe_27 rfl (lv_at hl 1 rfl) ?_
    refine lv_dup hx hb dX9_readsSteppe_28 rfl ?_
    refine va_get (ci := 9) (v := .int (rdI σ3 4)) (C := RX9) (T := TX9) (N := 38) hx hb hts hinX9 hown hK hP 0 (wR_0 cy ad σ3) rfl 7 (by decide) (hts (.fieldLink RX9 118 "TaleBansModel" "readAt" "I") (List.mem_of_getElem? (i := 1) rfl)) (fun x h => h) rfl dX9_readsSteppe_29 ?_
    refine lv_iload_n hx hb dX9_readsSteppe_32 rfl (lv_at hl 0 rfl) ?_
    obtain ⟨P9, hv, hvr⟩ := hv
    have jn10 : ∀ (b11 : Int32) (H : Heap) (locs : List Loc) (ls : Array Slot), P9 b11 → va_P D vwCl (wR cy ad σ3) H → va_S A s.heap H locs → lv_has ls 4 [(3, .int b7), (0, .ref (ad 0)), (1, .int fr_), (2, .int n_)] → W p l e R s m ([.ref (ad 0), .int fr_, .int n_] : List Value).toArray below meth c H locs 0 0 Z (F0 m 41 ls [.int b11, .int (rdI σ3 4), .ref (ad 0)]) := by
      intro b11 H locs ls hv hP hS hl
      have hv := hvr b11 hv
      refine lv_iadd hx hb dX9_readsSteppe_41 ?_
      refine va_put (ci := 9) (v := .int ((rdI σ3 4) + b11)) (ty := .int) (C := RX9) (T := TX9) (N := 38) hx hb hts hinX9 tyX9 tyX9_ok nmX9 hown hK hP hD hS 0 (wR_0 cy ad σ3) rfl 7 (by decide) (hts (.fieldLink RX9 118 "TaleBansModel" "readAt" "I") (List.mem_of_getElem? (i := 1) rfl)) (fun x h => h) rfl (by decide +kernel) rfl rfl (Nat.le_of_ble_eq_true rfl) dX9_readsSteppe_42 (fun H locs hP hD hS => ?_)
      obtain ⟨σ13, e14⟩ : ∃ y : S_, y = wrI σ3 4 ((rdI σ3 4) + b11) := ⟨_, rfl⟩
      have hP : va_P D vwCl (wR cy ad σ13) H := by rw [e14]; exact hP
      have hD : va_D A (wR cy ad σ13) := by rw [e14]; exact hD
      have hv := hv σ13 e14
      obtain ⟨n45, hv⟩ := hv
      have lp45 : ∀ (nn45 : Nat) (x15 : Int32) (σ16 : S_) (H : Heap) (locs : List Loc) (ls : Array Slot), vl_X9_readsSteppe_45 fr_ n_ Q nn45 x15 σ16 → va_P D vwCl (wR cy ad σ16) H → va_D A (wR cy ad σ16) → va_S A s.heap H locs → lv_has ls 4 [(0, .ref (ad 0)), (1, .int fr_), (2, .int n_), (3, .int x15)] → W p l e R s m ([.ref (ad 0), .int fr_, .int n_] : List Value).toArray  below meth c H locs 0 0 Z (F0 m 45 ls []) := by
        intro nn45
        induction nn45 with
        | zero => intro x15 σ16 H locs ls hv; exact absurd hv id
        | succ mm45 ih45 =>
          intro x15 σ16 H locs ls hv hP hD hS hl
          refine lv_iload_n hx hb dX9_readsSteppe_45 rfl (lv_at hl 3 rfl) ?_
          refine lv_if_eq (tgt := 75) hx hb dX9_readsSteppe_46 (by decide) (fun c23 => ?_) (fun c23 => ?_)
          · have hv := hv.1 c23
            refine lv_iload_n hx hb dX9_readsSteppe_75 rfl (lv_at hl 3 rfl) ?_
            obtain ⟨h01, hv⟩ := hv
            rw [hZ]; rw [hQ] at hv
            exact W.zret (v := x15) hx hb hr (nar_b h01) (fun t ht hW => ⟨⟨x15, σ16, rfl, hv, ⟨P_of ht hP, hD⟩⟩, hS.F ht⟩) hS.2.2 dX9_readsSteppe_76
          · have hv := hv.2 c23
            refine lv_aload_n hx hb dX9_readsSteppe_49 rfl (lv_at hl 0 rfl) ?_
            refine va_get (ci := 9) (v := .int (rdI σ16 5)) (C := RX9) (T := TX9) (N := 38) hx hb hts hinX9 hown hK hP 0 (wR_0 cy ad σ16) rfl 8 (by decide) (hts (.fieldLink RX9 125 "TaleBansModel" "readPersons" "I") (List.mem_of_getElem? (i := 2) rfl)) (fun x h => h) rfl dX9_readsSteppe_50 ?_
            refine lv_iconst (v := 2) hx hb dX9_readsSteppe_53 (by decide) ?_
            refine lv_icmp_lt (tgt := 65) hx hb dX9_readsSteppe_54 (by decide) (fun c22 => ?_) (fun c22 => ?_)
            · have hv := hv.1 c22
              refine lv_aload_n hx hb dX9_readsSteppe_65 rfl (lv_at hl 0 rfl) ?_
              refine lv_iload_n hx hb dX9_readsSteppe_66 rfl (lv_at hl 1 rfl) ?_
              refine lv_iload_n hx hb dX9_readsSteppe_67 rfl (lv_at hl 2 rfl) ?_
              obtain ⟨hp, hv⟩ := hv
              refine k_rel_i (w := wR cy ad) (va_runV (As := [.int fr_, .int n_]) (rest := []) ⟨hx, hb, hml, hown, hts⟩ (h_X9_readsPerson D cy ad A fr_ n_ σ16 hp) (cwV 2 hts gX9_readsSteppe_X9_readsPerson rfl rfl rfl (by decide +kernel) ⟨le_R hRf (Nat.le_of_ble_eq_true rfl), le_R hRl (Nat.le_of_ble_eq_true rfl)⟩) ⟨(fun a U g mk q => ⟨q.1, q.2.blind⟩), va_recv hK hP (ci := 9) (q0 := 0) rfl (wR_0 cy ad σ16), (fun U hU hW => ⟨rfl, WdR.pre hP hK hD hN hU hW⟩)⟩ rfl rfl hl.1 rfl (lv_room (Nat.le_of_ble_eq_true rfl)) dX9_readsSteppe_68 ⟨le_R hRc (Nat.le_refl 0), le_R hRs (Nat.le_refl 0)⟩) hS (fun r18 σ17 H locs hr1 hP hD hS => ?_)
              have hv := hv r18 σ17 hr1
              refine lv_istore_n (lv' := [(3, .int r18), (0, .ref (ad 0)), (1, .int fr_), (2, .int n_)]) hx hb dX9_readsSteppe_71 rfl hl (by decide) rfl (fun ls hl => ?_)
              refine lv_goto (tgt := 45) hx hb dX9_readsSteppe_72 (by decide) ?_
              exact ih45 r18 σ17 _ _ _ hv hP hD hS (lv_sub hl [1, 2, 3, 0] rfl)
            · have hv := hv.2 c22
              refine lv_aload_n hx hb dX9_readsSteppe_57 rfl (lv_at hl 0 rfl) ?_
              refine va_get (ci := 9) (v := .int (rdI σ16 4)) (C := RX9) (T := TX9) (N := 38) hx hb hts hinX9 hown hK hP 0 (wR_0 cy ad σ16) rfl 7 (by decide) (hts (.fieldLink RX9 118 "TaleBansModel" "readAt" "I") (List.mem_of_getElem? (i := 1) rfl)) (fun x h => h) rfl dX9_readsSteppe_58 ?_
              refine lv_iload_n hx hb dX9_readsSteppe_61 rfl (lv_at hl 2 rfl) ?_
              refine lv_icmp_ge (tgt := 75) hx hb dX9_readsSteppe_62 (by decide) (fun c21 => ?_) (fun c21 => ?_)
              · have hv := hv.1 c21
                refine lv_iload_n hx hb dX9_readsSteppe_75 rfl (lv_at hl 3 rfl) ?_
                obtain ⟨h01, hv⟩ := hv
                rw [hZ]; rw [hQ] at hv
                exact W.zret (v := x15) hx hb hr (nar_b h01) (fun t ht hW => ⟨⟨x15, σ16, rfl, hv, ⟨P_of ht hP, hD⟩⟩, hS.F ht⟩) hS.2.2 dX9_readsSteppe_76
              · have hv := hv.2 c21
                refine lv_aload_n hx hb dX9_readsSteppe_65 rfl (lv_at hl 0 rfl) ?_
                refine lv_iload_n hx hb dX9_readsSteppe_66 rfl (lv_at hl 1 rfl) ?_
                refine lv_iload_n hx hb dX9_readsSteppe_67 rfl (lv_at hl 2 rfl) ?_
                obtain ⟨hp, hv⟩ := hv
                refine k_rel_i (w := wR cy ad) (va_runV (As := [.int fr_, .int n_]) (rest := []) ⟨hx, hb, hml, hown, hts⟩ (h_X9_readsPerson D cy ad A fr_ n_ σ16 hp) (cwV 2 hts gX9_readsSteppe_X9_readsPerson rfl rfl rfl (by decide +kernel) ⟨le_R hRf (Nat.le_of_ble_eq_true rfl), le_R hRl (Nat.le_of_ble_eq_true rfl)⟩) ⟨(fun a U g mk q => ⟨q.1, q.2.blind⟩), va_recv hK hP (ci := 9) (q0 := 0) rfl (wR_0 cy ad σ16), (fun U hU hW => ⟨rfl, WdR.pre hP hK hD hN hU hW⟩)⟩ rfl rfl hl.1 rfl (lv_room (Nat.le_of_ble_eq_true rfl)) dX9_readsSteppe_68 ⟨le_R hRc (Nat.le_refl 0), le_R hRs (Nat.le_refl 0)⟩) hS (fun r20 σ19 H locs hr1 hP hD hS => ?_)
                have hv := hv r20 σ19 hr1
                refine lv_istore_n (lv' := [(3, .int r20), (0, .ref (ad 0)), (1, .int fr_), (2, .int n_)]) hx hb dX9_readsSteppe_71 rfl hl (by decide) rfl (fun ls hl => ?_)
                refine lv_goto (tgt := 45) hx hb dX9_readsSteppe_72 (by decide) ?_
                exact ih45 r20 σ19 _ _ _ hv hP hD hS (lv_sub hl [1, 2, 3, 0] rfl)
      exact lp45 n45 b7 σ13 _ _ _ hv hP hD hS (lv_sub hl [1, 2, 3, 0] rfl)
    refine lv_if_eq (tgt := 40) hx hb dX9_readsSteppe_33 (by decide) (fun c12 => ?_) (fun c12 => ?_)
    · have hv := hv.1 c12
      refine lv_iconst (v := 0) hx hb dX9_readsSteppe_40 (by decide) ?_
      exact jn10 0 _ _ _ hv hP hS hl
    · have hv := hv.2 c12
      refine lv_iconst (v := 1) hx hb dX9_readsSteppe_36 (by decide) ?_
      refine lv_goto (tgt := 41) hx hb dX9_readsSteppe_37 (by decide) ?_
      exact jn10 1 _ _ _ hv hP hS hl
  refine lv_icmp_ne (tgt := 25) hx hb dX9_readsSteppe_18 (by decide) (fun c8 => ?_) (fun c8 => ?_)
  · have hv := hv.1 c8
    refine lv_iconst (v := 0) hx hb dX9_readsSteppe_25 (by decide) ?_
    exact jn6 0 _ _ _ hv hP hS hl
  · have hv := hv.2 c8
    refine lv_iconst (v := 1) hx hb dX9_readsSteppe_21 (by decide) ?_
    refine lv_goto (tgt := 26) hx hb dX9_readsSteppe_22 (by decide) ?_
    exact jn6 1 _ _ _ hv hP hS hl
set_option maxHeartbeats 4000000 in
set_option maxRecDepth 100000 in
theorem wk_X9_cellsBarred (l : Launch) (h_X9_failed : Ct_X9_failed l) (h_X9_isBeyond : Ct_X9_isBeyond l) (sp : ∀ (k_ : Int32) (lane_ : Int32) (i_ : Int32) (n_ : Int64) (σ0 : S_), pre_X9_cellsBarred k_ lane_ i_ n_ σ0 → vc_X9_cellsBarred k_ lane_ i_ n_ σ0 (post_X9_cellsBarred k_ lane_ i_ n_ σ0)) : Ct_X9_cellsBarred l := by
  intro D cy ad A k_ lane_ i_ n_  σ0  hpre
  refine Met.ofW (cc := cX9_cellsBarred) (maxL := 6) (ret := (some .int)) (by decide) rfl ?_
  intro p e s m args below meth c s₁ B hml hv0
  obtain ⟨rfl, hP, hK, hD, hN⟩ := hv0
  have hx := B.exec
  have hb := B.bytes
  have hr := B.returns
  have hts := atoms_spec (ws := wsX9_cellsBarred) B.pre
  have hown : s.vm.findClass RX9 = some m.cls := findClass_of_methodNamed B.named
  have hlocks := B.notSynchronized
  have hv := sp k_ lane_ i_ n_  σ0 hpre
  have hl := lv_entry ([.ref (ad 0), .int k_, .int lane_, .int i_, .long n_]) (n := 6) (Nat.le_of_ble_eq_true rfl)
  rw [lg_entry_eq]
  generalize (lg_sl ([.ref (ad 0), .int k_, .int lane_, .int i_, .long n_]) ++ List.replicate (6 - (lg_sl ([.ref (ad 0), .int k_, .int lane_, .int i_, .long n_])).length) Slot.unset).toArray = ls at hl ⊢
  have hl : lv_has ls 6 [(0, .ref (ad 0)), (1, .int k_), (2, .int lane_), (3, .int i_), (4, .long n_)] := hl
  refine W_gen (fun R Z H locs hR hZ hH hlo => ?_)
  have hRf : R.frames = 1 := by rw [hR]; rfl
  have hRl : R.locals = 23 := by rw [hR]; rfl
  have hRc : R.cells = 0 := by rw [hR]; rfl
  have hRs : R.slots = 0 := by rw [hR]; rfl
  have hS : va_S A s.heap H locs := by rw [hH, hlo]; exact va_S.rf
  rw [← hH] at hP
  obtain ⟨Q, hQ⟩ : ∃ q : Int32 → S_ → Prop, q = (post_X9_cellsBarred k_ lane_ i_ n_  σ0) := ⟨_, rfl⟩
  rw [← hQ] at hv
  have hinX9 : ∀ w ∈ wsX90, w ∈ wsX9_cellsBarred := by decide +kernel
  refine lv_aload_n hx hb dX9_cellsBarred_0 rfl (lv_at hl 0 rfl) ?_
  refine va_get (ci := 9) (v := .ref (ad (24))) (C := RX9) (T := TX9) (N := 38) hx hb hts hinX9 hown hK hP 0 (wR_0 cy ad σ0) rfl 33 (by decide) (hts (.fieldLink RX9 80 "TaleBansModel" "sheetSize" "[I") (List.mem_of_getElem? (i := 1) rfl)) (fun x h => h) rfl dX9_cellsBarred_1 ?_
  refine lv_iload_n hx hb dX9_cellsBarred_4 rfl (lv_at hl 1 rfl) ?_
  obtain ⟨hi, hv⟩ := hv
  refine va_iald hx hb hK hP 24 0 (wR_24 cy ad σ0) rfl hi dX9_cellsBarred_5 ?_
  refine lv_if_lt (tgt := 25) hx hb dX9_cellsBarred_6 (by decide) (fun c22 => ?_) (fun c22 => ?_)
  · have hv := hv.1 c22
    refine lv_aload_n hx hb dX9_cellsBarred_25 rfl (lv_at hl 0 rfl) ?_
    refine va_get (ci := 9) (v := .ref (ad (24))) (C := RX9) (T := TX9) (N := 38) hx hb hts hinX9 hown hK hP 0 (wR_0 cy ad σ0) rfl 33 (by decide) (hts (.fieldLink RX9 80 "TaleBansModel" "sheetSize" "[I") (List.mem_of_getElem? (i := 1) rfl)) (fun x h => h) rfl dX9_cellsBarred_26 ?_
    refine lv_iload_n hx hb dX9_cellsBarred_29 rfl (lv_at hl 1 rfl) ?_
    obtain ⟨hi, hv⟩ := hv
    refine va_iald hx hb hK hP 24 0 (wR_24 cy ad σ0) rfl hi dX9_cellsBarred_30 ?_
    refine lv_if_ge (tgt := 40) hx hb dX9_cellsBarred_31 (by decide) (fun c9 => ?_) (fun c9 => ?_)
    · have hv := hv.1 c9
      refine lv_lload hx hb dX9_cellsBarred_40 (lv_at hl 4 rfl) ?_
      refine lv_lconst (v := 0) hx hb dX9_cellsBarred_42 rfl ?_
      refine W.lcmp hx hb dX9_cellsBarred_43 ?_
      refine lv_if_ge (tgt := 53) hx hb dX9_cellsBarred_44 (by decide) (fun c6 => ?_) (fun c6 => ?_)
      · have hv := hv.1 c6
        refine lv_iload_n hx hb dX9_cellsBarred_53 rfl (lv_at hl 3 rfl) ?_
        refine lv_lload hx hb dX9_cellsBarred_54 (lv_at hl 4 rfl) ?_
        refine lv_aload_n hx hb dX9_cellsBarred_56 rfl (lv_at hl 0 rfl) ?_
        refine va_get (ci := 9) (v := .ref (ad (24))) (C := RX9) (T := TX9) (N := 38) hx hb hts hinX9 hown hK hP 0 (wR_0 cy ad σ0) rfl 33 (by decide) (hts (.fieldLink RX9 80 "TaleBansModel" "sheetSize" "[I") (List.mem_of_getElem? (i := 1) rfl)) (fun x h => h) rfl dX9_cellsBarred_57 ?_
        refine lv_iload_n hx hb dX9_cellsBarred_60 rfl (lv_at hl 1 rfl) ?_
        obtain ⟨hi, hv⟩ := hv
        refine va_iald hx hb hK hP 24 0 (wR_24 cy ad σ0) rfl hi dX9_cellsBarred_61 ?_
        refine k_pure_i (va_runS (As := [.int i_, .long n_, .int (rdA σ0 24 (Int32.toNatClampNeg k_))]) (rest := []) ⟨hx, hb, hml, hown, hts⟩ (h_X9_isBeyond i_ n_ (rdA σ0 24 (Int32.toNatClampNeg k_))) (va_cwS 3 hts gX9_cellsBarred_X9_isBeyond rfl rfl rfl (by decide +kernel) ⟨le_R hRf (Nat.le_of_ble_eq_true rfl), le_R hRl (Nat.le_of_ble_eq_true rfl)⟩) ⟨(fun a U g mk q => ⟨q.1, trivial⟩), (fun U hU hW => ⟨rfl, trivial⟩)⟩ rfl rfl hl.1 rfl (lv_room (Nat.le_of_ble_eq_true rfl)) dX9_cellsBarred_62 ⟨le_R hRc (Nat.le_refl 0), le_R hRs (Nat.le_refl 0)⟩) hS hP (fun r H locs hr1 hP hS => ?_)
        subst hr1
        refine lv_if_eq (tgt := 76) hx hb dX9_cellsBarred_65 (by decide) (fun c3 => ?_) (fun c3 => ?_)
        · have hv := hv.1 c3
          refine lv_iconst (v := 0) hx hb dX9_cellsBarred_76 (by decide) ?_
          rw [hZ]; rw [hQ] at hv
          exact W.iret (v := 0) hx hb hr (fun t ht hW => ⟨⟨0, σ0, rfl, hv, ⟨P_of ht hP, hD⟩⟩, hS.F ht⟩) hS.2.2 dX9_cellsBarred_77
        · have hv := hv.2 c3
          refine lv_aload_n hx hb dX9_cellsBarred_68 rfl (lv_at hl 0 rfl) ?_
          refine lv_iconst (v := 3) hx hb dX9_cellsBarred_69 (by decide) ?_
          have hp := True.intro
          refine k_rel_i (w := wR cy ad) (va_runV (As := [.int 3]) (rest := []) ⟨hx, hb, hml, hown, hts⟩ (h_X9_failed D cy ad A 3 σ0 hp) (cwV 1 hts gX9_cellsBarred_X9_failed rfl rfl rfl (by decide +kernel) ⟨le_R hRf (Nat.le_of_ble_eq_true rfl), le_R hRl (Nat.le_of_ble_eq_true rfl)⟩) ⟨(fun a U g mk q => ⟨q.1, q.2.blind⟩), va_recv hK hP (ci := 9) (q0 := 0) rfl (wR_0 cy ad σ0), (fun U hU hW => ⟨rfl, WdR.pre hP hK hD hN hU hW⟩)⟩ rfl rfl hl.1 rfl (lv_room (Nat.le_of_ble_eq_true rfl)) dX9_cellsBarred_70 ⟨le_R hRc (Nat.le_refl 0), le_R hRs (Nat.le_refl 0)⟩) hS (fun r2 σ1 H locs hr1 hP hD hS => ?_)
          have hv := hv r2 σ1 hr1
          refine lv_goto (tgt := 77) hx hb dX9_cellsBarred_73 (by decide) ?_
          rw [hZ]; rw [hQ] at hv
          exact W.iret (v := r2) hx hb hr (fun t ht hW => ⟨⟨r2, σ1, rfl, hv, ⟨P_of ht hP, hD⟩⟩, hS.F ht⟩) hS.2.2 dX9_cellsBarred_77
      · have hv := hv.2 c6
        refine lv_aload_n hx hb dX9_cellsBarred_47 rfl (lv_at hl 0 rfl) ?_
        refine lv_iconst (v := 4) hx hb dX9_cellsBarred_48 (by decide) ?_
        have hp := True.intro
        refine k_rel_i (w := wR cy ad) (va_runV (As := [.int 4]) (rest := []) ⟨hx, hb, hml, hown, hts⟩ (h_X9_failed D cy ad A 4 σ0 hp) (cwV 1 hts gX9_cellsBarred_X9_failed rfl rfl rfl (by decide +kernel) ⟨le_R hRf (Nat.le_of_ble_eq_true rfl), le_R hRl (Nat.le_of_ble_eq_true rfl)⟩) ⟨(fun a U g mk q => ⟨q.1, q.2.blind⟩), va_recv hK hP (ci := 9) (q0 := 0) rfl (wR_0 cy ad σ0), (fun U hU hW => ⟨rfl, WdR.pre hP hK hD hN hU hW⟩)⟩ rfl rfl hl.1 rfl (lv_room (Nat.le_of_ble_eq_true rfl)) dX9_cellsBarred_49 ⟨le_R hRc (Nat.le_refl 0), le_R hRs (Nat.le_refl 0)⟩) hS (fun r5 σ4 H locs hr1 hP hD hS => ?_)
        have hv := hv r5 σ4 hr1
        rw [hZ]; rw [hQ] at hv
        exact W.iret (v := r5) hx hb hr (fun t ht hW => ⟨⟨r5, σ4, rfl, hv, ⟨P_of ht hP, hD⟩⟩, hS.F ht⟩) hS.2.2 dX9_cellsBarred_52
    · have hv := hv.2 c9
      refine lv_aload_n hx hb dX9_cellsBarred_34 rfl (lv_at hl 0 rfl) ?_
      refine lv_iconst (v := 1) hx hb dX9_cellsBarred_35 (by decide) ?_
      have hp := True.intro
      refine k_rel_i (w := wR cy ad) (va_runV (As := [.int 1]) (rest := []) ⟨hx, hb, hml, hown, hts⟩ (h_X9_failed D cy ad A 1 σ0 hp) (cwV 1 hts gX9_cellsBarred_X9_failed rfl rfl rfl (by decide +kernel) ⟨le_R hRf (Nat.le_of_ble_eq_true rfl), le_R hRl (Nat.le_of_ble_eq_true rfl)⟩) ⟨(fun a U g mk q => ⟨q.1, q.2.blind⟩), va_recv hK hP (ci := 9) (q0 := 0) rfl (wR_0 cy ad σ0), (fun U hU hW => ⟨rfl, WdR.pre hP hK hD hN hU hW⟩)⟩ rfl rfl hl.1 rfl (lv_room (Nat.le_of_ble_eq_true rfl)) dX9_cellsBarred_36 ⟨le_R hRc (Nat.le_refl 0), le_R hRs (Nat.le_refl 0)⟩) hS (fun r8 σ7 H locs hr1 hP hD hS => ?_)
      have hv := hv r8 σ7 hr1
      rw [hZ]; rw [hQ] at hv
      exact W.iret (v := r8) hx hb hr (fun t ht hW => ⟨⟨r8, σ7, rfl, hv, ⟨P_of ht hP, hD⟩⟩, hS.F ht⟩) hS.2.2 dX9_cellsBarred_39
  · have hv := hv.2 c22
    refine lv_aload_n hx hb dX9_cellsBarred_9 rfl (lv_at hl 0 rfl) ?_
    refine va_get (ci := 9) (v := .ref (ad (25))) (C := RX9) (T := TX9) (N := 38) hx hb hts hinX9 hown hK hP 0 (wR_0 cy ad σ0) rfl 34 (by decide) (hts (.fieldLink RX9 83 "TaleBansModel" "sheetLane" "[I") (List.mem_of_getElem? (i := 2) rfl)) (fun x h => h) rfl dX9_cellsBarred_10 ?_
    refine lv_iload_n hx hb dX9_cellsBarred_13 rfl (lv_at hl 1 rfl) ?_
    obtain ⟨hi, hv⟩ := hv
    refine va_iald hx hb hK hP 25 0 (wR_25 cy ad σ0) rfl hi dX9_cellsBarred_14 ?_
    refine lv_iload_n hx hb dX9_cellsBarred_15 rfl (lv_at hl 2 rfl) ?_
    refine lv_icmp_eq (tgt := 25) hx hb dX9_cellsBarred_16 (by decide) (fun c21 => ?_) (fun c21 => ?_)
    · have hv := hv.1 c21
      refine lv_aload_n hx hb dX9_cellsBarred_25 rfl (lv_at hl 0 rfl) ?_
      refine va_get (ci := 9) (v := .ref (ad (24))) (C := RX9) (T := TX9) (N := 38) hx hb hts hinX9 hown hK hP 0 (wR_0 cy ad σ0) rfl 33 (by decide) (hts (.fieldLink RX9 80 "TaleBansModel" "sheetSize" "[I") (List.mem_of_getElem? (i := 1) rfl)) (fun x h => h) rfl dX9_cellsBarred_26 ?_
      refine lv_iload_n hx hb dX9_cellsBarred_29 rfl (lv_at hl 1 rfl) ?_
      obtain ⟨hi, hv⟩ := hv
      refine va_iald hx hb hK hP 24 0 (wR_24 cy ad σ0) rfl hi dX9_cellsBarred_30 ?_
      refine lv_if_ge (tgt := 40) hx hb dX9_cellsBarred_31 (by decide) (fun c18 => ?_) (fun c18 => ?_)
      · have hv := hv.1 c18
        refine lv_lload hx hb dX9_cellsBarred_40 (lv_at hl 4 rfl) ?_
        refine lv_lconst (v := 0) hx hb dX9_cellsBarred_42 rfl ?_
        refine W.lcmp hx hb dX9_cellsBarred_43 ?_
        refine lv_if_ge (tgt := 53) hx hb dX9_cellsBarred_44 (by decide) (fun c15 => ?_) (fun c15 => ?_)
        · have hv := hv.1 c15
          refine lv_iload_n hx hb dX9_cellsBarred_53 rfl (lv_at hl 3 rfl) ?_
          refine lv_lload hx hb dX9_cellsBarred_54 (lv_at hl 4 rfl) ?_
          refine lv_aload_n hx hb dX9_cellsBarred_56 rfl (lv_at hl 0 rfl) ?_
          refine va_get (ci := 9) (v := .ref (ad (24))) (C := RX9) (T := TX9) (N := 38) hx hb hts hinX9 hown hK hP 0 (wR_0 cy ad σ0) rfl 33 (by decide) (hts (.fieldLink RX9 80 "TaleBansModel" "sheetSize" "[I") (List.mem_of_getElem? (i := 1) rfl)) (fun x h => h) rfl dX9_cellsBarred_57 ?_
          refine lv_iload_n hx hb dX9_cellsBarred_60 rfl (lv_at hl 1 rfl) ?_
          obtain ⟨hi, hv⟩ := hv
          refine va_iald hx hb hK hP 24 0 (wR_24 cy ad σ0) rfl hi dX9_cellsBarred_61 ?_
          refine k_pure_i (va_runS (As := [.int i_, .long n_, .int (rdA σ0 24 (Int32.toNatClampNeg k_))]) (rest := []) ⟨hx, hb, hml, hown, hts⟩ (h_X9_isBeyond i_ n_ (rdA σ0 24 (Int32.toNatClampNeg k_))) (va_cwS 3 hts gX9_cellsBarred_X9_isBeyond rfl rfl rfl (by decide +kernel) ⟨le_R hRf (Nat.le_of_ble_eq_true rfl), le_R hRl (Nat.le_of_ble_eq_true rfl)⟩) ⟨(fun a U g mk q => ⟨q.1, trivial⟩), (fun U hU hW => ⟨rfl, trivial⟩)⟩ rfl rfl hl.1 rfl (lv_room (Nat.le_of_ble_eq_true rfl)) dX9_cellsBarred_62 ⟨le_R hRc (Nat.le_refl 0), le_R hRs (Nat.le_refl 0)⟩) hS hP (fun r H locs hr1 hP hS => ?_)
          subst hr1
          refine lv_if_eq (tgt := 76) hx hb dX9_cellsBarred_65 (by decide) (fun c12 => ?_) (fun c12 => ?_)
          · have hv := hv.1 c12
            refine lv_iconst (v := 0) hx hb dX9_cellsBarred_76 (by decide) ?_
            rw [hZ]; rw [hQ] at hv
            exact W.iret (v := 0) hx hb hr (fun t ht hW => ⟨⟨0, σ0, rfl, hv, ⟨P_of ht hP, hD⟩⟩, hS.F ht⟩) hS.2.2 dX9_cellsBarred_77
          · have hv := hv.2 c12
            refine lv_aload_n hx hb dX9_cellsBarred_68 rfl (lv_at hl 0 rfl) ?_
            refine lv_iconst (v := 3) hx hb dX9_cellsBarred_69 (by decide) ?_
            have hp := True.intro
            refine k_rel_i (w := wR cy ad) (va_runV (As := [.int 3]) (rest := []) ⟨hx, hb, hml, hown, hts⟩ (h_X9_failed D cy ad A 3 σ0 hp) (cwV 1 hts gX9_cellsBarred_X9_failed rfl rfl rfl (by decide +kernel) ⟨le_R hRf (Nat.le_of_ble_eq_true rfl), le_R hRl (Nat.le_of_ble_eq_true rfl)⟩) ⟨(fun a U g mk q => ⟨q.1, q.2.blind⟩), va_recv hK hP (ci := 9) (q0 := 0) rfl (wR_0 cy ad σ0), (fun U hU hW => ⟨rfl, WdR.pre hP hK hD hN hU hW⟩)⟩ rfl rfl hl.1 rfl (lv_room (Nat.le_of_ble_eq_true rfl)) dX9_cellsBarred_70 ⟨le_R hRc (Nat.le_refl 0), le_R hRs (Nat.le_refl 0)⟩) hS (fun r11 σ10 H locs hr1 hP hD hS => ?_)
            have hv := hv r11 σ10 hr1
            refine lv_goto (tgt := 77) hx hb dX9_cellsBarred_73 (by decide) ?_
            rw [hZ]; rw [hQ] at hv
            exact W.iret (v := r11) hx hb hr (fun t ht hW => ⟨⟨r11, σ10, rfl, hv, ⟨P_of ht hP, hD⟩⟩, hS.F ht⟩) hS.2.2 dX9_cellsBarred_77
        · have hv := hv.2 c15
          refine lv_aload_n hx hb dX9_cellsBarred_47 rfl (lv_at hl 0 rfl) ?_
          refine lv_iconst (v := 4) hx hb dX9_cellsBarred_48 (by decide) ?_
          have hp := True.intro
          refine k_rel_i (w := wR cy ad) (va_runV (As := [.int 4]) (rest := []) ⟨hx, hb, hml, hown, hts⟩ (h_X9_failed D cy ad A 4 σ0 hp) (cwV 1 hts gX9_cellsBarred_X9_failed rfl rfl rfl (by decide +kernel) ⟨le_R hRf (Nat.le_of_ble_eq_true rfl), le_R hRl (Nat.le_of_ble_eq_true rfl)⟩) ⟨(fun a U g mk q => ⟨q.1, q.2.blind⟩), va_recv hK hP (ci := 9) (q0 := 0) rfl (wR_0 cy ad σ0), (fun U hU hW => ⟨rfl, WdR.pre hP hK hD hN hU hW⟩)⟩ rfl rfl hl.1 rfl (lv_room (Nat.le_of_ble_eq_true rfl)) dX9_cellsBarred_49 ⟨le_R hRc (Nat.le_refl 0), le_R hRs (Nat.le_refl 0)⟩) hS (fun r14 σ13 H locs hr1 hP hD hS => ?_)
          have hv := hv r14 σ13 hr1
          rw [hZ]; rw [hQ] at hv
          exact W.iret (v := r14) hx hb hr (fun t ht hW => ⟨⟨r14, σ13, rfl, hv, ⟨P_of ht hP, hD⟩⟩, hS.F ht⟩) hS.2.2 dX9_cellsBarred_52
      · have hv := hv.2 c18
        refine lv_aload_n hx hb dX9_cellsBarred_34 rfl (lv_at hl 0 rfl) ?_
        refine lv_iconst (v := 1) hx hb dX9_cellsBarred_35 (by decide) ?_
        have hp := True.intro
        refine k_rel_i (w := wR cy ad) (va_runV (As := [.int 1]) (rest := []) ⟨hx, hb, hml, hown, hts⟩ (h_X9_failed D cy ad A 1 σ0 hp) (cwV 1 hts gX9_cellsBarred_X9_failed rfl rfl rfl (by decide +kernel) ⟨le_R hRf (Nat.le_of_ble_eq_true rfl), le_R hRl (Nat.le_of_ble_eq_true rfl)⟩) ⟨(fun a U g mk q => ⟨q.1, q.2.blind⟩), va_recv hK hP (ci := 9) (q0 := 0) rfl (wR_0 cy ad σ0), (fun U hU hW => ⟨rfl, WdR.pre hP hK hD hN hU hW⟩)⟩ rfl rfl hl.1 rfl (lv_room (Nat.le_of_ble_eq_true rfl)) dX9_cellsBarred_36 ⟨le_R hRc (Nat.le_refl 0), le_R hRs (Nat.le_refl 0)⟩) hS (fun r17 σ16 H locs hr1 hP hD hS => ?_)
        have hv := hv r17 σ16 hr1
        rw [hZ]; rw [hQ] at hv
        exact W.iret (v := r17) hx hb hr (fun t ht hW => ⟨⟨r17, σ16, rfl, hv, ⟨P_of ht hP, hD⟩⟩, hS.F ht⟩) hS.2.2 dX9_cellsBarred_39
    · have hv := hv.2 c21
      refine lv_aload_n hx hb dX9_cellsBarred_19 rfl (lv_at hl 0 rfl) ?_
      refine lv_iconst (v := 2) hx hb dX9_cellsBarred_20 (by decide) ?_
      have hp := True.intro
      refine k_rel_i (w := wR cy ad) (va_runV (As := [.int 2]) (rest := []) ⟨hx, hb, hml, hown, hts⟩ (h_X9_failed D cy ad A 2 σ0 hp) (cwV 1 hts gX9_cellsBarred_X9_failed rfl rfl rfl (by decide +kernel) ⟨le_R hRf (Nat.le_of_ble_eq_true rfl), le_R hRl (Nat.le_of_ble_eq_true rfl)⟩) ⟨(fun a U g mk q => ⟨q.1, q.2.blind⟩), va_recv hK hP (ci := 9) (q0 := 0) rfl (wR_0 cy ad σ0), (fun U hU hW => ⟨rfl, WdR.pre hP hK hD hN hU hW⟩)⟩ rfl rfl hl.1 rfl (lv_room (Nat.le_of_ble_eq_true rfl)) dX9_cellsBarred_21 ⟨le_R hRc (Nat.le_refl 0), le_R hRs (Nat.le_refl 0)⟩) hS (fun r20 σ19 H locs hr1 hP hD hS => ?_)
      have hv := hv r20 σ19 hr1
      rw [hZ]; rw [hQ] at hv
      exact W.iret (v := r20) hx hb hr (fun t ht hW => ⟨⟨r20, σ19, rfl, hv, ⟨P_of ht hP, hD⟩⟩, hS.F ht⟩) hS.2.2 dX9_cellsBarred_24
set_option maxHeartbeats 4000000 in
set_option maxRecDepth 100000 in
theorem wk_X9_memoryOf (l : Launch) (sp : ∀ (p_ : Int32) (ag : AS) (p1g : Nat) (σ0 : S_), pre_X9_memoryOf p_ ag p1g σ0 → vc_X9_memoryOf p_ σ0 (fun r => post_X9_memoryOf p_ ag p1g σ0 r)) : Ct_X9_memoryOf l := by
  intro D cy ad A p_ ag p1g σ0  hpre
  refine Met.ofW (cc := cX9_memoryOf) (maxL := 3) (ret := (some .int)) (by decide) rfl ?_
  intro p e s m args below meth c s₁ B hml hv0
  obtain ⟨rfl, hP, hK, hD, hN⟩ := hv0
  have hx := B.exec
  have hb := B.bytes
  have hr := B.returns
  have hts := atoms_spec (ws := wsX9_memoryOf) B.pre
  have hown : s.vm.findClass RX9 = some m.cls := findClass_of_methodNamed B.named
  have hlocks := B.notSynchronized
  have hv := sp p_ ag p1g σ0 hpre
  have hl := lv_entry ([.ref (ad 0), .int p_]) (n := 3) (Nat.le_of_ble_eq_true rfl)
  rw [lg_entry_eq]
  generalize (lg_sl ([.ref (ad 0), .int p_]) ++ List.replicate (3 - (lg_sl ([.ref (ad 0), .int p_])).length) Slot.unset).toArray = ls at hl ⊢
  have hl : lv_has ls 3 [(0, .ref (ad 0)), (1, .int p_)] := hl
  refine W_gen (fun R Z H locs hR hZ hH hlo => ?_)
  have hRf : R.frames = 0 := by rw [hR]; rfl
  have hRl : R.locals = 0 := by rw [hR]; rfl
  have hRc : R.cells = 0 := by rw [hR]; rfl
  have hRs : R.slots = 0 := by rw [hR]; rfl
  have hS : va_S A s.heap H locs := by rw [hH, hlo]; exact va_S.rf
  rw [← hH] at hP
  obtain ⟨Q, hQ⟩ : ∃ q : Int32 → Prop, q = (fun r => post_X9_memoryOf p_ ag p1g σ0 r) := ⟨_, rfl⟩
  rw [← hQ] at hv
  have hinX9 : ∀ w ∈ wsX90, w ∈ wsX9_memoryOf := by decide +kernel
  refine lv_aload_n hx hb dX9_memoryOf_0 rfl (lv_at hl 0 rfl) ?_
  refine va_get (ci := 9) (v := .ref (ad (2))) (C := RX9) (T := TX9) (N := 38) hx hb hts hinX9 hown hK hP 0 (wR_0 cy ad σ0) rfl 3 (by decide) (hts (.fieldLink RX9 13 "TaleBansModel" "mindsOf" "[I") (List.mem_of_getElem? (i := 1) rfl)) (fun x h => h) rfl dX9_memoryOf_1 ?_
  refine lv_iload_n hx hb dX9_memoryOf_4 rfl (lv_at hl 1 rfl) ?_
  obtain ⟨hi, hv⟩ := hv
  refine va_iald hx hb hK hP 2 0 (wR_2 cy ad σ0) rfl hi dX9_memoryOf_5 ?_
  refine lv_istore_n (lv' := [(2, .int (rdA σ0 2 (Int32.toNatClampNeg p_))), (0, .ref (ad 0)), (1, .int p_)]) hx hb dX9_memoryOf_6 rfl hl (by decide) rfl (fun ls hl => ?_)
  refine lv_aload_n hx hb dX9_memoryOf_7 rfl (lv_at hl 1 rfl) ?_
  refine va_get (ci := 9) (v := .ref (ad (1))) (C := RX9) (T := TX9) (N := 38) hx hb hts hinX9 hown hK hP 0 (wR_0 cy ad σ0) rfl 2 (by decide) (hts (.fieldLink RX9 7 "TaleBansModel" "kindOf" "[I") (List.mem_of_getElem? (i := 2) rfl)) (fun x h => h) rfl dX9_memoryOf_8 ?_
  refine lv_iload_n hx hb dX9_memoryOf_11 rfl (lv_at hl 2 rfl) ?_
  obtain ⟨hi, hv⟩ := hv
  refine va_iald hx hb hK hP 1 0 (wR_1 cy ad σ0) rfl hi dX9_memoryOf_12 ?_
  refine lv_if_ne (tgt := 20) hx hb dX9_memoryOf_13 (by decide) (fun c2 => ?_) (fun c2 => ?_)
  · have hv := hv.1 c2
    refine lv_aload_n hx hb dX9_memoryOf_20 rfl (lv_at hl 1 rfl) ?_
    refine va_get (ci := 9) (v := .ref (ad (1))) (C := RX9) (T := TX9) (N := 38) hx hb hts hinX9 hown hK hP 0 (wR_0 cy ad σ0) rfl 2 (by decide) (hts (.fieldLink RX9 7 "TaleBansModel" "kindOf" "[I") (List.mem_of_getElem? (i := 2) rfl)) (fun x h => h) rfl dX9_memoryOf_21 ?_
    refine lv_iload_n hx hb dX9_memoryOf_24 rfl (lv_at hl 2 rfl) ?_
    obtain ⟨hi, hv⟩ := hv
    refine va_iald hx hb hK hP 1 0 (wR_1 cy ad σ0) rfl hi dX9_memoryOf_25 ?_
    refine lv_iconst (v := 1) hx hb dX9_memoryOf_26 (by decide) ?_
    refine lv_icmp_ne (tgt := 36) hx hb dX9_memoryOf_27 (by decide) (fun c1 => ?_) (fun c1 => ?_)
    · have hv := hv.1 c1
      refine lv_iconst (v := 2) hx hb dX9_memoryOf_36 (by decide) ?_
      refine lv_iload_n hx hb dX9_memoryOf_37 rfl (lv_at hl 0 rfl) ?_
      refine lv_iconst (v := 2) hx hb dX9_memoryOf_38 (by decide) ?_
      refine lv_iadd hx hb dX9_memoryOf_39 ?_
      refine lv_imul hx hb dX9_memoryOf_40 ?_
      rw [hZ]; rw [hQ] at hv
      exact W.iret (v := (2 * ((rdA σ0 2 (Int32.toNatClampNeg p_)) + 2))) hx hb hr (fun t ht hW => ⟨⟨(2 * ((rdA σ0 2 (Int32.toNatClampNeg p_)) + 2)), (), rfl, hv, (P_of ht hP)⟩, hS.F ht⟩) hS.2.2 dX9_memoryOf_41
    · have hv := hv.2 c1
      refine lv_iload_n hx hb dX9_memoryOf_30 rfl (lv_at hl 0 rfl) ?_
      refine lv_iconst (v := 2) hx hb dX9_memoryOf_31 (by decide) ?_
      refine lv_iadd hx hb dX9_memoryOf_32 ?_
      refine lv_goto (tgt := 41) hx hb dX9_memoryOf_33 (by decide) ?_
      rw [hZ]; rw [hQ] at hv
      exact W.iret (v := ((rdA σ0 2 (Int32.toNatClampNeg p_)) + 2)) hx hb hr (fun t ht hW => ⟨⟨((rdA σ0 2 (Int32.toNatClampNeg p_)) + 2), (), rfl, hv, (P_of ht hP)⟩, hS.F ht⟩) hS.2.2 dX9_memoryOf_41
  · have hv := hv.2 c2
    refine lv_iload_n hx hb dX9_memoryOf_16 rfl (lv_at hl 0 rfl) ?_
    refine lv_goto (tgt := 41) hx hb dX9_memoryOf_17 (by decide) ?_
    rw [hZ]; rw [hQ] at hv
    exact W.iret (v := (rdA σ0 2 (Int32.toNatClampNeg p_))) hx hb hr (fun t ht hW => ⟨⟨(rdA σ0 2 (Int32.toNatClampNeg p_)), (), rfl, hv, (P_of ht hP)⟩, hS.F ht⟩) hS.2.2 dX9_memoryOf_41
set_option maxHeartbeats 4000000 in
set_option maxRecDepth 100000 in
theorem wk_X9_begin (l : Launch) (sp : ∀ (ag : AS) (σ0 : S_), pre_X9_begin ag σ0 → vc_X9_begin σ0 (post_X9_begin ag σ0)) : Ct_X9_begin l := by
  intro D cy ad A  ag σ0  hpre
  refine Met.ofW (cc := cX9_begin) (maxL := 2) (ret := none) (by decide) rfl ?_
  intro p e s m args below meth c s₁ B hml hv0
  obtain ⟨rfl, hP, hK, hD, hN⟩ := hv0
  have hx := B.exec
  have hb := B.bytes
  have hr := B.returns
  have hts := atoms_spec (ws := wsX9_begin) B.pre
  have hown : s.vm.findClass RX9 = some m.cls := findClass_of_methodNamed B.named
  have hlocks := B.notSynchronized
  have hv := sp  ag σ0 hpre
  have hl := lv_entry ([.ref (ad 0)]) (n := 2) (Nat.le_of_ble_eq_true rfl)
  rw [lg_entry_eq]
  generalize (lg_sl ([.ref (ad 0)]) ++ List.replicate (2 - (lg_sl ([.ref (ad 0)])).length) Slot.unset).toArray = ls at hl ⊢
  have hl : lv_has ls 2 [(0, .ref (ad 0))] := hl
  refine W_gen (fun R Z H locs hR hZ hH hlo => ?_)
  have hRf : R.frames = 0 := by rw [hR]; rfl
  have hRl : R.locals = 0 := by rw [hR]; rfl
  have hRc : R.cells = 0 := by rw [hR]; rfl
  have hRs : R.slots = 0 := by rw [hR]; rfl
  have hS : va_S A s.heap H locs := by rw [hH, hlo]; exact va_S.rf
  rw [← hH] at hP
  obtain ⟨Q, hQ⟩ : ∃ q : S_ → Prop, q = (post_X9_begin  ag σ0) := ⟨_, rfl⟩
  rw [← hQ] at hv
  have hinX9 : ∀ w ∈ wsX90, w ∈ wsX9_begin := by decide +kernel
  refine lv_iconst (v := 0) hx hb dX9_begin_0 (by decide) ?_
  refine lv_istore_n (lv' := [(1, .int 0), (0, .ref (ad 0))]) hx hb dX9_begin_1 rfl hl (by decide) rfl (fun ls hl => ?_)
  obtain ⟨n2, hv⟩ := hv
  have lp2 : ∀ (nn2 : Nat) (x1 : Int32) (σ2 : S_) (H : Heap) (locs : List Loc) (ls : Array Slot), vl_X9_begin_2 Q nn2 x1 σ2 → va_P D vwCl (wR cy ad σ2) H → va_D A (wR cy ad σ2) → va_S A s.heap H locs → lv_has ls 2 [(0, .ref (ad 0)), (1, .int x1)] → W p l e R s m ([.ref (ad 0)] : List Value).toArray  below meth c H locs 0 0 Z (F0 m 2 ls []) := by
    intro nn2
    induction nn2 with
    | zero => intro x1 σ2 H locs ls hv; exact absurd hv id
    | succ mm2 ih2 =>
      intro x1 σ2 H locs ls hv hP hD hS hl
      refine lv_iload_n hx hb dX9_begin_2 rfl (lv_at hl 1 rfl) ?_
      refine lv_aload_n hx hb dX9_begin_3 rfl (lv_at hl 0 rfl) ?_
      refine va_get (ci := 9) (v := .int (rdI σ2 1)) (C := RX9) (T := TX9) (N := 38) hx hb hts hinX9 hown hK hP 0 (wR_0 cy ad σ2) rfl 1 (by decide) (hts (.fieldLink RX9 102 "TaleBansModel" "persons" "I") (List.mem_of_getElem? (i := 1) rfl)) (fun x h => h) rfl dX9_begin_4 ?_
      refine lv_icmp_ge (tgt := 28) hx hb dX9_begin_7 (by decide) (fun c15 => ?_) (fun c15 => ?_)
      · have hv := hv.1 c15
        refine lv_iconst (v := 0) hx hb dX9_begin_28 (by decide) ?_
        refine lv_istore_n (lv' := [(1, .int 0), (0, .ref (ad 0))]) hx hb dX9_begin_29 rfl hl (by decide) rfl (fun ls hl => ?_)
        obtain ⟨n30, hv⟩ := hv
        have lp30 : ∀ (nn30 : Nat) (x3 : Int32) (σ4 : S_) (H : Heap) (locs : List Loc) (ls : Array Slot), vl_X9_begin_30 Q nn30 x3 σ4 → va_P D vwCl (wR cy ad σ4) H → va_D A (wR cy ad σ4) → va_S A s.heap H locs → lv_has ls 2 [(0, .ref (ad 0)), (1, .int x3)] → W p l e R s m ([.ref (ad 0)] : List Value).toArray  below meth c H locs 0 0 Z (F0 m 30 ls []) := by
          intro nn30
          induction nn30 with
          | zero => intro x3 σ4 H locs ls hv; exact absurd hv id
          | succ mm30 ih30 =>
            intro x3 σ4 H locs ls hv hP hD hS hl
            refine lv_iload_n hx hb dX9_begin_30 rfl (lv_at hl 1 rfl) ?_
            refine lv_bipush (v := 36) hx hb dX9_begin_31 (by decide) ?_
            refine lv_icmp_ge (tgt := 51) hx hb dX9_begin_33 (by decide) (fun c12 => ?_) (fun c12 => ?_)
            · have hv := hv.1 c12
              refine lv_iconst (v := 0) hx hb dX9_begin_51 (by decide) ?_
              refine lv_istore_n (lv' := [(1, .int 0), (0, .ref (ad 0))]) hx hb dX9_begin_52 rfl hl (by decide) rfl (fun ls hl => ?_)
              obtain ⟨n53, hv⟩ := hv
              have lp53 : ∀ (nn53 : Nat) (x5 : Int32) (σ6 : S_) (H : Heap) (locs : List Loc) (ls : Array Slot), vl_X9_begin_53 Q nn53 x5 σ6 → va_P D vwCl (wR cy ad σ6) H → va_D A (wR cy ad σ6) → va_S A s.heap H locs → lv_has ls 2 [(0, .ref (ad 0)), (1, .int x5)] → W p l e R s m ([.ref (ad 0)] : List Value).toArray  below meth c H locs 0 0 Z (F0 m 53 ls []) := by
                intro nn53
                induction nn53 with
                | zero => intro x5 σ6 H locs ls hv; exact absurd hv id
                | succ mm53 ih53 =>
                  intro x5 σ6 H locs ls hv hP hD hS hl
                  refine lv_iload_n hx hb dX9_begin_53 rfl (lv_at hl 1 rfl) ?_
                  refine lv_bipush (v := 18) hx hb dX9_begin_54 (by decide) ?_
                  refine lv_icmp_ge (tgt := 74) hx hb dX9_begin_56 (by decide) (fun c9 => ?_) (fun c9 => ?_)
                  · have hv := hv.1 c9
                    rw [hZ]; rw [hQ] at hv
                    exact W.vret hx hb hr (fun t ht hW => ⟨⟨σ6, rfl, hv, ⟨P_of ht hP, hD⟩⟩, hS.F ht⟩) hS.2.2 dX9_begin_74
                  · have hv := hv.2 c9
                    refine lv_aload_n hx hb dX9_begin_59 rfl (lv_at hl 0 rfl) ?_
                    refine va_get (ci := 9) (v := .ref (ad (16))) (C := RX9) (T := TX9) (N := 38) hx hb hts hinX9 hown hK hP 0 (wR_0 cy ad σ6) rfl 23 (by decide) (hts (.fieldLink RX9 56 "TaleBansModel" "toldIn" "[I") (List.mem_of_getElem? (i := 5) rfl)) (fun x h => h) rfl dX9_begin_60 ?_
                    refine lv_iload_n hx hb dX9_begin_63 rfl (lv_at hl 1 rfl) ?_
                    refine lv_sipush (v := (-999)) hx hb dX9_begin_64 (by decide) ?_
                    obtain ⟨hi, hv⟩ := hv
                    refine va_iast hx hb hK hP hD hS 16 0 (wR_16 cy ad σ6) rfl hi dX9_begin_67 (fun H locs hP hD hS => ?_)
                    obtain ⟨σ7, e8⟩ : ∃ y : S_, y = wr2 σ6 16 (Int32.toNatClampNeg x5) (-999) := ⟨_, rfl⟩
                    have hP : va_P D vwCl (wR cy ad σ7) H := by rw [e8]; exact hP
                    have hD : va_D A (wR cy ad σ7) := by rw [e8]; exact hD
                    have hv := hv σ7 e8
                    refine lv_iinc (v := (x5 + 1)) (lv' := [(1, .int (x5 + 1)), (0, .ref (ad 0))]) hx hb dX9_begin_68 hl (k := 1) rfl rfl (by decide) rfl (fun ls hl => ?_)
                    refine lv_goto (tgt := 53) hx hb dX9_begin_71 (by decide) ?_
                    exact ih53 (x5 + 1) σ7 _ _ _ hv hP hD hS (lv_sub hl [1, 0] rfl)
              exact lp53 n53 0 σ4 _ _ _ hv hP hD hS (lv_sub hl [1, 0] rfl)
            · have hv := hv.2 c12
              refine lv_aload_n hx hb dX9_begin_36 rfl (lv_at hl 0 rfl) ?_
              refine va_get (ci := 9) (v := .ref (ad (15))) (C := RX9) (T := TX9) (N := 38) hx hb hts hinX9 hown hK hP 0 (wR_0 cy ad σ4) rfl 22 (by decide) (hts (.fieldLink RX9 53 "TaleBansModel" "heardIn" "[I") (List.mem_of_getElem? (i := 4) rfl)) (fun x h => h) rfl dX9_begin_37 ?_
              refine lv_iload_n hx hb dX9_begin_40 rfl (lv_at hl 1 rfl) ?_
              refine lv_sipush (v := (-999)) hx hb dX9_begin_41 (by decide) ?_
              obtain ⟨hi, hv⟩ := hv
              refine va_iast hx hb hK hP hD hS 15 0 (wR_15 cy ad σ4) rfl hi dX9_begin_44 (fun H locs hP hD hS => ?_)
              obtain ⟨σ10, e11⟩ : ∃ y : S_, y = wr2 σ4 15 (Int32.toNatClampNeg x3) (-999) := ⟨_, rfl⟩
              have hP : va_P D vwCl (wR cy ad σ10) H := by rw [e11]; exact hP
              have hD : va_D A (wR cy ad σ10) := by rw [e11]; exact hD
              have hv := hv σ10 e11
              refine lv_iinc (v := (x3 + 1)) (lv' := [(1, .int (x3 + 1)), (0, .ref (ad 0))]) hx hb dX9_begin_45 hl (k := 1) rfl rfl (by decide) rfl (fun ls hl => ?_)
              refine lv_goto (tgt := 30) hx hb dX9_begin_48 (by decide) ?_
              exact ih30 (x3 + 1) σ10 _ _ _ hv hP hD hS (lv_sub hl [1, 0] rfl)
        exact lp30 n30 0 σ2 _ _ _ hv hP hD hS (lv_sub hl [1, 0] rfl)
      · have hv := hv.2 c15
        refine lv_aload_n hx hb dX9_begin_10 rfl (lv_at hl 0 rfl) ?_
        refine va_get (ci := 9) (v := .ref (ad (14))) (C := RX9) (T := TX9) (N := 38) hx hb hts hinX9 hown hK hP 0 (wR_0 cy ad σ2) rfl 21 (by decide) (hts (.fieldLink RX9 50 "TaleBansModel" "isAt" "[I") (List.mem_of_getElem? (i := 2) rfl)) (fun x h => h) rfl dX9_begin_11 ?_
        refine lv_iload_n hx hb dX9_begin_14 rfl (lv_at hl 1 rfl) ?_
        refine lv_aload_n hx hb dX9_begin_15 rfl (lv_at hl 0 rfl) ?_
        refine va_get (ci := 9) (v := .ref (ad (3))) (C := RX9) (T := TX9) (N := 38) hx hb hts hinX9 hown hK hP 0 (wR_0 cy ad σ2) rfl 4 (by decide) (hts (.fieldLink RX9 16 "TaleBansModel" "hearthOf" "[I") (List.mem_of_getElem? (i := 3) rfl)) (fun x h => h) rfl dX9_begin_16 ?_
        refine lv_iload_n hx hb dX9_begin_19 rfl (lv_at hl 1 rfl) ?_
        obtain ⟨hi, hv⟩ := hv
        refine va_iald hx hb hK hP 3 0 (wR_3 cy ad σ2) rfl hi dX9_begin_20 ?_
        obtain ⟨hi, hv⟩ := hv
        refine va_iast hx hb hK hP hD hS 14 0 (wR_14 cy ad σ2) rfl hi dX9_begin_21 (fun H locs hP hD hS => ?_)
        obtain ⟨σ13, e14⟩ : ∃ y : S_, y = wr2 σ2 14 (Int32.toNatClampNeg x1) (rdA σ2 3 (Int32.toNatClampNeg x1)) := ⟨_, rfl⟩
        have hP : va_P D vwCl (wR cy ad σ13) H := by rw [e14]; exact hP
        have hD : va_D A (wR cy ad σ13) := by rw [e14]; exact hD
        have hv := hv σ13 e14
        refine lv_iinc (v := (x1 + 1)) (lv' := [(1, .int (x1 + 1)), (0, .ref (ad 0))]) hx hb dX9_begin_22 hl (k := 1) rfl rfl (by decide) rfl (fun ls hl => ?_)
        refine lv_goto (tgt := 2) hx hb dX9_begin_25 (by decide) ?_
        exact ih2 (x1 + 1) σ13 _ _ _ hv hP hD hS (lv_sub hl [1, 0] rfl)
  exact lp2 n2 0 σ0 _ _ _ hv hP hD hS (lv_sub hl [1, 0] rfl)
set_option maxHeartbeats 4000000 in
set_option maxRecDepth 100000 in
theorem wk_X9_doesRemember (l : Launch) (h_X9_memoryOf : Ct_X9_memoryOf l) (sp : ∀ (p_ : Int32) (t_ : Int32) (season_ : Int32) (ag : AS) (rg : RS) (Sg : Nat) (p1g : Nat) (t1g : Nat) (σ0 : S_), pre_X9_doesRemember p_ t_ season_ ag rg Sg p1g t1g σ0 → vc_X9_doesRemember p_ t_ season_ σ0 (fun r => post_X9_doesRemember p_ t_ season_ ag rg Sg p1g t1g σ0 r)) : Ct_X9_doesRemember l := by
  intro D cy ad A p_ t_ season_ ag rg Sg p1g t1g σ0  hpre
  refine Met.ofW (cc := cX9_doesRemember) (maxL := 4) (ret := (some .boolean)) (by decide) rfl ?_
  intro p e s m args below meth c s₁ B hml hv0
  obtain ⟨rfl, hP, hK, hD, hN⟩ := hv0
  have hx := B.exec
  have hb := B.bytes
  have hr := B.returns
  have hts := atoms_spec (ws := wsX9_doesRemember) B.pre
  have hown : s.vm.findClass RX9 = some m.cls := findClass_of_methodNamed B.named
  have hlocks := B.notSynchronized
  have hv := sp p_ t_ season_ ag rg Sg p1g t1g σ0 hpre
  have hl := lv_entry ([.ref (ad 0), .int p_, .int t_, .int season_]) (n := 4) (Nat.le_of_ble_eq_true rfl)
  rw [lg_entry_eq]
  generalize (lg_sl ([.ref (ad 0), .int p_, .int t_, .int season_]) ++ List.replicate (4 - (lg_sl ([.ref (ad 0), .int p_, .int t_, .int season_])).length) Slot.unset).toArray = ls at hl ⊢
  have hl : lv_has ls 4 [(0, .ref (ad 0)), (1, .int p_), (2, .int t_), (3, .int season_)] := hl
  refine W_gen (fun R Z H locs hR hZ hH hlo => ?_)
  have hRf : R.frames = 1 := by rw [hR]; rfl
  have hRl : R.locals = 22 := by rw [hR]; rfl
  have hRc : R.cells = 0 := by rw [hR]; rfl
  have hRs : R.slots = 0 := by rw [hR]; rfl
  have hS : va_S A s.heap H locs := by rw [hH, hlo]; exact va_S.rf
  rw [← hH] at hP
  obtain ⟨Q, hQ⟩ : ∃ q : Int32 → Prop, q = (fun r => post_X9_doesRemember p_ t_ season_ ag rg Sg p1g t1g σ0 r) := ⟨_, rfl⟩
  rw [← hQ] at hv
  have hinX9 : ∀ w ∈ wsX90, w ∈ wsX9_doesRemember := by decide +kernel
  refine lv_iload_n hx hb dX9_doesRemember_0 rfl (lv_at hl 3 rfl) ?_
  refine lv_aload_n hx hb dX9_doesRemember_1 rfl (lv_at hl 0 rfl) ?_
  refine va_get (ci := 9) (v := .ref (ad (15))) (C := RX9) (T := TX9) (N := 38) hx hb hts hinX9 hown hK hP 0 (wR_0 cy ad σ0) rfl 22 (by decide) (hts (.fieldLink RX9 53 "TaleBansModel" "heardIn" "[I") (List.mem_of_getElem? (i := 1) rfl)) (fun x h => h) rfl dX9_doesRemember_2 ?_
  refine lv_bipush (v := 6) hx hb dX9_doesRemember_5 (by decide) ?_
  refine lv_iload_n hx hb dX9_doesRemember_7 rfl (lv_at hl 1 rfl) ?_
  refine lv_imul hx hb dX9_doesRemember_8 ?_
  refine lv_iload_n hx hb dX9_doesRemember_9 rfl (lv_at hl 2 rfl) ?_
  refine lv_iadd hx hb dX9_doesRemember_10 ?_
  obtain ⟨hi, hv⟩ := hv
  refine va_iald hx hb hK hP 15 0 (wR_15 cy ad σ0) rfl hi dX9_doesRemember_11 ?_
  refine lv_isub hx hb dX9_doesRemember_12 ?_
  refine lv_aload_n hx hb dX9_doesRemember_13 rfl (lv_at hl 0 rfl) ?_
  refine lv_iload_n hx hb dX9_doesRemember_14 rfl (lv_at hl 1 rfl) ?_
  obtain ⟨g1, g2, hv⟩ := hv
  obtain ⟨hp, hv⟩ := hv
  refine k_read_i (w := wR cy ad) (va_runV (As := [.int p_]) (rest := [.int (season_ - (rdA σ0 15 (Int32.toNatClampNeg ((6 * p_) + t_))))]) ⟨hx, hb, hml, hown, hts⟩ (h_X9_memoryOf D cy ad A p_ g1 g2 σ0 hp) (cwV 1 hts gX9_doesRemember_X9_memoryOf rfl rfl rfl (by decide +kernel) ⟨le_R hRf (Nat.le_of_ble_eq_true rfl), le_R hRl (Nat.le_of_ble_eq_true rfl)⟩) ⟨(fun a U g mk q => ⟨q.1, q.2.blind⟩), va_recv hK hP (ci := 9) (q0 := 0) rfl (wR_0 cy ad σ0), (fun U hU hW => ⟨rfl, WdR.pre hP hK hD hN hU hW⟩)⟩ rfl rfl hl.1 rfl (lv_room (Nat.le_of_ble_eq_true rfl)) dX9_doesRemember_15 ⟨le_R hRc (Nat.le_refl 0), le_R hRs (Nat.le_refl 0)⟩) hS (fun r3 H locs hr1 hP hS => ?_)
  have hv := hv r3 hr1
  refine lv_icmp_gt (tgt := 25) hx hb dX9_doesRemember_18 (by decide) (fun c4 => ?_) (fun c4 => ?_)
  · have hv := hv.1 c4
    refine lv_iconst (v := 0) hx hb dX9_doesRemember_25 (by decide) ?_
    rw [hZ]; rw [hQ] at hv
    exact W.zret (v := 0) hx hb hr rfl (fun t ht hW => ⟨⟨0, (), rfl, hv, (P_of ht hP)⟩, hS.F ht⟩) hS.2.2 dX9_doesRemember_26
  · have hv := hv.2 c4
    refine lv_iconst (v := 1) hx hb dX9_doesRemember_21 (by decide) ?_
    refine lv_goto (tgt := 26) hx hb dX9_doesRemember_22 (by decide) ?_
    rw [hZ]; rw [hQ] at hv
    exact W.zret (v := 1) hx hb hr rfl (fun t ht hW => ⟨⟨1, (), rfl, hv, (P_of ht hP)⟩, hS.F ht⟩) hS.2.2 dX9_doesRemember_26
set_option maxHeartbeats 4000000 in
set_option maxRecDepth 100000 in
theorem wk_X9_isAlive (l : Launch) (h_X9_doesRemember : Ct_X9_doesRemember l) (sp : ∀ (t_ : Int32) (season_ : Int32) (ag : AS) (rg : RS) (Sg : Nat) (t1g : Nat) (σ0 : S_), pre_X9_isAlive t_ season_ ag rg Sg t1g σ0 → vc_X9_isAlive t_ season_ σ0 (fun r => post_X9_isAlive t_ season_ ag rg Sg t1g σ0 r)) : Ct_X9_isAlive l := by
  intro D cy ad A t_ season_ ag rg Sg t1g σ0  hpre
  refine Met.ofW (cc := cX9_isAlive) (maxL := 5) (ret := (some .boolean)) (by decide) rfl ?_
  intro p e s m args below meth c s₁ B hml hv0
  obtain ⟨rfl, hP, hK, hD, hN⟩ := hv0
  have hx := B.exec
  have hb := B.bytes
  have hr := B.returns
  have hts := atoms_spec (ws := wsX9_isAlive) B.pre
  have hown : s.vm.findClass RX9 = some m.cls := findClass_of_methodNamed B.named
  have hlocks := B.notSynchronized
  have hv := sp t_ season_ ag rg Sg t1g σ0 hpre
  have hl := lv_entry ([.ref (ad 0), .int t_, .int season_]) (n := 5) (Nat.le_of_ble_eq_true rfl)
  rw [lg_entry_eq]
  generalize (lg_sl ([.ref (ad 0), .int t_, .int season_]) ++ List.replicate (5 - (lg_sl ([.ref (ad 0), .int t_, .int season_])).length) Slot.unset).toArray = ls at hl ⊢
  have hl : lv_has ls 5 [(0, .ref (ad 0)), (1, .int t_), (2, .int season_)] := hl
  refine W_gen (fun R Z H locs hR hZ hH hlo => ?_)
  have hRf : R.frames = 2 := by rw [hR]; rfl
  have hRl : R.locals = 45 := by rw [hR]; rfl
  have hRc : R.cells = 0 := by rw [hR]; rfl
  have hRs : R.slots = 0 := by rw [hR]; rfl
  have hS : va_S A s.heap H locs := by rw [hH, hlo]; exact va_S.rf
  rw [← hH] at hP
  obtain ⟨Q, hQ⟩ : ∃ q : Int32 → Prop, q = (fun r => post_X9_isAlive t_ season_ ag rg Sg t1g σ0 r) := ⟨_, rfl⟩
  rw [← hQ] at hv
  have hinX9 : ∀ w ∈ wsX90, w ∈ wsX9_isAlive := by decide +kernel
  refine lv_iconst (v := 0) hx hb dX9_isAlive_0 (by decide) ?_
  refine lv_istore_n (lv' := [(3, .int 0), (0, .ref (ad 0)), (1, .int t_), (2, .int season_)]) hx hb dX9_isAlive_1 rfl hl (by decide) rfl (fun ls hl => ?_)
  refine lv_iconst (v := 0) hx hb dX9_isAlive_2 (by decide) ?_
  refine lv_istore (lv' := [(4, .int 0), (3, .int 0), (0, .ref (ad 0)), (1, .int t_), (2, .int season_)]) hx hb dX9_isAlive_3 hl (by decide) rfl (fun ls hl => ?_)
  obtain ⟨n5, hv⟩ := hv
  have lp5 : ∀ (nn5 : Nat) (x1 : Int32) (x2 : Int32) (H : Heap) (locs : List Loc) (ls : Array Slot), vl_X9_isAlive_5 t_ season_ σ0 Q nn5 x1 x2 → va_P D vwCl (wR cy ad σ0) H → va_D A (wR cy ad σ0) → va_S A s.heap H locs → lv_has ls 5 [(0, .ref (ad 0)), (1, .int t_), (2, .int season_), (3, .int x1), (4, .int x2)] → W p l e R s m ([.ref (ad 0), .int t_, .int season_] : List Value).toArray  below meth c H locs 0 0 Z (F0 m 5 ls []) := by
    intro nn5
    induction nn5 with
    | zero => intro x1 x2 H locs ls hv; exact absurd hv id
    | succ mm5 ih5 =>
      intro x1 x2 H locs ls hv hP hD hS hl
      refine lv_iload hx hb dX9_isAlive_5 (lv_at hl 4 rfl) ?_
      refine lv_aload_n hx hb dX9_isAlive_7 rfl (lv_at hl 0 rfl) ?_
      refine va_get (ci := 9) (v := .int (rdI σ0 1)) (C := RX9) (T := TX9) (N := 38) hx hb hts hinX9 hown hK hP 0 (wR_0 cy ad σ0) rfl 1 (by decide) (hts (.fieldLink RX9 102 "TaleBansModel" "persons" "I") (List.mem_of_getElem? (i := 1) rfl)) (fun x h => h) rfl dX9_isAlive_8 ?_
      refine lv_icmp_ge (tgt := 41) hx hb dX9_isAlive_11 (by decide) (fun c14 => ?_) (fun c14 => ?_)
      · have hv := hv.1 c14
        refine lv_iload_n hx hb dX9_isAlive_41 rfl (lv_at hl 3 rfl) ?_
        obtain ⟨h01, hv⟩ := hv
        rw [hZ]; rw [hQ] at hv
        exact W.zret (v := x1) hx hb hr (nar_b h01) (fun t ht hW => ⟨⟨x1, (), rfl, hv, (P_of ht hP)⟩, hS.F ht⟩) hS.2.2 dX9_isAlive_42
      · have hv := hv.2 c14
        refine lv_iload_n hx hb dX9_isAlive_14 rfl (lv_at hl 3 rfl) ?_
        obtain ⟨P3, hv, hvr⟩ := hv
        have jn4 : ∀ (b5 : Int32) (H : Heap) (locs : List Loc) (ls : Array Slot), P3 b5 → va_P D vwCl (wR cy ad σ0) H → va_S A s.heap H locs → lv_has ls 5 [(0, .ref (ad 0)), (1, .int t_), (2, .int season_), (3, .int x1), (4, .int x2)] → W p l e R s m ([.ref (ad 0), .int t_, .int season_] : List Value).toArray below meth c H locs 0 0 Z (F0 m 34 ls [.int b5]) := by
          intro b5 H locs ls hv hP hS hl
          have hv := hvr b5 hv
          refine lv_istore_n (lv' := [(3, .int b5), (0, .ref (ad 0)), (1, .int t_), (2, .int season_), (4, .int x2)]) hx hb dX9_isAlive_34 rfl hl (by decide) rfl (fun ls hl => ?_)
          refine lv_iinc (v := (x2 + 1)) (lv' := [(4, .int (x2 + 1)), (3, .int b5), (0, .ref (ad 0)), (1, .int t_), (2, .int season_)]) hx hb dX9_isAlive_35 hl (k := 4) rfl rfl (by decide) rfl (fun ls hl => ?_)
          refine lv_goto (tgt := 5) hx hb dX9_isAlive_38 (by decide) ?_
          exact ih5 b5 (x2 + 1) _ _ _ hv hP hD hS (lv_sub hl [2, 3, 4, 1, 0] rfl)
        refine lv_if_ne (tgt := 29) hx hb dX9_isAlive_15 (by decide) (fun c13 => ?_) (fun c13 => ?_)
        · have hv := hv.1 c13
          refine lv_iconst (v := 1) hx hb dX9_isAlive_29 (by decide) ?_
          refine lv_goto (tgt := 34) hx hb dX9_isAlive_30 (by decide) ?_
          exact jn4 1 _ _ _ hv hP hS hl
        · have hv := hv.2 c13
          refine lv_aload_n hx hb dX9_isAlive_18 rfl (lv_at hl 0 rfl) ?_
          refine lv_iload hx hb dX9_isAlive_19 (lv_at hl 4 rfl) ?_
          refine lv_iload_n hx hb dX9_isAlive_21 rfl (lv_at hl 1 rfl) ?_
          refine lv_iload_n hx hb dX9_isAlive_22 rfl (lv_at hl 2 rfl) ?_
          obtain ⟨g6, g7, g8, g9, g10, hv⟩ := hv
          obtain ⟨hp, hv⟩ := hv
          refine k_read_i (w := wR cy ad) (va_runV (As := [.int x2, .int t_, .int season_]) (rest := []) ⟨hx, hb, hml, hown, hts⟩ (h_X9_doesRemember D cy ad A x2 t_ season_ g6 g7 g8 g9 g10 σ0 hp) (cwV 3 hts gX9_isAlive_X9_doesRemember rfl rfl rfl (by decide +kernel) ⟨le_R hRf (Nat.le_of_ble_eq_true rfl), le_R hRl (Nat.le_of_ble_eq_true rfl)⟩) ⟨(fun a U g mk q => ⟨q.1, q.2.blind⟩), va_recv hK hP (ci := 9) (q0 := 0) rfl (wR_0 cy ad σ0), (fun U hU hW => ⟨rfl, WdR.pre hP hK hD hN hU hW⟩)⟩ rfl rfl hl.1 rfl (lv_room (Nat.le_of_ble_eq_true rfl)) dX9_isAlive_23 ⟨le_R hRc (Nat.le_refl 0), le_R hRs (Nat.le_refl 0)⟩) hS (fun r11 H locs hr1 hP hS => ?_)
          have hv := hv r11 hr1
          refine lv_if_eq (tgt := 33) hx hb dX9_isAlive_26 (by decide) (fun c12 => ?_) (fun c12 => ?_)
          · have hv := hv.1 c12
            refine lv_iconst (v := 0) hx hb dX9_isAlive_33 (by decide) ?_
            exact jn4 0 _ _ _ hv hP hS hl
          · have hv := hv.2 c12
            refine lv_iconst (v := 1) hx hb dX9_isAlive_29 (by decide) ?_
            refine lv_goto (tgt := 34) hx hb dX9_isAlive_30 (by decide) ?_
            exact jn4 1 _ _ _ hv hP hS hl
  exact lp5 n5 0 0 _ _ _ hv hP hD hS (lv_sub hl [2, 3, 4, 1, 0] rfl)
set_option maxHeartbeats 4000000 in
set_option maxRecDepth 100000 in
theorem wk_X9_isKnownAt (l : Launch) (h_X9_doesRemember : Ct_X9_doesRemember l) (sp : ∀ (h_ : Int32) (t_ : Int32) (season_ : Int32) (ag : AS) (rg : RS) (Sg : Nat) (h1g : Nat) (t1g : Nat) (σ0 : S_), pre_X9_isKnownAt h_ t_ season_ ag rg Sg h1g t1g σ0 → vc_X9_isKnownAt h_ t_ season_ σ0 (fun r => post_X9_isKnownAt h_ t_ season_ ag rg Sg h1g t1g σ0 r)) : Ct_X9_isKnownAt l := by
  intro D cy ad A h_ t_ season_ ag rg Sg h1g t1g σ0  hpre
  refine Met.ofW (cc := cX9_isKnownAt) (maxL := 6) (ret := (some .boolean)) (by decide) rfl ?_
  intro p e s m args below meth c s₁ B hml hv0
  obtain ⟨rfl, hP, hK, hD, hN⟩ := hv0
  have hx := B.exec
  have hb := B.bytes
  have hr := B.returns
  have hts := atoms_spec (ws := wsX9_isKnownAt) B.pre
  have hown : s.vm.findClass RX9 = some m.cls := findClass_of_methodNamed B.named
  have hlocks := B.notSynchronized
  have hv := sp h_ t_ season_ ag rg Sg h1g t1g σ0 hpre
  have hl := lv_entry ([.ref (ad 0), .int h_, .int t_, .int season_]) (n := 6) (Nat.le_of_ble_eq_true rfl)
  rw [lg_entry_eq]
  generalize (lg_sl ([.ref (ad 0), .int h_, .int t_, .int season_]) ++ List.replicate (6 - (lg_sl ([.ref (ad 0), .int h_, .int t_, .int season_])).length) Slot.unset).toArray = ls at hl ⊢
  have hl : lv_has ls 6 [(0, .ref (ad 0)), (1, .int h_), (2, .int t_), (3, .int season_)] := hl
  refine W_gen (fun R Z H locs hR hZ hH hlo => ?_)
  have hRf : R.frames = 2 := by rw [hR]; rfl
  have hRl : R.locals = 45 := by rw [hR]; rfl
  have hRc : R.cells = 0 := by rw [hR]; rfl
  have hRs : R.slots = 0 := by rw [hR]; rfl
  have hS : va_S A s.heap H locs := by rw [hH, hlo]; exact va_S.rf
  rw [← hH] at hP
  obtain ⟨Q, hQ⟩ : ∃ q : Int32 → Prop, q = (fun r => post_X9_isKnownAt h_ t_ season_ ag rg Sg h1g t1g σ0 r) := ⟨_, rfl⟩
  rw [← hQ] at hv
  have hinX9 : ∀ w ∈ wsX90, w ∈ wsX9_isKnownAt := by decide +kernel
  refine lv_iconst (v := 0) hx hb dX9_isKnownAt_0 (by decide) ?_
  refine lv_istore (lv' := [(4, .int 0), (0, .ref (ad 0)), (1, .int h_), (2, .int t_), (3, .int season_)]) hx hb dX9_isKnownAt_1 hl (by decide) rfl (fun ls hl => ?_)
  refine lv_iconst (v := 0) hx hb dX9_isKnownAt_3 (by decide) ?_
  refine lv_istore (lv' := [(5, .int 0), (4, .int 0), (0, .ref (ad 0)), (1, .int h_), (2, .int t_), (3, .int season_)]) hx hb dX9_isKnownAt_4 hl (by decide) rfl (fun ls hl => ?_)
  obtain ⟨n6, hv⟩ := hv
  have lp6 : ∀ (nn6 : Nat) (x1 : Int32) (x2 : Int32) (H : Heap) (locs : List Loc) (ls : Array Slot), vl_X9_isKnownAt_6 h_ t_ season_ σ0 Q nn6 x1 x2 → va_P D vwCl (wR cy ad σ0) H → va_D A (wR cy ad σ0) → va_S A s.heap H locs → lv_has ls 6 [(0, .ref (ad 0)), (1, .int h_), (2, .int t_), (3, .int season_), (4, .int x1), (5, .int x2)] → W p l e R s m ([.ref (ad 0), .int h_, .int t_, .int season_] : List Value).toArray  below meth c H locs 0 0 Z (F0 m 6 ls []) := by
    intro nn6
    induction nn6 with
    | zero => intro x1 x2 H locs ls hv; exact absurd hv id
    | succ mm6 ih6 =>
      intro x1 x2 H locs ls hv hP hD hS hl
      refine lv_iload hx hb dX9_isKnownAt_6 (lv_at hl 5 rfl) ?_
      refine lv_aload_n hx hb dX9_isKnownAt_8 rfl (lv_at hl 0 rfl) ?_
      refine va_get (ci := 9) (v := .int (rdI σ0 1)) (C := RX9) (T := TX9) (N := 38) hx hb hts hinX9 hown hK hP 0 (wR_0 cy ad σ0) rfl 1 (by decide) (hts (.fieldLink RX9 102 "TaleBansModel" "persons" "I") (List.mem_of_getElem? (i := 1) rfl)) (fun x h => h) rfl dX9_isKnownAt_9 ?_
      refine lv_icmp_ge (tgt := 55) hx hb dX9_isKnownAt_12 (by decide) (fun c15 => ?_) (fun c15 => ?_)
      · have hv := hv.1 c15
        refine lv_iload hx hb dX9_isKnownAt_55 (lv_at hl 4 rfl) ?_
        obtain ⟨h01, hv⟩ := hv
        rw [hZ]; rw [hQ] at hv
        exact W.zret (v := x1) hx hb hr (nar_b h01) (fun t ht hW => ⟨⟨x1, (), rfl, hv, (P_of ht hP)⟩, hS.F ht⟩) hS.2.2 dX9_isKnownAt_57
      · have hv := hv.2 c15
        refine lv_iload hx hb dX9_isKnownAt_15 (lv_at hl 4 rfl) ?_
        obtain ⟨P3, hv, hvr⟩ := hv
        have jn4 : ∀ (b5 : Int32) (H : Heap) (locs : List Loc) (ls : Array Slot), P3 b5 → va_P D vwCl (wR cy ad σ0) H → va_S A s.heap H locs → lv_has ls 6 [(0, .ref (ad 0)), (1, .int h_), (2, .int t_), (3, .int season_), (4, .int x1), (5, .int x2)] → W p l e R s m ([.ref (ad 0), .int h_, .int t_, .int season_] : List Value).toArray below meth c H locs 0 0 Z (F0 m 47 ls [.int b5]) := by
          intro b5 H locs ls hv hP hS hl
          have hv := hvr b5 hv
          refine lv_istore (lv' := [(4, .int b5), (0, .ref (ad 0)), (1, .int h_), (2, .int t_), (3, .int season_), (5, .int x2)]) hx hb dX9_isKnownAt_47 hl (by decide) rfl (fun ls hl => ?_)
          refine lv_iinc (v := (x2 + 1)) (lv' := [(5, .int (x2 + 1)), (4, .int b5), (0, .ref (ad 0)), (1, .int h_), (2, .int t_), (3, .int season_)]) hx hb dX9_isKnownAt_49 hl (k := 5) rfl rfl (by decide) rfl (fun ls hl => ?_)
          refine lv_goto (tgt := 6) hx hb dX9_isKnownAt_52 (by decide) ?_
          exact ih6 b5 (x2 + 1) _ _ _ hv hP hD hS (lv_sub hl [2, 3, 4, 5, 1, 0] rfl)
        refine lv_if_ne (tgt := 42) hx hb dX9_isKnownAt_17 (by decide) (fun c14 => ?_) (fun c14 => ?_)
        · have hv := hv.1 c14
          refine lv_iconst (v := 1) hx hb dX9_isKnownAt_42 (by decide) ?_
          refine lv_goto (tgt := 47) hx hb dX9_isKnownAt_43 (by decide) ?_
          exact jn4 1 _ _ _ hv hP hS hl
        · have hv := hv.2 c14
          refine lv_aload_n hx hb dX9_isKnownAt_20 rfl (lv_at hl 0 rfl) ?_
          refine va_get (ci := 9) (v := .ref (ad (14))) (C := RX9) (T := TX9) (N := 38) hx hb hts hinX9 hown hK hP 0 (wR_0 cy ad σ0) rfl 21 (by decide) (hts (.fieldLink RX9 50 "TaleBansModel" "isAt" "[I") (List.mem_of_getElem? (i := 2) rfl)) (fun x h => h) rfl dX9_isKnownAt_21 ?_
          refine lv_iload hx hb dX9_isKnownAt_24 (lv_at hl 5 rfl) ?_
          obtain ⟨hi, hv⟩ := hv
          refine va_iald hx hb hK hP 14 0 (wR_14 cy ad σ0) rfl hi dX9_isKnownAt_26 ?_
          refine lv_iload_n hx hb dX9_isKnownAt_27 rfl (lv_at hl 1 rfl) ?_
          refine lv_icmp_ne (tgt := 46) hx hb dX9_isKnownAt_28 (by decide) (fun c13 => ?_) (fun c13 => ?_)
          · have hv := hv.1 c13
            refine lv_iconst (v := 0) hx hb dX9_isKnownAt_46 (by decide) ?_
            exact jn4 0 _ _ _ hv hP hS hl
          · have hv := hv.2 c13
            refine lv_aload_n hx hb dX9_isKnownAt_31 rfl (lv_at hl 0 rfl) ?_
            refine lv_iload hx hb dX9_isKnownAt_32 (lv_at hl 5 rfl) ?_
            refine lv_iload_n hx hb dX9_isKnownAt_34 rfl (lv_at hl 2 rfl) ?_
            refine lv_iload_n hx hb dX9_isKnownAt_35 rfl (lv_at hl 3 rfl) ?_
            obtain ⟨g6, g7, g8, g9, g10, hv⟩ := hv
            obtain ⟨hp, hv⟩ := hv
            refine k_read_i (w := wR cy ad) (va_runV (As := [.int x2, .int t_, .int season_]) (rest := []) ⟨hx, hb, hml, hown, hts⟩ (h_X9_doesRemember D cy ad A x2 t_ season_ g6 g7 g8 g9 g10 σ0 hp) (cwV 3 hts gX9_isKnownAt_X9_doesRemember rfl rfl rfl (by decide +kernel) ⟨le_R hRf (Nat.le_of_ble_eq_true rfl), le_R hRl (Nat.le_of_ble_eq_true rfl)⟩) ⟨(fun a U g mk q => ⟨q.1, q.2.blind⟩), va_recv hK hP (ci := 9) (q0 := 0) rfl (wR_0 cy ad σ0), (fun U hU hW => ⟨rfl, WdR.pre hP hK hD hN hU hW⟩)⟩ rfl rfl hl.1 rfl (lv_room (Nat.le_of_ble_eq_true rfl)) dX9_isKnownAt_36 ⟨le_R hRc (Nat.le_refl 0), le_R hRs (Nat.le_refl 0)⟩) hS (fun r11 H locs hr1 hP hS => ?_)
            have hv := hv r11 hr1
            refine lv_if_eq (tgt := 46) hx hb dX9_isKnownAt_39 (by decide) (fun c12 => ?_) (fun c12 => ?_)
            · have hv := hv.1 c12
              refine lv_iconst (v := 0) hx hb dX9_isKnownAt_46 (by decide) ?_
              exact jn4 0 _ _ _ hv hP hS hl
            · have hv := hv.2 c12
              refine lv_iconst (v := 1) hx hb dX9_isKnownAt_42 (by decide) ?_
              refine lv_goto (tgt := 47) hx hb dX9_isKnownAt_43 (by decide) ?_
              exact jn4 1 _ _ _ hv hP hS hl
  exact lp6 n6 0 0 _ _ _ hv hP hD hS (lv_sub hl [2, 3, 4, 5, 1, 0] rfl)
set_option maxHeartbeats 4000000 in
set_option maxRecDepth 100000 in
theorem wk_X9_isRather (l : Launch) (sp : ∀ (h_ : Int32) (t_ : Int32) (b_ : Int32) (ag : AS) (rg : RS) (Sg : Nat) (h1g : Nat) (t1g : Nat) (b1g : Nat) (σ0 : S_), pre_X9_isRather h_ t_ b_ ag rg Sg h1g t1g b1g σ0 → vc_X9_isRather h_ t_ b_ σ0 (fun r => post_X9_isRather h_ t_ b_ ag rg Sg h1g t1g b1g σ0 r)) : Ct_X9_isRather l := by
  intro D cy ad A h_ t_ b_ ag rg Sg h1g t1g b1g σ0  hpre
  refine Met.ofW (cc := cX9_isRather) (maxL := 5) (ret := (some .boolean)) (by decide) rfl ?_
  intro p e s m args below meth c s₁ B hml hv0
  obtain ⟨rfl, hP, hK, hD, hN⟩ := hv0
  have hx := B.exec
  have hb := B.bytes
  have hr := B.returns
  have hts := atoms_spec (ws := wsX9_isRather) B.pre
  have hown : s.vm.findClass RX9 = some m.cls := findClass_of_methodNamed B.named
  have hlocks := B.notSynchronized
  have hv := sp h_ t_ b_ ag rg Sg h1g t1g b1g σ0 hpre
  have hl := lv_entry ([.ref (ad 0), .int h_, .int t_, .int b_]) (n := 5) (Nat.le_of_ble_eq_true rfl)
  rw [lg_entry_eq]
  generalize (lg_sl ([.ref (ad 0), .int h_, .int t_, .int b_]) ++ List.replicate (5 - (lg_sl ([.ref (ad 0), .int h_, .int t_, .int b_])).length) Slot.unset).toArray = ls at hl ⊢
  have hl : lv_has ls 5 [(0, .ref (ad 0)), (1, .int h_), (2, .int t_), (3, .int b_)] := hl
  refine W_gen (fun R Z H locs hR hZ hH hlo => ?_)
  have hRf : R.frames = 0 := by rw [hR]; rfl
  have hRl : R.locals = 0 := by rw [hR]; rfl
  have hRc : R.cells = 0 := by rw [hR]; rfl
  have hRs : R.slots = 0 := by rw [hR]; rfl
  have hS : va_S A s.heap H locs := by rw [hH, hlo]; exact va_S.rf
  rw [← hH] at hP
  obtain ⟨Q, hQ⟩ : ∃ q : Int32 → Prop, q = (fun r => post_X9_isRather h_ t_ b_ ag rg Sg h1g t1g b1g σ0 r) := ⟨_, rfl⟩
  rw [← hQ] at hv
  have hinX9 : ∀ w ∈ wsX90, w ∈ wsX9_isRather := by decide +kernel
  refine lv_aload_n hx hb dX9_isRather_0 rfl (lv_at hl 0 rfl) ?_
  refine va_get (ci := 9) (v := .int (rdI σ0 3)) (C := RX9) (T := TX9) (N := 38) hx hb hts hinX9 hown hK hP 0 (wR_0 cy ad σ0) rfl 6 (by decide) (hts (.fieldLink RX9 161 "TaleBansModel" "lawNow" "I") (List.mem_of_getElem? (i := 1) rfl)) (fun x h => h) rfl dX9_isRather_1 ?_
  refine lv_iconst (v := 2) hx hb dX9_isRather_4 (by decide) ?_
  refine lv_icmp_ge (tgt := 39) hx hb dX9_isRather_5 (by decide) (fun c9 => ?_) (fun c9 => ?_)
  · have hv := hv.1 c9
    refine lv_aload_n hx hb dX9_isRather_39 rfl (lv_at hl 0 rfl) ?_
    refine va_get (ci := 9) (v := .ref (ad (16))) (C := RX9) (T := TX9) (N := 38) hx hb hts hinX9 hown hK hP 0 (wR_0 cy ad σ0) rfl 23 (by decide) (hts (.fieldLink RX9 56 "TaleBansModel" "toldIn" "[I") (List.mem_of_getElem? (i := 2) rfl)) (fun x h => h) rfl dX9_isRather_40 ?_
    refine lv_bipush (v := 6) hx hb dX9_isRather_43 (by decide) ?_
    refine lv_iload_n hx hb dX9_isRather_45 rfl (lv_at hl 1 rfl) ?_
    refine lv_imul hx hb dX9_isRather_46 ?_
    refine lv_iload_n hx hb dX9_isRather_47 rfl (lv_at hl 3 rfl) ?_
    refine lv_iadd hx hb dX9_isRather_48 ?_
    obtain ⟨hi, hv⟩ := hv
    refine va_iald hx hb hK hP 16 0 (wR_16 cy ad σ0) rfl hi dX9_isRather_49 ?_
    refine lv_aload_n hx hb dX9_isRather_50 rfl (lv_at hl 0 rfl) ?_
    refine va_get (ci := 9) (v := .ref (ad (16))) (C := RX9) (T := TX9) (N := 38) hx hb hts hinX9 hown hK hP 0 (wR_0 cy ad σ0) rfl 23 (by decide) (hts (.fieldLink RX9 56 "TaleBansModel" "toldIn" "[I") (List.mem_of_getElem? (i := 2) rfl)) (fun x h => h) rfl dX9_isRather_51 ?_
    refine lv_bipush (v := 6) hx hb dX9_isRather_54 (by decide) ?_
    refine lv_iload_n hx hb dX9_isRather_56 rfl (lv_at hl 1 rfl) ?_
    refine lv_imul hx hb dX9_isRather_57 ?_
    refine lv_iload_n hx hb dX9_isRather_58 rfl (lv_at hl 2 rfl) ?_
    refine lv_iadd hx hb dX9_isRather_59 ?_
    obtain ⟨hi, hv⟩ := hv
    refine va_iald hx hb hK hP 16 0 (wR_16 cy ad σ0) rfl hi dX9_isRather_60 ?_
    refine lv_isub hx hb dX9_isRather_61 ?_
    refine lv_topi (fun x1 h5 => ?_)
    have hv := hv x1 h5
    refine lv_istore (lv' := [(4, .int x1), (0, .ref (ad 0)), (1, .int h_), (2, .int t_), (3, .int b_)]) hx hb dX9_isRather_62 hl (by decide) rfl (fun ls hl => ?_)
    refine lv_iload hx hb dX9_isRather_64 (lv_at hl 0 rfl) ?_
    refine lv_if_gt (tgt := 79) hx hb dX9_isRather_66 (by decide) (fun c4 => ?_) (fun c4 => ?_)
    · have hv := hv.1 c4
      refine lv_iconst (v := 1) hx hb dX9_isRather_79 (by decide) ?_
      refine lv_goto (tgt := 84) hx hb dX9_isRather_80 (by decide) ?_
      rw [hZ]; rw [hQ] at hv
      exact W.zret (v := 1) hx hb hr rfl (fun t ht hW => ⟨⟨1, (), rfl, hv, (P_of ht hP)⟩, hS.F ht⟩) hS.2.2 dX9_isRather_84
    · have hv := hv.2 c4
      refine lv_iload hx hb dX9_isRather_69 (lv_at hl 0 rfl) ?_
      refine lv_if_ne (tgt := 83) hx hb dX9_isRather_71 (by decide) (fun c3 => ?_) (fun c3 => ?_)
      · have hv := hv.1 c3
        refine lv_iconst (v := 0) hx hb dX9_isRather_83 (by decide) ?_
        rw [hZ]; rw [hQ] at hv
        exact W.zret (v := 0) hx hb hr rfl (fun t ht hW => ⟨⟨0, (), rfl, hv, (P_of ht hP)⟩, hS.F ht⟩) hS.2.2 dX9_isRather_84
      · have hv := hv.2 c3
        refine lv_iload_n hx hb dX9_isRather_74 rfl (lv_at hl 3 rfl) ?_
        refine lv_iload_n hx hb dX9_isRather_75 rfl (lv_at hl 4 rfl) ?_
        refine lv_icmp_ge (tgt := 83) hx hb dX9_isRather_76 (by decide) (fun c2 => ?_) (fun c2 => ?_)
        · have hv := hv.1 c2
          refine lv_iconst (v := 0) hx hb dX9_isRather_83 (by decide) ?_
          rw [hZ]; rw [hQ] at hv
          exact W.zret (v := 0) hx hb hr rfl (fun t ht hW => ⟨⟨0, (), rfl, hv, (P_of ht hP)⟩, hS.F ht⟩) hS.2.2 dX9_isRather_84
        · have hv := hv.2 c2
          refine lv_iconst (v := 1) hx hb dX9_isRather_79 (by decide) ?_
          refine lv_goto (tgt := 84) hx hb dX9_isRather_80 (by decide) ?_
          rw [hZ]; rw [hQ] at hv
          exact W.zret (v := 1) hx hb hr rfl (fun t ht hW => ⟨⟨1, (), rfl, hv, (P_of ht hP)⟩, hS.F ht⟩) hS.2.2 dX9_isRather_84
  · have hv := hv.2 c9
    refine lv_aload_n hx hb dX9_isRather_8 rfl (lv_at hl 0 rfl) ?_
    refine va_get (ci := 9) (v := .int (rdI σ0 3)) (C := RX9) (T := TX9) (N := 38) hx hb hts hinX9 hown hK hP 0 (wR_0 cy ad σ0) rfl 6 (by decide) (hts (.fieldLink RX9 161 "TaleBansModel" "lawNow" "I") (List.mem_of_getElem? (i := 1) rfl)) (fun x h => h) rfl dX9_isRather_9 ?_
    refine lv_if_ne (tgt := 28) hx hb dX9_isRather_12 (by decide) (fun c8 => ?_) (fun c8 => ?_)
    · have hv := hv.1 c8
      refine lv_iload_n hx hb dX9_isRather_28 rfl (lv_at hl 2 rfl) ?_
      refine lv_iload_n hx hb dX9_isRather_29 rfl (lv_at hl 3 rfl) ?_
      refine lv_icmp_ge (tgt := 37) hx hb dX9_isRather_30 (by decide) (fun c6 => ?_) (fun c6 => ?_)
      · have hv := hv.1 c6
        refine lv_iconst (v := 0) hx hb dX9_isRather_37 (by decide) ?_
        rw [hZ]; rw [hQ] at hv
        exact W.zret (v := 0) hx hb hr rfl (fun t ht hW => ⟨⟨0, (), rfl, hv, (P_of ht hP)⟩, hS.F ht⟩) hS.2.2 dX9_isRather_38
      · have hv := hv.2 c6
        refine lv_iconst (v := 1) hx hb dX9_isRather_33 (by decide) ?_
        refine lv_goto (tgt := 38) hx hb dX9_isRather_34 (by decide) ?_
        rw [hZ]; rw [hQ] at hv
        exact W.zret (v := 1) hx hb hr rfl (fun t ht hW => ⟨⟨1, (), rfl, hv, (P_of ht hP)⟩, hS.F ht⟩) hS.2.2 dX9_isRather_38
    · have hv := hv.2 c8
      refine lv_iload_n hx hb dX9_isRather_15 rfl (lv_at hl 2 rfl) ?_
      refine lv_iload_n hx hb dX9_isRather_16 rfl (lv_at hl 3 rfl) ?_
      refine lv_icmp_le (tgt := 24) hx hb dX9_isRather_17 (by decide) (fun c7 => ?_) (fun c7 => ?_)
      · have hv := hv.1 c7
        refine lv_iconst (v := 0) hx hb dX9_isRather_24 (by decide) ?_
        refine lv_goto (tgt := 38) hx hb dX9_isRather_25 (by decide) ?_
        rw [hZ]; rw [hQ] at hv
        exact W.zret (v := 0) hx hb hr rfl (fun t ht hW => ⟨⟨0, (), rfl, hv, (P_of ht hP)⟩, hS.F ht⟩) hS.2.2 dX9_isRather_38
      · have hv := hv.2 c7
        refine lv_iconst (v := 1) hx hb dX9_isRather_20 (by decide) ?_
        refine lv_goto (tgt := 38) hx hb dX9_isRather_21 (by decide) ?_
        rw [hZ]; rw [hQ] at hv
        exact W.zret (v := 1) hx hb hr rfl (fun t ht hW => ⟨⟨1, (), rfl, hv, (P_of ht hP)⟩, hS.F ht⟩) hS.2.2 dX9_isRather_38
set_option maxHeartbeats 4000000 in
set_option maxRecDepth 100000 in
theorem wk_X9_tellAt (l : Launch) (h_X9_isIn : Ct_X9_isIn l) (h_X9_isKnownAt : Ct_X9_isKnownAt l) (h_X9_isRather : Ct_X9_isRather l) (sp : ∀ (h_ : Int32) (season_ : Int32) (ag : AS) (rg : RS) (Sg : Nat) (h1g : Nat) (σ0 : S_), pre_X9_tellAt h_ season_ ag rg Sg h1g σ0 → vc_X9_tellAt h_ season_ σ0 (post_X9_tellAt h_ season_ ag rg Sg h1g σ0)) : Ct_X9_tellAt l := by
  intro D cy ad A h_ season_ ag rg Sg h1g σ0  hpre
  refine Met.ofW (cc := cX9_tellAt) (maxL := 5) (ret := none) (by decide) rfl ?_
  intro p e s m args below meth c s₁ B hml hv0
  obtain ⟨rfl, hP, hK, hD, hN⟩ := hv0
  have hx := B.exec
  have hb := B.bytes
  have hr := B.returns
  have hts := atoms_spec (ws := wsX9_tellAt) B.pre
  have hown : s.vm.findClass RX9 = some m.cls := findClass_of_methodNamed B.named
  have hlocks := B.notSynchronized
  have hv := sp h_ season_ ag rg Sg h1g σ0 hpre
  have hl := lv_entry ([.ref (ad 0), .int h_, .int season_]) (n := 5) (Nat.le_of_ble_eq_true rfl)
  rw [lg_entry_eq]
  generalize (lg_sl ([.ref (ad 0), .int h_, .int season_]) ++ List.replicate (5 - (lg_sl ([.ref (ad 0), .int h_, .int season_])).length) Slot.unset).toArray = ls at hl ⊢
  have hl : lv_has ls 5 [(0, .ref (ad 0)), (1, .int h_), (2, .int season_)] := hl
  refine W_gen (fun R Z H locs hR hZ hH hlo => ?_)
  have hRf : R.frames = 3 := by rw [hR]; rfl
  have hRl : R.locals = 70 := by rw [hR]; rfl
  have hRc : R.cells = 0 := by rw [hR]; rfl
  have hRs : R.slots = 0 := by rw [hR]; rfl
  have hS : va_S A s.heap H locs := by rw [hH, hlo]; exact va_S.rf
  rw [← hH] at hP
  obtain ⟨Q, hQ⟩ : ∃ q : S_ → Prop, q = (post_X9_tellAt h_ season_ ag rg Sg h1g σ0) := ⟨_, rfl⟩
  rw [← hQ] at hv
  have hinX9 : ∀ w ∈ wsX90, w ∈ wsX9_tellAt := by decide +kernel
  refine lv_bipush (v := (-9)) hx hb dX9_tellAt_0 (by decide) ?_
  refine lv_istore_n (lv' := [(3, .int (-9)), (0, .ref (ad 0)), (1, .int h_), (2, .int season_)]) hx hb dX9_tellAt_2 rfl hl (by decide) rfl (fun ls hl => ?_)
  refine lv_iconst (v := 0) hx hb dX9_tellAt_3 (by decide) ?_
  refine lv_istore (lv' := [(4, .int 0), (3, .int (-9)), (0, .ref (ad 0)), (1, .int h_), (2, .int season_)]) hx hb dX9_tellAt_4 hl (by decide) rfl (fun ls hl => ?_)
  obtain ⟨n6, hv⟩ := hv
  have lp6 : ∀ (nn6 : Nat) (x1 : Int32) (x2 : Int32) (H : Heap) (locs : List Loc) (ls : Array Slot), vl_X9_tellAt_6 h_ season_ σ0 Q nn6 x1 x2 → va_P D vwCl (wR cy ad σ0) H → va_D A (wR cy ad σ0) → va_S A s.heap H locs → lv_has ls 5 [(0, .ref (ad 0)), (1, .int h_), (2, .int season_), (3, .int x1), (4, .int x2)] → W p l e R s m ([.ref (ad 0), .int h_, .int season_] : List Value).toArray  below meth c H locs 0 0 Z (F0 m 6 ls []) := by
    intro nn6
    induction nn6 with
    | zero => intro x1 x2 H locs ls hv; exact absurd hv id
    | succ mm6 ih6 =>
      intro x1 x2 H locs ls hv hP hD hS hl
      refine lv_iload hx hb dX9_tellAt_6 (lv_at hl 4 rfl) ?_
      refine lv_aload_n hx hb dX9_tellAt_8 rfl (lv_at hl 0 rfl) ?_
      refine va_get (ci := 9) (v := .int (rdI σ0 6)) (C := RX9) (T := TX9) (N := 38) hx hb hts hinX9 hown hK hP 0 (wR_0 cy ad σ0) rfl 12 (by decide) (hts (.fieldLink RX9 109 "TaleBansModel" "tales" "I") (List.mem_of_getElem? (i := 1) rfl)) (fun x h => h) rfl dX9_tellAt_9 ?_
      refine lv_icmp_ge (tgt := 50) hx hb dX9_tellAt_12 (by decide) (fun c34 => ?_) (fun c34 => ?_)
      · have hv := hv.1 c34
        refine lv_aload_n hx hb dX9_tellAt_50 rfl (lv_at hl 0 rfl) ?_
        refine va_get (ci := 9) (v := .ref (ad (17))) (C := RX9) (T := TX9) (N := 38) hx hb hts hinX9 hown hK hP 0 (wR_0 cy ad σ0) rfl 24 (by decide) (hts (.fieldLink RX9 59 "TaleBansModel" "toldNow" "[I") (List.mem_of_getElem? (i := 2) rfl)) (fun x h => h) rfl dX9_tellAt_51 ?_
        refine lv_iload_n hx hb dX9_tellAt_54 rfl (lv_at hl 1 rfl) ?_
        refine lv_iload_n hx hb dX9_tellAt_55 rfl (lv_at hl 3 rfl) ?_
        obtain ⟨hi, hv⟩ := hv
        refine va_iast hx hb hK hP hD hS 17 0 (wR_17 cy ad σ0) rfl hi dX9_tellAt_56 (fun H locs hP hD hS => ?_)
        obtain ⟨σ3, e4⟩ : ∃ y : S_, y = wr2 σ0 17 (Int32.toNatClampNeg h_) x1 := ⟨_, rfl⟩
        have hP : va_P D vwCl (wR cy ad σ3) H := by rw [e4]; exact hP
        have hD : va_D A (wR cy ad σ3) := by rw [e4]; exact hD
        have hv := hv σ3 e4
        refine lv_iload_n hx hb dX9_tellAt_57 rfl (lv_at hl 3 rfl) ?_
        refine lv_if_lt (tgt := 142) hx hb dX9_tellAt_58 (by decide) (fun c17 => ?_) (fun c17 => ?_)
        · have hv := hv.1 c17
          rw [hZ]; rw [hQ] at hv
          exact W.vret hx hb hr (fun t ht hW => ⟨⟨σ3, rfl, hv, ⟨P_of ht hP, hD⟩⟩, hS.F ht⟩) hS.2.2 dX9_tellAt_142
        · have hv := hv.2 c17
          refine lv_aload_n hx hb dX9_tellAt_61 rfl (lv_at hl 0 rfl) ?_
          refine va_get (ci := 9) (v := .ref (ad (16))) (C := RX9) (T := TX9) (N := 38) hx hb hts hinX9 hown hK hP 0 (wR_0 cy ad σ3) rfl 23 (by decide) (hts (.fieldLink RX9 56 "TaleBansModel" "toldIn" "[I") (List.mem_of_getElem? (i := 3) rfl)) (fun x h => h) rfl dX9_tellAt_62 ?_
          refine lv_bipush (v := 6) hx hb dX9_tellAt_65 (by decide) ?_
          refine lv_iload_n hx hb dX9_tellAt_67 rfl (lv_at hl 1 rfl) ?_
          refine lv_imul hx hb dX9_tellAt_68 ?_
          refine lv_iload_n hx hb dX9_tellAt_69 rfl (lv_at hl 3 rfl) ?_
          refine lv_iadd hx hb dX9_tellAt_70 ?_
          refine lv_iload_n hx hb dX9_tellAt_71 rfl (lv_at hl 2 rfl) ?_
          obtain ⟨hi, hv⟩ := hv
          refine va_iast hx hb hK hP hD hS 16 0 (wR_16 cy ad σ3) rfl hi dX9_tellAt_72 (fun H locs hP hD hS => ?_)
          obtain ⟨σ5, e6⟩ : ∃ y : S_, y = wr2 σ3 16 (Int32.toNatClampNeg ((6 * h_) + x1)) season_ := ⟨_, rfl⟩
          have hP : va_P D vwCl (wR cy ad σ5) H := by rw [e6]; exact hP
          have hD : va_D A (wR cy ad σ5) := by rw [e6]; exact hD
          have hv := hv σ5 e6
          refine lv_iconst (v := 0) hx hb dX9_tellAt_73 (by decide) ?_
          refine lv_istore (lv' := [(4, .int 0), (0, .ref (ad 0)), (1, .int h_), (2, .int season_), (3, .int x1)]) hx hb dX9_tellAt_74 hl (by decide) rfl (fun ls hl => ?_)
          obtain ⟨n76, hv⟩ := hv
          have lp76 : ∀ (nn76 : Nat) (x7 : Int32) (σ8 : S_) (H : Heap) (locs : List Loc) (ls : Array Slot), vl_X9_tellAt_76 h_ season_ x1 Q nn76 x7 σ8 → va_P D vwCl (wR cy ad σ8) H → va_D A (wR cy ad σ8) → va_S A s.heap H locs → lv_has ls 5 [(0, .ref (ad 0)), (1, .int h_), (2, .int season_), (3, .int x1), (4, .int x7)] → W p l e R s m ([.ref (ad 0), .int h_, .int season_] : List Value).toArray  below meth c H locs 0 0 Z (F0 m 76 ls []) := by
            intro nn76
            induction nn76 with
            | zero => intro x7 σ8 H locs ls hv; exact absurd hv id
            | succ mm76 ih76 =>
              intro x7 σ8 H locs ls hv hP hD hS hl
              refine lv_iload hx hb dX9_tellAt_76 (lv_at hl 4 rfl) ?_
              refine lv_aload_n hx hb dX9_tellAt_78 rfl (lv_at hl 0 rfl) ?_
              refine va_get (ci := 9) (v := .int (rdI σ8 1)) (C := RX9) (T := TX9) (N := 38) hx hb hts hinX9 hown hK hP 0 (wR_0 cy ad σ8) rfl 1 (by decide) (hts (.fieldLink RX9 102 "TaleBansModel" "persons" "I") (List.mem_of_getElem? (i := 4) rfl)) (fun x h => h) rfl dX9_tellAt_79 ?_
              refine lv_icmp_ge (tgt := 142) hx hb dX9_tellAt_82 (by decide) (fun c16 => ?_) (fun c16 => ?_)
              · have hv := hv.1 c16
                rw [hZ]; rw [hQ] at hv
                exact W.vret hx hb hr (fun t ht hW => ⟨⟨σ8, rfl, hv, ⟨P_of ht hP, hD⟩⟩, hS.F ht⟩) hS.2.2 dX9_tellAt_142
              · have hv := hv.2 c16
                refine lv_aload_n hx hb dX9_tellAt_85 rfl (lv_at hl 0 rfl) ?_
                refine va_get (ci := 9) (v := .ref (ad (15))) (C := RX9) (T := TX9) (N := 38) hx hb hts hinX9 hown hK hP 0 (wR_0 cy ad σ8) rfl 22 (by decide) (hts (.fieldLink RX9 53 "TaleBansModel" "heardIn" "[I") (List.mem_of_getElem? (i := 5) rfl)) (fun x h => h) rfl dX9_tellAt_86 ?_
                refine lv_bipush (v := 6) hx hb dX9_tellAt_89 (by decide) ?_
                refine lv_iload hx hb dX9_tellAt_91 (lv_at hl 4 rfl) ?_
                refine lv_imul hx hb dX9_tellAt_93 ?_
                refine lv_iload_n hx hb dX9_tellAt_94 rfl (lv_at hl 3 rfl) ?_
                refine lv_iadd hx hb dX9_tellAt_95 ?_
                refine lv_aload_n hx hb dX9_tellAt_96 rfl (lv_at hl 0 rfl) ?_
                refine va_get (ci := 9) (v := .ref (ad (14))) (C := RX9) (T := TX9) (N := 38) hx hb hts hinX9 hown hK hP 0 (wR_0 cy ad σ8) rfl 21 (by decide) (hts (.fieldLink RX9 50 "TaleBansModel" "isAt" "[I") (List.mem_of_getElem? (i := 6) rfl)) (fun x h => h) rfl dX9_tellAt_97 ?_
                refine lv_iload hx hb dX9_tellAt_100 (lv_at hl 4 rfl) ?_
                obtain ⟨hi, hv⟩ := hv
                refine va_iald hx hb hK hP 14 0 (wR_14 cy ad σ8) rfl hi dX9_tellAt_102 ?_
                refine lv_iload_n hx hb dX9_tellAt_103 rfl (lv_at hl 1 rfl) ?_
                obtain ⟨P9, hv, hvr⟩ := hv
                have jn10 : ∀ (b11 : Int32) (H : Heap) (locs : List Loc) (ls : Array Slot), P9 b11 → va_P D vwCl (wR cy ad σ8) H → va_S A s.heap H locs → lv_has ls 5 [(0, .ref (ad 0)), (1, .int h_), (2, .int season_), (3, .int x1), (4, .int x7)] → W p l e R s m ([.ref (ad 0), .int h_, .int season_] : List Value).toArray below meth c H locs 0 0 Z (F0 m 135 ls [.int b11, .int ((6 * x7) + x1), .ref (ad (15))]) := by
                  intro b11 H locs ls hv hP hS hl
                  have hv := hvr b11 hv
                  obtain ⟨hi, hv⟩ := hv
                  refine va_iast hx hb hK hP hD hS 15 0 (wR_15 cy ad σ8) rfl hi dX9_tellAt_135 (fun H locs hP hD hS => ?_)
                  obtain ⟨σ14, e15⟩ : ∃ y : S_, y = wr2 σ8 15 (Int32.toNatClampNeg ((6 * x7) + x1)) b11 := ⟨_, rfl⟩
                  have hP : va_P D vwCl (wR cy ad σ14) H := by rw [e15]; exact hP
                  have hD : va_D A (wR cy ad σ14) := by rw [e15]; exact hD
                  have hv := hv σ14 e15
                  refine lv_iinc (v := (x7 + 1)) (lv' := [(4, .int (x7 + 1)), (0, .ref (ad 0)), (1, .int h_), (2, .int season_), (3, .int x1)]) hx hb dX9_tellAt_136 hl (k := 4) rfl rfl (by decide) rfl (fun ls hl => ?_)
                  refine lv_goto (tgt := 76) hx hb dX9_tellAt_139 (by decide) ?_
                  exact ih76 (x7 + 1) σ14 _ _ _ hv hP hD hS (lv_sub hl [1, 2, 3, 4, 0] rfl)
                refine lv_icmp_ne (tgt := 123) hx hb dX9_tellAt_104 (by decide) (fun c13 => ?_) (fun c13 => ?_)
                · have hv := hv.1 c13
                  refine lv_aload_n hx hb dX9_tellAt_123 rfl (lv_at hl 0 rfl) ?_
                  refine va_get (ci := 9) (v := .ref (ad (15))) (C := RX9) (T := TX9) (N := 38) hx hb hts hinX9 hown hK hP 0 (wR_0 cy ad σ8) rfl 22 (by decide) (hts (.fieldLink RX9 53 "TaleBansModel" "heardIn" "[I") (List.mem_of_getElem? (i := 5) rfl)) (fun x h => h) rfl dX9_tellAt_124 ?_
                  refine lv_bipush (v := 6) hx hb dX9_tellAt_127 (by decide) ?_
                  refine lv_iload hx hb dX9_tellAt_129 (lv_at hl 4 rfl) ?_
                  refine lv_imul hx hb dX9_tellAt_131 ?_
                  refine lv_iload_n hx hb dX9_tellAt_132 rfl (lv_at hl 3 rfl) ?_
                  refine lv_iadd hx hb dX9_tellAt_133 ?_
                  obtain ⟨hi, hv⟩ := hv
                  refine va_iald hx hb hK hP 15 0 (wR_15 cy ad σ8) rfl hi dX9_tellAt_134 ?_
                  exact jn10 (rdA σ8 15 (Int32.toNatClampNeg ((6 * x7) + x1))) _ _ _ hv hP hS hl
                · have hv := hv.2 c13
                  refine lv_aload_n hx hb dX9_tellAt_107 rfl (lv_at hl 0 rfl) ?_
                  refine va_get (ci := 9) (v := .int (rdI σ8 2)) (C := RX9) (T := TX9) (N := 38) hx hb hts hinX9 hown hK hP 0 (wR_0 cy ad σ8) rfl 5 (by decide) (hts (.fieldLink RX9 158 "TaleBansModel" "paidNow" "I") (List.mem_of_getElem? (i := 7) rfl)) (fun x h => h) rfl dX9_tellAt_108 ?_
                  refine lv_iload hx hb dX9_tellAt_111 (lv_at hl 4 rfl) ?_
                  refine k_pure_i (va_runS (As := [.int (rdI σ8 2), .int x7]) (rest := [.int ((6 * x7) + x1), .ref (ad (15))]) ⟨hx, hb, hml, hown, hts⟩ (h_X9_isIn (rdI σ8 2) x7) (va_cwS 2 hts gX9_tellAt_X9_isIn rfl rfl rfl (by decide +kernel) ⟨le_R hRf (Nat.le_of_ble_eq_true rfl), le_R hRl (Nat.le_of_ble_eq_true rfl)⟩) ⟨(fun a U g mk q => ⟨q.1, trivial⟩), (fun U hU hW => ⟨rfl, trivial⟩)⟩ rfl rfl hl.1 rfl (lv_room (Nat.le_of_ble_eq_true rfl)) dX9_tellAt_113 ⟨le_R hRc (Nat.le_refl 0), le_R hRs (Nat.le_refl 0)⟩) hS hP (fun r H locs hr1 hP hS => ?_)
                  subst hr1
                  refine lv_if_ne (tgt := 123) hx hb dX9_tellAt_116 (by decide) (fun c12 => ?_) (fun c12 => ?_)
                  · have hv := hv.1 c12
                    refine lv_aload_n hx hb dX9_tellAt_123 rfl (lv_at hl 0 rfl) ?_
                    refine va_get (ci := 9) (v := .ref (ad (15))) (C := RX9) (T := TX9) (N := 38) hx hb hts hinX9 hown hK hP 0 (wR_0 cy ad σ8) rfl 22 (by decide) (hts (.fieldLink RX9 53 "TaleBansModel" "heardIn" "[I") (List.mem_of_getElem? (i := 5) rfl)) (fun x h => h) rfl dX9_tellAt_124 ?_
                    refine lv_bipush (v := 6) hx hb dX9_tellAt_127 (by decide) ?_
                    refine lv_iload hx hb dX9_tellAt_129 (lv_at hl 4 rfl) ?_
                    refine lv_imul hx hb dX9_tellAt_131 ?_
                    refine lv_iload_n hx hb dX9_tellAt_132 rfl (lv_at hl 3 rfl) ?_
                    refine lv_iadd hx hb dX9_tellAt_133 ?_
                    obtain ⟨hi, hv⟩ := hv
                    refine va_iald hx hb hK hP 15 0 (wR_15 cy ad σ8) rfl hi dX9_tellAt_134 ?_
                    exact jn10 (rdA σ8 15 (Int32.toNatClampNeg ((6 * x7) + x1))) _ _ _ hv hP hS hl
                  · have hv := hv.2 c12
                    refine lv_iload_n hx hb dX9_tellAt_119 rfl (lv_at hl 2 rfl) ?_
                    refine lv_goto (tgt := 135) hx hb dX9_tellAt_120 (by decide) ?_
                    exact jn10 season_ _ _ _ hv hP hS hl
          exact lp76 n76 0 σ5 _ _ _ hv hP hD hS (lv_sub hl [1, 2, 3, 4, 0] rfl)
      · have hv := hv.2 c34
        refine lv_aload_n hx hb dX9_tellAt_15 rfl (lv_at hl 0 rfl) ?_
        refine lv_iload_n hx hb dX9_tellAt_16 rfl (lv_at hl 1 rfl) ?_
        refine lv_iload hx hb dX9_tellAt_17 (lv_at hl 4 rfl) ?_
        refine lv_iload_n hx hb dX9_tellAt_19 rfl (lv_at hl 2 rfl) ?_
        obtain ⟨g18, g19, g20, g21, g22, hv⟩ := hv
        obtain ⟨hp, hv⟩ := hv
        refine k_read_i (w := wR cy ad) (va_runV (As := [.int h_, .int x2, .int season_]) (rest := []) ⟨hx, hb, hml, hown, hts⟩ (h_X9_isKnownAt D cy ad A h_ x2 season_ g18 g19 g20 g21 g22 σ0 hp) (cwV 3 hts gX9_tellAt_X9_isKnownAt rfl rfl rfl (by decide +kernel) ⟨le_R hRf (Nat.le_of_ble_eq_true rfl), le_R hRl (Nat.le_of_ble_eq_true rfl)⟩) ⟨(fun a U g mk q => ⟨q.1, q.2.blind⟩), va_recv hK hP (ci := 9) (q0 := 0) rfl (wR_0 cy ad σ0), (fun U hU hW => ⟨rfl, WdR.pre hP hK hD hN hU hW⟩)⟩ rfl rfl hl.1 rfl (lv_room (Nat.le_of_ble_eq_true rfl)) dX9_tellAt_20 ⟨le_R hRc (Nat.le_refl 0), le_R hRs (Nat.le_refl 0)⟩) hS (fun r23 H locs hr1 hP hS => ?_)
        have hv := hv r23 hr1
        refine lv_if_eq (tgt := 44) hx hb dX9_tellAt_23 (by decide) (fun c33 => ?_) (fun c33 => ?_)
        · have hv := hv.1 c33
          refine lv_iinc (v := (x2 + 1)) (lv' := [(4, .int (x2 + 1)), (0, .ref (ad 0)), (1, .int h_), (2, .int season_), (3, .int x1)]) hx hb dX9_tellAt_44 hl (k := 4) rfl rfl (by decide) rfl (fun ls hl => ?_)
          refine lv_goto (tgt := 6) hx hb dX9_tellAt_47 (by decide) ?_
          exact ih6 x1 (x2 + 1) _ _ _ hv hP hD hS (lv_sub hl [1, 2, 3, 4, 0] rfl)
        · have hv := hv.2 c33
          refine lv_iload_n hx hb dX9_tellAt_26 rfl (lv_at hl 3 rfl) ?_
          refine lv_if_lt (tgt := 41) hx hb dX9_tellAt_27 (by decide) (fun c32 => ?_) (fun c32 => ?_)
          · have hv := hv.1 c32
            refine lv_iload hx hb dX9_tellAt_41 (lv_at hl 4 rfl) ?_
            refine lv_istore_n (lv' := [(3, .int x2), (0, .ref (ad 0)), (1, .int h_), (2, .int season_), (4, .int x2)]) hx hb dX9_tellAt_43 rfl hl (by decide) rfl (fun ls hl => ?_)
            refine lv_iinc (v := (x2 + 1)) (lv' := [(4, .int (x2 + 1)), (3, .int x2), (0, .ref (ad 0)), (1, .int h_), (2, .int season_)]) hx hb dX9_tellAt_44 hl (k := 4) rfl rfl (by decide) rfl (fun ls hl => ?_)
            refine lv_goto (tgt := 6) hx hb dX9_tellAt_47 (by decide) ?_
            exact ih6 x2 (x2 + 1) _ _ _ hv hP hD hS (lv_sub hl [2, 3, 4, 1, 0] rfl)
          · have hv := hv.2 c32
            refine lv_aload_n hx hb dX9_tellAt_30 rfl (lv_at hl 0 rfl) ?_
            refine lv_iload_n hx hb dX9_tellAt_31 rfl (lv_at hl 1 rfl) ?_
            refine lv_iload hx hb dX9_tellAt_32 (lv_at hl 4 rfl) ?_
            refine lv_iload_n hx hb dX9_tellAt_34 rfl (lv_at hl 3 rfl) ?_
            obtain ⟨g24, g25, g26, g27, g28, g29, hv⟩ := hv
            obtain ⟨hp, hv⟩ := hv
            refine k_read_i (w := wR cy ad) (va_runV (As := [.int h_, .int x2, .int x1]) (rest := []) ⟨hx, hb, hml, hown, hts⟩ (h_X9_isRather D cy ad A h_ x2 x1 g24 g25 g26 g27 g28 g29 σ0 hp) (cwV 3 hts gX9_tellAt_X9_isRather rfl rfl rfl (by decide +kernel) ⟨le_R hRf (Nat.le_of_ble_eq_true rfl), le_R hRl (Nat.le_of_ble_eq_true rfl)⟩) ⟨(fun a U g mk q => ⟨q.1, q.2.blind⟩), va_recv hK hP (ci := 9) (q0 := 0) rfl (wR_0 cy ad σ0), (fun U hU hW => ⟨rfl, WdR.pre hP hK hD hN hU hW⟩)⟩ rfl rfl hl.1 rfl (lv_room (Nat.le_of_ble_eq_true rfl)) dX9_tellAt_35 ⟨le_R hRc (Nat.le_refl 0), le_R hRs (Nat.le_refl 0)⟩) hS (fun r30 H locs hr1 hP hS => ?_)
            have hv := hv r30 hr1
            refine lv_if_eq (tgt := 44) hx hb dX9_tellAt_38 (by decide) (fun c31 => ?_) (fun c31 => ?_)
            · have hv := hv.1 c31
              refine lv_iinc (v := (x2 + 1)) (lv' := [(4, .int (x2 + 1)), (0, .ref (ad 0)), (1, .int h_), (2, .int season_), (3, .int x1)]) hx hb dX9_tellAt_44 hl (k := 4) rfl rfl (by decide) rfl (fun ls hl => ?_)
              refine lv_goto (tgt := 6) hx hb dX9_tellAt_47 (by decide) ?_
              exact ih6 x1 (x2 + 1) _ _ _ hv hP hD hS (lv_sub hl [1, 2, 3, 4, 0] rfl)
            · have hv := hv.2 c31
              refine lv_iload hx hb dX9_tellAt_41 (lv_at hl 4 rfl) ?_
              refine lv_istore_n (lv' := [(3, .int x2), (0, .ref (ad 0)), (1, .int h_), (2, .int season_), (4, .int x2)]) hx hb dX9_tellAt_43 rfl hl (by decide) rfl (fun ls hl => ?_)
              refine lv_iinc (v := (x2 + 1)) (lv' := [(4, .int (x2 + 1)), (3, .int x2), (0, .ref (ad 0)), (1, .int h_), (2, .int season_)]) hx hb dX9_tellAt_44 hl (k := 4) rfl rfl (by decide) rfl (fun ls hl => ?_)
              refine lv_goto (tgt := 6) hx hb dX9_tellAt_47 (by decide) ?_
              exact ih6 x2 (x2 + 1) _ _ _ hv hP hD hS (lv_sub hl [2, 3, 4, 1, 0] rfl)
  exact lp6 n6 (-9) 0 _ _ _ hv hP hD hS (lv_sub hl [2, 3, 4, 1, 0] rfl)
set_option maxHeartbeats 4000000 in
set_option maxRecDepth 100000 in
theorem wk_X9_goSeason (l : Launch) (h_X9_tellAt : Ct_X9_tellAt l) (sp : ∀ (season_ : Int32) (ag : AS) (rg : RS) (Sg : Nat) (σ0 : S_), pre_X9_goSeason season_ ag rg Sg σ0 → vc_X9_goSeason season_ σ0 (post_X9_goSeason season_ ag rg Sg σ0)) : Ct_X9_goSeason l := by
  intro D cy ad A season_ ag rg Sg σ0  hpre
  refine Met.ofW (cc := cX9_goSeason) (maxL := 4) (ret := none) (by decide) rfl ?_
  intro p e s m args below meth c s₁ B hml hv0
  obtain ⟨rfl, hP, hK, hD, hN⟩ := hv0
  have hx := B.exec
  have hb := B.bytes
  have hr := B.returns
  have hts := atoms_spec (ws := wsX9_goSeason) B.pre
  have hown : s.vm.findClass RX9 = some m.cls := findClass_of_methodNamed B.named
  have hlocks := B.notSynchronized
  have hv := sp season_ ag rg Sg σ0 hpre
  have hl := lv_entry ([.ref (ad 0), .int season_]) (n := 4) (Nat.le_of_ble_eq_true rfl)
  rw [lg_entry_eq]
  generalize (lg_sl ([.ref (ad 0), .int season_]) ++ List.replicate (4 - (lg_sl ([.ref (ad 0), .int season_])).length) Slot.unset).toArray = ls at hl ⊢
  have hl : lv_has ls 4 [(0, .ref (ad 0)), (1, .int season_)] := hl
  refine W_gen (fun R Z H locs hR hZ hH hlo => ?_)
  have hRf : R.frames = 4 := by rw [hR]; rfl
  have hRl : R.locals = 94 := by rw [hR]; rfl
  have hRc : R.cells = 0 := by rw [hR]; rfl
  have hRs : R.slots = 0 := by rw [hR]; rfl
  have hS : va_S A s.heap H locs := by rw [hH, hlo]; exact va_S.rf
  rw [← hH] at hP
  obtain ⟨Q, hQ⟩ : ∃ q : S_ → Prop, q = (post_X9_goSeason season_ ag rg Sg σ0) := ⟨_, rfl⟩
  rw [← hQ] at hv
  have hinX9 : ∀ w ∈ wsX90, w ∈ wsX9_goSeason := by decide +kernel
  refine lv_iconst (v := 0) hx hb dX9_goSeason_0 (by decide) ?_
  refine lv_istore_n (lv' := [(2, .int 0), (0, .ref (ad 0)), (1, .int season_)]) hx hb dX9_goSeason_1 rfl hl (by decide) rfl (fun ls hl => ?_)
  obtain ⟨n2, hv⟩ := hv
  have lp2 : ∀ (nn2 : Nat) (x1 : Int32) (σ2 : S_) (H : Heap) (locs : List Loc) (ls : Array Slot), vl_X9_goSeason_2 season_ Q nn2 x1 σ2 → va_P D vwCl (wR cy ad σ2) H → va_D A (wR cy ad σ2) → va_S A s.heap H locs → lv_has ls 4 [(0, .ref (ad 0)), (1, .int season_), (2, .int x1)] → W p l e R s m ([.ref (ad 0), .int season_] : List Value).toArray  below meth c H locs 0 0 Z (F0 m 2 ls []) := by
    intro nn2
    induction nn2 with
    | zero => intro x1 σ2 H locs ls hv; exact absurd hv id
    | succ mm2 ih2 =>
      intro x1 σ2 H locs ls hv hP hD hS hl
      refine lv_iload_n hx hb dX9_goSeason_2 rfl (lv_at hl 2 rfl) ?_
      refine lv_aload_n hx hb dX9_goSeason_3 rfl (lv_at hl 0 rfl) ?_
      refine va_get (ci := 9) (v := .int (rdI σ2 7)) (C := RX9) (T := TX9) (N := 38) hx hb hts hinX9 hown hK hP 0 (wR_0 cy ad σ2) rfl 17 (by decide) (hts (.fieldLink RX9 164 "TaleBansModel" "moves" "I") (List.mem_of_getElem? (i := 1) rfl)) (fun x h => h) rfl dX9_goSeason_4 ?_
      refine lv_icmp_ge (tgt := 57) hx hb dX9_goSeason_7 (by decide) (fun c26 => ?_) (fun c26 => ?_)
      · have hv := hv.1 c26
        refine lv_iconst (v := 0) hx hb dX9_goSeason_57 (by decide) ?_
        refine lv_istore_n (lv' := [(2, .int 0), (0, .ref (ad 0)), (1, .int season_)]) hx hb dX9_goSeason_58 rfl hl (by decide) rfl (fun ls hl => ?_)
        obtain ⟨n59, hv⟩ := hv
        have lp59 : ∀ (nn59 : Nat) (x3 : Int32) (σ4 : S_) (H : Heap) (locs : List Loc) (ls : Array Slot), vl_X9_goSeason_59 season_ Q nn59 x3 σ4 → va_P D vwCl (wR cy ad σ4) H → va_D A (wR cy ad σ4) → va_S A s.heap H locs → lv_has ls 4 [(0, .ref (ad 0)), (1, .int season_), (2, .int x3)] → W p l e R s m ([.ref (ad 0), .int season_] : List Value).toArray  below meth c H locs 0 0 Z (F0 m 59 ls []) := by
          intro nn59
          induction nn59 with
          | zero => intro x3 σ4 H locs ls hv; exact absurd hv id
          | succ mm59 ih59 =>
            intro x3 σ4 H locs ls hv hP hD hS hl
            refine lv_iload_n hx hb dX9_goSeason_59 rfl (lv_at hl 2 rfl) ?_
            refine lv_aload_n hx hb dX9_goSeason_60 rfl (lv_at hl 0 rfl) ?_
            refine va_get (ci := 9) (v := .int (rdI σ4 6)) (C := RX9) (T := TX9) (N := 38) hx hb hts hinX9 hown hK hP 0 (wR_0 cy ad σ4) rfl 12 (by decide) (hts (.fieldLink RX9 109 "TaleBansModel" "tales" "I") (List.mem_of_getElem? (i := 6) rfl)) (fun x h => h) rfl dX9_goSeason_61 ?_
            refine lv_icmp_ge (tgt := 111) hx hb dX9_goSeason_64 (by decide) (fun c19 => ?_) (fun c19 => ?_)
            · have hv := hv.1 c19
              refine lv_iconst (v := 0) hx hb dX9_goSeason_111 (by decide) ?_
              refine lv_istore_n (lv' := [(2, .int 0), (0, .ref (ad 0)), (1, .int season_)]) hx hb dX9_goSeason_112 rfl hl (by decide) rfl (fun ls hl => ?_)
              obtain ⟨n113, hv⟩ := hv
              have lp113 : ∀ (nn113 : Nat) (x5 : Int32) (σ6 : S_) (H : Heap) (locs : List Loc) (ls : Array Slot), vl_X9_goSeason_113 season_ Q nn113 x5 σ6 → va_P D vwCl (wR cy ad σ6) H → va_D A (wR cy ad σ6) → va_S A s.heap H locs → lv_has ls 4 [(0, .ref (ad 0)), (1, .int season_), (2, .int x5)] → W p l e R s m ([.ref (ad 0), .int season_] : List Value).toArray  below meth c H locs 0 0 Z (F0 m 113 ls []) := by
                intro nn113
                induction nn113 with
                | zero => intro x5 σ6 H locs ls hv; exact absurd hv id
                | succ mm113 ih113 =>
                  intro x5 σ6 H locs ls hv hP hD hS hl
                  refine lv_iload_n hx hb dX9_goSeason_113 rfl (lv_at hl 2 rfl) ?_
                  refine lv_iconst (v := 3) hx hb dX9_goSeason_114 (by decide) ?_
                  refine lv_icmp_ge (tgt := 130) hx hb dX9_goSeason_115 (by decide) (fun c12 => ?_) (fun c12 => ?_)
                  · have hv := hv.1 c12
                    rw [hZ]; rw [hQ] at hv
                    exact W.vret hx hb hr (fun t ht hW => ⟨⟨σ6, rfl, hv, ⟨P_of ht hP, hD⟩⟩, hS.F ht⟩) hS.2.2 dX9_goSeason_130
                  · have hv := hv.2 c12
                    refine lv_aload_n hx hb dX9_goSeason_118 rfl (lv_at hl 0 rfl) ?_
                    refine lv_iload_n hx hb dX9_goSeason_119 rfl (lv_at hl 2 rfl) ?_
                    refine lv_iload_n hx hb dX9_goSeason_120 rfl (lv_at hl 1 rfl) ?_
                    obtain ⟨g7, g8, g9, g10, hv⟩ := hv
                    obtain ⟨hp, hv⟩ := hv
                    refine k_rel_v (w := wR cy ad) (va_runV (As := [.int x5, .int season_]) (rest := []) ⟨hx, hb, hml, hown, hts⟩ (h_X9_tellAt D cy ad A x5 season_ g7 g8 g9 g10 σ6 hp) (cwV 2 hts gX9_goSeason_X9_tellAt rfl rfl rfl (by decide +kernel) ⟨le_R hRf (Nat.le_of_ble_eq_true rfl), le_R hRl (Nat.le_of_ble_eq_true rfl)⟩) ⟨(fun a U g mk q => ⟨q.1, q.2.blind⟩), va_recv hK hP (ci := 9) (q0 := 0) rfl (wR_0 cy ad σ6), (fun U hU hW => ⟨rfl, WdR.pre hP hK hD hN hU hW⟩)⟩ rfl rfl hl.1 rfl (lv_room (Nat.le_of_ble_eq_true rfl)) dX9_goSeason_121 ⟨le_R hRc (Nat.le_refl 0), le_R hRs (Nat.le_refl 0)⟩) hS (fun σ11 H locs hr1 hP hD hS => ?_)
                    have hv := hv σ11 hr1
                    refine lv_iinc (v := (x5 + 1)) (lv' := [(2, .int (x5 + 1)), (0, .ref (ad 0)), (1, .int season_)]) hx hb dX9_goSeason_124 hl (k := 2) rfl rfl (by decide) rfl (fun ls hl => ?_)
                    refine lv_goto (tgt := 113) hx hb dX9_goSeason_127 (by decide) ?_
                    exact ih113 (x5 + 1) σ11 _ _ _ hv hP hD hS (lv_sub hl [1, 2, 0] rfl)
              exact lp113 n113 0 σ4 _ _ _ hv hP hD hS (lv_sub hl [1, 2, 0] rfl)
            · have hv := hv.2 c19
              refine lv_bipush (v := 6) hx hb dX9_goSeason_67 (by decide) ?_
              refine lv_aload_n hx hb dX9_goSeason_69 rfl (lv_at hl 0 rfl) ?_
              refine va_get (ci := 9) (v := .ref (ad (8))) (C := RX9) (T := TX9) (N := 38) hx hb hts hinX9 hown hK hP 0 (wR_0 cy ad σ4) rfl 14 (by decide) (hts (.fieldLink RX9 31 "TaleBansModel" "taleTo" "[I") (List.mem_of_getElem? (i := 7) rfl)) (fun x h => h) rfl dX9_goSeason_70 ?_
              refine lv_iload_n hx hb dX9_goSeason_73 rfl (lv_at hl 2 rfl) ?_
              obtain ⟨hi, hv⟩ := hv
              refine va_iald hx hb hK hP 8 0 (wR_8 cy ad σ4) rfl hi dX9_goSeason_74 ?_
              refine lv_imul hx hb dX9_goSeason_75 ?_
              refine lv_iload_n hx hb dX9_goSeason_76 rfl (lv_at hl 2 rfl) ?_
              refine lv_iadd hx hb dX9_goSeason_77 ?_
              refine lv_istore_n (lv' := [(3, .int ((6 * (rdA σ4 8 (Int32.toNatClampNeg x3))) + x3)), (0, .ref (ad 0)), (1, .int season_), (2, .int x3)]) hx hb dX9_goSeason_78 rfl hl (by decide) rfl (fun ls hl => ?_)
              refine lv_aload_n hx hb dX9_goSeason_79 rfl (lv_at hl 1 rfl) ?_
              refine va_get (ci := 9) (v := .ref (ad (15))) (C := RX9) (T := TX9) (N := 38) hx hb hts hinX9 hown hK hP 0 (wR_0 cy ad σ4) rfl 22 (by decide) (hts (.fieldLink RX9 53 "TaleBansModel" "heardIn" "[I") (List.mem_of_getElem? (i := 8) rfl)) (fun x h => h) rfl dX9_goSeason_80 ?_
              refine lv_iload_n hx hb dX9_goSeason_83 rfl (lv_at hl 0 rfl) ?_
              refine lv_aload_n hx hb dX9_goSeason_84 rfl (lv_at hl 1 rfl) ?_
              refine va_get (ci := 9) (v := .ref (ad (9))) (C := RX9) (T := TX9) (N := 38) hx hb hts hinX9 hown hK hP 0 (wR_0 cy ad σ4) rfl 15 (by decide) (hts (.fieldLink RX9 34 "TaleBansModel" "taleIn" "[I") (List.mem_of_getElem? (i := 9) rfl)) (fun x h => h) rfl dX9_goSeason_85 ?_
              refine lv_iload_n hx hb dX9_goSeason_88 rfl (lv_at hl 3 rfl) ?_
              obtain ⟨hi, hv⟩ := hv
              refine va_iald hx hb hK hP 9 0 (wR_9 cy ad σ4) rfl hi dX9_goSeason_89 ?_
              refine lv_iload_n hx hb dX9_goSeason_90 rfl (lv_at hl 2 rfl) ?_
              obtain ⟨P13, hv, hvr⟩ := hv
              have jn14 : ∀ (b15 : Int32) (H : Heap) (locs : List Loc) (ls : Array Slot), P13 b15 → va_P D vwCl (wR cy ad σ4) H → va_S A s.heap H locs → lv_has ls 4 [(3, .int ((6 * (rdA σ4 8 (Int32.toNatClampNeg x3))) + x3)), (0, .ref (ad 0)), (1, .int season_), (2, .int x3)] → W p l e R s m ([.ref (ad 0), .int season_] : List Value).toArray below meth c H locs 0 0 Z (F0 m 104 ls [.int b15, .int ((6 * (rdA σ4 8 (Int32.toNatClampNeg x3))) + x3), .ref (ad (15))]) := by
                intro b15 H locs ls hv hP hS hl
                have hv := hvr b15 hv
                obtain ⟨hi, hv⟩ := hv
                refine va_iast hx hb hK hP hD hS 15 0 (wR_15 cy ad σ4) rfl hi dX9_goSeason_104 (fun H locs hP hD hS => ?_)
                obtain ⟨σ17, e18⟩ : ∃ y : S_, y = wr2 σ4 15 (Int32.toNatClampNeg ((6 * (rdA σ4 8 (Int32.toNatClampNeg x3))) + x3)) b15 := ⟨_, rfl⟩
                have hP : va_P D vwCl (wR cy ad σ17) H := by rw [e18]; exact hP
                have hD : va_D A (wR cy ad σ17) := by rw [e18]; exact hD
                have hv := hv σ17 e18
                refine lv_iinc (v := (x3 + 1)) (lv' := [(2, .int (x3 + 1)), (3, .int ((6 * (rdA σ4 8 (Int32.toNatClampNeg x3))) + x3)), (0, .ref (ad 0)), (1, .int season_)]) hx hb dX9_goSeason_105 hl (k := 3) rfl rfl (by decide) rfl (fun ls hl => ?_)
                refine lv_goto (tgt := 59) hx hb dX9_goSeason_108 (by decide) ?_
                exact ih59 (x3 + 1) σ17 _ _ _ hv hP hD hS (lv_sub hl [2, 3, 0] rfl)
              refine lv_icmp_ne (tgt := 98) hx hb dX9_goSeason_91 (by decide) (fun c16 => ?_) (fun c16 => ?_)
              · have hv := hv.1 c16
                refine lv_aload_n hx hb dX9_goSeason_98 rfl (lv_at hl 1 rfl) ?_
                refine va_get (ci := 9) (v := .ref (ad (15))) (C := RX9) (T := TX9) (N := 38) hx hb hts hinX9 hown hK hP 0 (wR_0 cy ad σ4) rfl 22 (by decide) (hts (.fieldLink RX9 53 "TaleBansModel" "heardIn" "[I") (List.mem_of_getElem? (i := 8) rfl)) (fun x h => h) rfl dX9_goSeason_99 ?_
                refine lv_iload_n hx hb dX9_goSeason_102 rfl (lv_at hl 0 rfl) ?_
                obtain ⟨hi, hv⟩ := hv
                refine va_iald hx hb hK hP 15 0 (wR_15 cy ad σ4) rfl hi dX9_goSeason_103 ?_
                exact jn14 (rdA σ4 15 (Int32.toNatClampNeg ((6 * (rdA σ4 8 (Int32.toNatClampNeg x3))) + x3))) _ _ _ hv hP hS hl
              · have hv := hv.2 c16
                refine lv_iload_n hx hb dX9_goSeason_94 rfl (lv_at hl 2 rfl) ?_
                refine lv_goto (tgt := 104) hx hb dX9_goSeason_95 (by decide) ?_
                exact jn14 season_ _ _ _ hv hP hS hl
        exact lp59 n59 0 σ2 _ _ _ hv hP hD hS (lv_sub hl [1, 2, 0] rfl)
      · have hv := hv.2 c26
        refine lv_aload_n hx hb dX9_goSeason_10 rfl (lv_at hl 0 rfl) ?_
        refine va_get (ci := 9) (v := .ref (ad (14))) (C := RX9) (T := TX9) (N := 38) hx hb hts hinX9 hown hK hP 0 (wR_0 cy ad σ2) rfl 21 (by decide) (hts (.fieldLink RX9 50 "TaleBansModel" "isAt" "[I") (List.mem_of_getElem? (i := 2) rfl)) (fun x h => h) rfl dX9_goSeason_11 ?_
        refine lv_aload_n hx hb dX9_goSeason_14 rfl (lv_at hl 0 rfl) ?_
        refine va_get (ci := 9) (v := .ref (ad (11))) (C := RX9) (T := TX9) (N := 38) hx hb hts hinX9 hown hK hP 0 (wR_0 cy ad σ2) rfl 18 (by decide) (hts (.fieldLink RX9 41 "TaleBansModel" "moveOf" "[I") (List.mem_of_getElem? (i := 3) rfl)) (fun x h => h) rfl dX9_goSeason_15 ?_
        refine lv_iload_n hx hb dX9_goSeason_18 rfl (lv_at hl 2 rfl) ?_
        obtain ⟨hi, hv⟩ := hv
        refine va_iald hx hb hK hP 11 0 (wR_11 cy ad σ2) rfl hi dX9_goSeason_19 ?_
        refine lv_aload_n hx hb dX9_goSeason_20 rfl (lv_at hl 0 rfl) ?_
        refine va_get (ci := 9) (v := .ref (ad (13))) (C := RX9) (T := TX9) (N := 38) hx hb hts hinX9 hown hK hP 0 (wR_0 cy ad σ2) rfl 20 (by decide) (hts (.fieldLink RX9 47 "TaleBansModel" "moveIn" "[I") (List.mem_of_getElem? (i := 4) rfl)) (fun x h => h) rfl dX9_goSeason_21 ?_
        refine lv_iload_n hx hb dX9_goSeason_24 rfl (lv_at hl 2 rfl) ?_
        obtain ⟨hi, hv⟩ := hv
        refine va_iald hx hb hK hP 13 0 (wR_13 cy ad σ2) rfl hi dX9_goSeason_25 ?_
        refine lv_iload_n hx hb dX9_goSeason_26 rfl (lv_at hl 1 rfl) ?_
        obtain ⟨P20, hv, hvr⟩ := hv
        have jn21 : ∀ (b22 : Int32) (H : Heap) (locs : List Loc) (ls : Array Slot), P20 b22 → va_P D vwCl (wR cy ad σ2) H → va_S A s.heap H locs → lv_has ls 4 [(0, .ref (ad 0)), (1, .int season_), (2, .int x1)] → W p l e R s m ([.ref (ad 0), .int season_] : List Value).toArray below meth c H locs 0 0 Z (F0 m 50 ls [.int b22, .int (rdA σ2 11 (Int32.toNatClampNeg x1)), .ref (ad (14))]) := by
          intro b22 H locs ls hv hP hS hl
          have hv := hvr b22 hv
          obtain ⟨hi, hv⟩ := hv
          refine va_iast hx hb hK hP hD hS 14 0 (wR_14 cy ad σ2) rfl hi dX9_goSeason_50 (fun H locs hP hD hS => ?_)
          obtain ⟨σ24, e25⟩ : ∃ y : S_, y = wr2 σ2 14 (Int32.toNatClampNeg (rdA σ2 11 (Int32.toNatClampNeg x1))) b22 := ⟨_, rfl⟩
          have hP : va_P D vwCl (wR cy ad σ24) H := by rw [e25]; exact hP
          have hD : va_D A (wR cy ad σ24) := by rw [e25]; exact hD
          have hv := hv σ24 e25
          refine lv_iinc (v := (x1 + 1)) (lv' := [(2, .int (x1 + 1)), (0, .ref (ad 0)), (1, .int season_)]) hx hb dX9_goSeason_51 hl (k := 2) rfl rfl (by decide) rfl (fun ls hl => ?_)
          refine lv_goto (tgt := 2) hx hb dX9_goSeason_54 (by decide) ?_
          exact ih2 (x1 + 1) σ24 _ _ _ hv hP hD hS (lv_sub hl [1, 2, 0] rfl)
        refine lv_icmp_ne (tgt := 39) hx hb dX9_goSeason_27 (by decide) (fun c23 => ?_) (fun c23 => ?_)
        · have hv := hv.1 c23
          refine lv_aload_n hx hb dX9_goSeason_39 rfl (lv_at hl 0 rfl) ?_
          refine va_get (ci := 9) (v := .ref (ad (14))) (C := RX9) (T := TX9) (N := 38) hx hb hts hinX9 hown hK hP 0 (wR_0 cy ad σ2) rfl 21 (by decide) (hts (.fieldLink RX9 50 "TaleBansModel" "isAt" "[I") (List.mem_of_getElem? (i := 2) rfl)) (fun x h => h) rfl dX9_goSeason_40 ?_
          refine lv_aload_n hx hb dX9_goSeason_43 rfl (lv_at hl 0 rfl) ?_
          refine va_get (ci := 9) (v := .ref (ad (11))) (C := RX9) (T := TX9) (N := 38) hx hb hts hinX9 hown hK hP 0 (wR_0 cy ad σ2) rfl 18 (by decide) (hts (.fieldLink RX9 41 "TaleBansModel" "moveOf" "[I") (List.mem_of_getElem? (i := 3) rfl)) (fun x h => h) rfl dX9_goSeason_44 ?_
          refine lv_iload_n hx hb dX9_goSeason_47 rfl (lv_at hl 2 rfl) ?_
          obtain ⟨hi, hv⟩ := hv
          refine va_iald hx hb hK hP 11 0 (wR_11 cy ad σ2) rfl hi dX9_goSeason_48 ?_
          obtain ⟨hi, hv⟩ := hv
          refine va_iald hx hb hK hP 14 0 (wR_14 cy ad σ2) rfl hi dX9_goSeason_49 ?_
          exact jn21 (rdA σ2 14 (Int32.toNatClampNeg (rdA σ2 11 (Int32.toNatClampNeg x1)))) _ _ _ hv hP hS hl
        · have hv := hv.2 c23
          refine lv_aload_n hx hb dX9_goSeason_30 rfl (lv_at hl 0 rfl) ?_
          refine va_get (ci := 9) (v := .ref (ad (12))) (C := RX9) (T := TX9) (N := 38) hx hb hts hinX9 hown hK hP 0 (wR_0 cy ad σ2) rfl 19 (by decide) (hts (.fieldLink RX9 44 "TaleBansModel" "moveTo" "[I") (List.mem_of_getElem? (i := 5) rfl)) (fun x h => h) rfl dX9_goSeason_31 ?_
          refine lv_iload_n hx hb dX9_goSeason_34 rfl (lv_at hl 2 rfl) ?_
          obtain ⟨hi, hv⟩ := hv
          refine va_iald hx hb hK hP 12 0 (wR_12 cy ad σ2) rfl hi dX9_goSeason_35 ?_
          refine lv_goto (tgt := 50) hx hb dX9_goSeason_36 (by decide) ?_
          exact jn21 (rdA σ2 12 (Int32.toNatClampNeg x1)) _ _ _ hv hP hS hl
  exact lp2 n2 0 σ0 _ _ _ hv hP hD hS (lv_sub hl [1, 2, 0] rfl)
set_option maxHeartbeats 4000000 in
set_option maxRecDepth 100000 in
theorem wk_X9_goTo (l : Launch) (h_X9_begin : Ct_X9_begin l) (h_X9_goSeason : Ct_X9_goSeason l) (sp : ∀ (season_ : Int32) (ag : AS) (s1g : Nat) (σ0 : S_), pre_X9_goTo season_ ag s1g σ0 → vc_X9_goTo season_ σ0 (post_X9_goTo season_ ag s1g σ0)) : Ct_X9_goTo l := by
  intro D cy ad A season_ ag s1g σ0  hpre
  refine Met.ofW (cc := cX9_goTo) (maxL := 3) (ret := none) (by decide) rfl ?_
  intro p e s m args below meth c s₁ B hml hv0
  obtain ⟨rfl, hP, hK, hD, hN⟩ := hv0
  have hx := B.exec
  have hb := B.bytes
  have hr := B.returns
  have hts := atoms_spec (ws := wsX9_goTo) B.pre
  have hown : s.vm.findClass RX9 = some m.cls := findClass_of_methodNamed B.named
  have hlocks := B.notSynchronized
  have hv := sp season_ ag s1g σ0 hpre
  have hl := lv_entry ([.ref (ad 0), .int season_]) (n := 3) (Nat.le_of_ble_eq_true rfl)
  rw [lg_entry_eq]
  generalize (lg_sl ([.ref (ad 0), .int season_]) ++ List.replicate (3 - (lg_sl ([.ref (ad 0), .int season_])).length) Slot.unset).toArray = ls at hl ⊢
  have hl : lv_has ls 3 [(0, .ref (ad 0)), (1, .int season_)] := hl
  refine W_gen (fun R Z H locs hR hZ hH hlo => ?_)
  have hRf : R.frames = 5 := by rw [hR]; rfl
  have hRl : R.locals = 117 := by rw [hR]; rfl
  have hRc : R.cells = 0 := by rw [hR]; rfl
  have hRs : R.slots = 0 := by rw [hR]; rfl
  have hS : va_S A s.heap H locs := by rw [hH, hlo]; exact va_S.rf
  rw [← hH] at hP
  obtain ⟨Q, hQ⟩ : ∃ q : S_ → Prop, q = (post_X9_goTo season_ ag s1g σ0) := ⟨_, rfl⟩
  rw [← hQ] at hv
  refine lv_aload_n hx hb dX9_goTo_0 rfl (lv_at hl 0 rfl) ?_
  obtain ⟨g1, hv⟩ := hv
  obtain ⟨hp, hv⟩ := hv
  refine k_rel_v (w := wR cy ad) (va_runV (As := []) (rest := []) ⟨hx, hb, hml, hown, hts⟩ (h_X9_begin D cy ad A g1 σ0 hp) (cwV 0 hts gX9_goTo_X9_begin rfl rfl rfl (by decide +kernel) ⟨le_R hRf (Nat.le_of_ble_eq_true rfl), le_R hRl (Nat.le_of_ble_eq_true rfl)⟩) ⟨(fun a U g mk q => ⟨q.1, q.2.blind⟩), va_recv hK hP (ci := 9) (q0 := 0) rfl (wR_0 cy ad σ0), (fun U hU hW => ⟨rfl, WdR.pre hP hK hD hN hU hW⟩)⟩ rfl rfl hl.1 rfl (lv_room (Nat.le_of_ble_eq_true rfl)) dX9_goTo_1 ⟨le_R hRc (Nat.le_refl 0), le_R hRs (Nat.le_refl 0)⟩) hS (fun σ2 H locs hr1 hP hD hS => ?_)
  have hv := hv σ2 hr1
  refine lv_iconst (v := 0) hx hb dX9_goTo_4 (by decide) ?_
  refine lv_istore_n (lv' := [(2, .int 0), (0, .ref (ad 0)), (1, .int season_)]) hx hb dX9_goTo_5 rfl hl (by decide) rfl (fun ls hl => ?_)
  obtain ⟨n6, hv⟩ := hv
  have lp6 : ∀ (nn6 : Nat) (x3 : Int32) (σ4 : S_) (H : Heap) (locs : List Loc) (ls : Array Slot), vl_X9_goTo_6 season_ Q nn6 x3 σ4 → va_P D vwCl (wR cy ad σ4) H → va_D A (wR cy ad σ4) → va_S A s.heap H locs → lv_has ls 3 [(0, .ref (ad 0)), (1, .int season_), (2, .int x3)] → W p l e R s m ([.ref (ad 0), .int season_] : List Value).toArray  below meth c H locs 0 0 Z (F0 m 6 ls []) := by
    intro nn6
    induction nn6 with
    | zero => intro x3 σ4 H locs ls hv; exact absurd hv id
    | succ mm6 ih6 =>
      intro x3 σ4 H locs ls hv hP hD hS hl
      refine lv_iload_n hx hb dX9_goTo_6 rfl (lv_at hl 2 rfl) ?_
      refine lv_iload_n hx hb dX9_goTo_7 rfl (lv_at hl 1 rfl) ?_
      refine lv_icmp_gt (tgt := 22) hx hb dX9_goTo_8 (by decide) (fun c9 => ?_) (fun c9 => ?_)
      · have hv := hv.1 c9
        rw [hZ]; rw [hQ] at hv
        exact W.vret hx hb hr (fun t ht hW => ⟨⟨σ4, rfl, hv, ⟨P_of ht hP, hD⟩⟩, hS.F ht⟩) hS.2.2 dX9_goTo_22
      · have hv := hv.2 c9
        refine lv_aload_n hx hb dX9_goTo_11 rfl (lv_at hl 0 rfl) ?_
        refine lv_iload_n hx hb dX9_goTo_12 rfl (lv_at hl 2 rfl) ?_
        obtain ⟨g5, g6, g7, hv⟩ := hv
        obtain ⟨hp, hv⟩ := hv
        refine k_rel_v (w := wR cy ad) (va_runV (As := [.int x3]) (rest := []) ⟨hx, hb, hml, hown, hts⟩ (h_X9_goSeason D cy ad A x3 g5 g6 g7 σ4 hp) (cwV 1 hts gX9_goTo_X9_goSeason rfl rfl rfl (by decide +kernel) ⟨le_R hRf (Nat.le_of_ble_eq_true rfl), le_R hRl (Nat.le_of_ble_eq_true rfl)⟩) ⟨(fun a U g mk q => ⟨q.1, q.2.blind⟩), va_recv hK hP (ci := 9) (q0 := 0) rfl (wR_0 cy ad σ4), (fun U hU hW => ⟨rfl, WdR.pre hP hK hD hN hU hW⟩)⟩ rfl rfl hl.1 rfl (lv_room (Nat.le_of_ble_eq_true rfl)) dX9_goTo_13 ⟨le_R hRc (Nat.le_refl 0), le_R hRs (Nat.le_refl 0)⟩) hS (fun σ8 H locs hr1 hP hD hS => ?_)
        have hv := hv σ8 hr1
        refine lv_iinc (v := (x3 + 1)) (lv' := [(2, .int (x3 + 1)), (0, .ref (ad 0)), (1, .int season_)]) hx hb dX9_goTo_16 hl (k := 2) rfl rfl (by decide) rfl (fun ls hl => ?_)
        refine lv_goto (tgt := 6) hx hb dX9_goTo_19 (by decide) ?_
        exact ih6 (x3 + 1) σ8 _ _ _ hv hP hD hS (lv_sub hl [1, 2, 0] rfl)
  exact lp6 n6 0 σ2 _ _ _ hv hP hD hS (lv_sub hl [1, 2, 0] rfl)
set_option maxHeartbeats 4000000 in
set_option maxRecDepth 100000 in
theorem wk_X9_forbiddenIn (l : Launch) (h_X9_isAlive : Ct_X9_isAlive l) (sp : ∀ (season_ : Int32) (ag : AS) (rg : RS) (Sg : Nat) (σ0 : S_), pre_X9_forbiddenIn season_ ag rg Sg σ0 → vc_X9_forbiddenIn season_ σ0 (fun r => post_X9_forbiddenIn season_ ag rg Sg σ0 r)) : Ct_X9_forbiddenIn l := by
  intro D cy ad A season_ ag rg Sg σ0  hpre
  refine Met.ofW (cc := cX9_forbiddenIn) (maxL := 5) (ret := (some .int)) (by decide) rfl ?_
  intro p e s m args below meth c s₁ B hml hv0
  obtain ⟨rfl, hP, hK, hD, hN⟩ := hv0
  have hx := B.exec
  have hb := B.bytes
  have hr := B.returns
  have hts := atoms_spec (ws := wsX9_forbiddenIn) B.pre
  have hown : s.vm.findClass RX9 = some m.cls := findClass_of_methodNamed B.named
  have hlocks := B.notSynchronized
  have hv := sp season_ ag rg Sg σ0 hpre
  have hl := lv_entry ([.ref (ad 0), .int season_]) (n := 5) (Nat.le_of_ble_eq_true rfl)
  rw [lg_entry_eq]
  generalize (lg_sl ([.ref (ad 0), .int season_]) ++ List.replicate (5 - (lg_sl ([.ref (ad 0), .int season_])).length) Slot.unset).toArray = ls at hl ⊢
  have hl : lv_has ls 5 [(0, .ref (ad 0)), (1, .int season_)] := hl
  refine W_gen (fun R Z H locs hR hZ hH hlo => ?_)
  have hRf : R.frames = 3 := by rw [hR]; rfl
  have hRl : R.locals = 69 := by rw [hR]; rfl
  have hRc : R.cells = 0 := by rw [hR]; rfl
  have hRs : R.slots = 0 := by rw [hR]; rfl
  have hS : va_S A s.heap H locs := by rw [hH, hlo]; exact va_S.rf
  rw [← hH] at hP
  obtain ⟨Q, hQ⟩ : ∃ q : Int32 → Prop, q = (fun r => post_X9_forbiddenIn season_ ag rg Sg σ0 r) := ⟨_, rfl⟩
  rw [← hQ] at hv
  have hinX9 : ∀ w ∈ wsX90, w ∈ wsX9_forbiddenIn := by decide +kernel
  refine lv_iconst (v := 0) hx hb dX9_forbiddenIn_0 (by decide) ?_
  refine lv_istore_n (lv' := [(2, .int 0), (0, .ref (ad 0)), (1, .int season_)]) hx hb dX9_forbiddenIn_1 rfl hl (by decide) rfl (fun ls hl => ?_)
  refine lv_iconst (v := 0) hx hb dX9_forbiddenIn_2 (by decide) ?_
  refine lv_istore_n (lv' := [(3, .int 0), (2, .int 0), (0, .ref (ad 0)), (1, .int season_)]) hx hb dX9_forbiddenIn_3 rfl hl (by decide) rfl (fun ls hl => ?_)
  obtain ⟨n4, hv⟩ := hv
  have lp4 : ∀ (nn4 : Nat) (x1 : Int32) (x2 : Int32) (H : Heap) (locs : List Loc) (ls : Array Slot), vl_X9_forbiddenIn_4 season_ σ0 Q nn4 x1 x2 → va_P D vwCl (wR cy ad σ0) H → va_D A (wR cy ad σ0) → va_S A s.heap H locs → lv_has ls 5 [(0, .ref (ad 0)), (1, .int season_), (2, .int x1), (3, .int x2)] → W p l e R s m ([.ref (ad 0), .int season_] : List Value).toArray  below meth c H locs 0 0 Z (F0 m 4 ls []) := by
    intro nn4
    induction nn4 with
    | zero => intro x1 x2 H locs ls hv; exact absurd hv id
    | succ mm4 ih4 =>
      intro x1 x2 H locs ls hv hP hD hS hl
      refine lv_iload_n hx hb dX9_forbiddenIn_4 rfl (lv_at hl 3 rfl) ?_
      refine lv_aload_n hx hb dX9_forbiddenIn_5 rfl (lv_at hl 0 rfl) ?_
      refine va_get (ci := 9) (v := .int (rdI σ0 6)) (C := RX9) (T := TX9) (N := 38) hx hb hts hinX9 hown hK hP 0 (wR_0 cy ad σ0) rfl 12 (by decide) (hts (.fieldLink RX9 109 "TaleBansModel" "tales" "I") (List.mem_of_getElem? (i := 1) rfl)) (fun x h => h) rfl dX9_forbiddenIn_6 ?_
      refine lv_icmp_ge (tgt := 72) hx hb dX9_forbiddenIn_9 (by decide) (fun c18 => ?_) (fun c18 => ?_)
      · have hv := hv.1 c18
        refine lv_iload_n hx hb dX9_forbiddenIn_72 rfl (lv_at hl 2 rfl) ?_
        rw [hZ]; rw [hQ] at hv
        exact W.iret (v := x1) hx hb hr (fun t ht hW => ⟨⟨x1, (), rfl, hv, (P_of ht hP)⟩, hS.F ht⟩) hS.2.2 dX9_forbiddenIn_73
      · have hv := hv.2 c18
        refine lv_aload_n hx hb dX9_forbiddenIn_12 rfl (lv_at hl 0 rfl) ?_
        refine va_get (ci := 9) (v := .ref (ad (10))) (C := RX9) (T := TX9) (N := 38) hx hb hts hinX9 hown hK hP 0 (wR_0 cy ad σ0) rfl 16 (by decide) (hts (.fieldLink RX9 37 "TaleBansModel" "isParody" "[Z") (List.mem_of_getElem? (i := 2) rfl)) (fun x h => h) rfl dX9_forbiddenIn_13 ?_
        refine lv_iload_n hx hb dX9_forbiddenIn_16 rfl (lv_at hl 3 rfl) ?_
        obtain ⟨hi, hv⟩ := hv
        refine va_zald hx hb hK hP 10 1 (wR_10 cy ad σ0) rfl hi dX9_forbiddenIn_17 ?_
        obtain ⟨P3, hv, hvr⟩ := hv
        have jn4 : ∀ (b5 : Int32) (H : Heap) (locs : List Loc) (ls : Array Slot), P3 b5 → va_P D vwCl (wR cy ad σ0) H → va_S A s.heap H locs → lv_has ls 5 [(0, .ref (ad 0)), (1, .int season_), (2, .int x1), (3, .int x2)] → W p l e R s m ([.ref (ad 0), .int season_] : List Value).toArray below meth c H locs 0 0 Z (F0 m 35 ls [.int b5]) := by
          intro b5 H locs ls hv hP hS hl
          have hv := hvr b5 hv
          refine lv_istore (lv' := [(4, .int b5), (0, .ref (ad 0)), (1, .int season_), (2, .int x1), (3, .int x2)]) hx hb dX9_forbiddenIn_35 hl (by decide) rfl (fun ls hl => ?_)
          refine lv_iload_n hx hb dX9_forbiddenIn_37 rfl (lv_at hl 3 rfl) ?_
          refine lv_iload hx hb dX9_forbiddenIn_38 (lv_at hl 0 rfl) ?_
          obtain ⟨P8, hv, hvr⟩ := hv
          have jn9 : ∀ (b10 : Int32) (H : Heap) (locs : List Loc) (ls : Array Slot), P8 b10 → va_P D vwCl (wR cy ad σ0) H → va_S A s.heap H locs → lv_has ls 5 [(4, .int b5), (0, .ref (ad 0)), (1, .int season_), (2, .int x1), (3, .int x2)] → W p l e R s m ([.ref (ad 0), .int season_] : List Value).toArray below meth c H locs 0 0 Z (F0 m 64 ls [.int b10, .int x1]) := by
            intro b10 H locs ls hv hP hS hl
            have hv := hvr b10 hv
            refine lv_ior hx hb dX9_forbiddenIn_64 ?_
            refine lv_istore_n (lv' := [(2, .int (x1 ||| b10)), (4, .int b5), (0, .ref (ad 0)), (1, .int season_), (3, .int x2)]) hx hb dX9_forbiddenIn_65 rfl hl (by decide) rfl (fun ls hl => ?_)
            refine lv_iinc (v := (x2 + 1)) (lv' := [(3, .int (x2 + 1)), (2, .int (x1 ||| b10)), (4, .int b5), (0, .ref (ad 0)), (1, .int season_)]) hx hb dX9_forbiddenIn_66 hl (k := 4) rfl rfl (by decide) rfl (fun ls hl => ?_)
            refine lv_goto (tgt := 4) hx hb dX9_forbiddenIn_69 (by decide) ?_
            exact ih4 (x1 ||| b10) (x2 + 1) _ _ _ hv hP hD hS (lv_sub hl [3, 4, 1, 0] rfl)
          refine lv_if_ne (tgt := 63) hx hb dX9_forbiddenIn_40 (by decide) (fun c17 => ?_) (fun c17 => ?_)
          · have hv := hv.1 c17
            refine lv_iconst (v := 0) hx hb dX9_forbiddenIn_63 (by decide) ?_
            exact jn9 0 _ _ _ hv hP hS hl
          · have hv := hv.2 c17
            refine lv_aload_n hx hb dX9_forbiddenIn_43 rfl (lv_at hl 1 rfl) ?_
            refine lv_iload_n hx hb dX9_forbiddenIn_44 rfl (lv_at hl 4 rfl) ?_
            refine lv_iload_n hx hb dX9_forbiddenIn_45 rfl (lv_at hl 2 rfl) ?_
            obtain ⟨g11, g12, g13, g14, hv⟩ := hv
            obtain ⟨hp, hv⟩ := hv
            refine k_read_i (w := wR cy ad) (va_runV (As := [.int x2, .int season_]) (rest := [.int x1]) ⟨hx, hb, hml, hown, hts⟩ (h_X9_isAlive D cy ad A x2 season_ g11 g12 g13 g14 σ0 hp) (cwV 2 hts gX9_forbiddenIn_X9_isAlive rfl rfl rfl (by decide +kernel) ⟨le_R hRf (Nat.le_of_ble_eq_true rfl), le_R hRl (Nat.le_of_ble_eq_true rfl)⟩) ⟨(fun a U g mk q => ⟨q.1, q.2.blind⟩), va_recv hK hP (ci := 9) (q0 := 0) rfl (wR_0 cy ad σ0), (fun U hU hW => ⟨rfl, WdR.pre hP hK hD hN hU hW⟩)⟩ rfl rfl hl.1 rfl (lv_room (Nat.le_of_ble_eq_true rfl)) dX9_forbiddenIn_46 ⟨le_R hRc (Nat.le_refl 0), le_R hRs (Nat.le_refl 0)⟩) hS (fun r15 H locs hr1 hP hS => ?_)
            have hv := hv r15 hr1
            refine lv_if_eq (tgt := 63) hx hb dX9_forbiddenIn_49 (by decide) (fun c16 => ?_) (fun c16 => ?_)
            · have hv := hv.1 c16
              refine lv_iconst (v := 0) hx hb dX9_forbiddenIn_63 (by decide) ?_
              exact jn9 0 _ _ _ hv hP hS hl
            · have hv := hv.2 c16
              refine lv_iconst (v := 1) hx hb dX9_forbiddenIn_52 (by decide) ?_
              refine lv_aload_n hx hb dX9_forbiddenIn_53 rfl (lv_at hl 1 rfl) ?_
              refine va_get (ci := 9) (v := .ref (ad (7))) (C := RX9) (T := TX9) (N := 38) hx hb hts hinX9 hown hK hP 0 (wR_0 cy ad σ0) rfl 13 (by decide) (hts (.fieldLink RX9 28 "TaleBansModel" "taleDeed" "[I") (List.mem_of_getElem? (i := 3) rfl)) (fun x h => h) rfl dX9_forbiddenIn_54 ?_
              refine lv_iload_n hx hb dX9_forbiddenIn_57 rfl (lv_at hl 4 rfl) ?_
              obtain ⟨hi, hv⟩ := hv
              refine va_iald hx hb hK hP 7 0 (wR_7 cy ad σ0) rfl hi dX9_forbiddenIn_58 ?_
              refine lv_ishl hx hb dX9_forbiddenIn_59 ?_
              refine lv_goto (tgt := 64) hx hb dX9_forbiddenIn_60 (by decide) ?_
              exact jn9 (1 <<< ((rdA σ0 7 (Int32.toNatClampNeg x2)) &&& 31)) _ _ _ hv hP hS hl
        refine lv_if_eq (tgt := 34) hx hb dX9_forbiddenIn_18 (by decide) (fun c7 => ?_) (fun c7 => ?_)
        · have hv := hv.1 c7
          refine lv_iconst (v := 0) hx hb dX9_forbiddenIn_34 (by decide) ?_
          exact jn4 0 _ _ _ hv hP hS hl
        · have hv := hv.2 c7
          refine lv_iload_n hx hb dX9_forbiddenIn_21 rfl (lv_at hl 1 rfl) ?_
          refine lv_bipush (v := 7) hx hb dX9_forbiddenIn_22 (by decide) ?_
          obtain ⟨hne, hv⟩ := hv
          refine lv_irem hx hb dX9_forbiddenIn_24 hne ?_
          refine lv_bipush (v := 6) hx hb dX9_forbiddenIn_25 (by decide) ?_
          refine lv_icmp_ne (tgt := 34) hx hb dX9_forbiddenIn_27 (by decide) (fun c6 => ?_) (fun c6 => ?_)
          · have hv := hv.1 c6
            refine lv_iconst (v := 0) hx hb dX9_forbiddenIn_34 (by decide) ?_
            exact jn4 0 _ _ _ hv hP hS hl
          · have hv := hv.2 c6
            refine lv_iconst (v := 1) hx hb dX9_forbiddenIn_30 (by decide) ?_
            refine lv_goto (tgt := 35) hx hb dX9_forbiddenIn_31 (by decide) ?_
            exact jn4 1 _ _ _ hv hP hS hl
  exact lp4 n4 0 0 _ _ _ hv hP hD hS (lv_sub hl [2, 3, 1, 0] rfl)
set_option maxHeartbeats 4000000 in
set_option maxRecDepth 100000 in
theorem wk_X9_isForbidden (l : Launch) (h_X9_forbiddenIn : Ct_X9_forbiddenIn l) (h_X9_goTo : Ct_X9_goTo l) (h_X9_isIn : Ct_X9_isIn l) (sp : ∀ (deed_ : Int32) (season_ : Int32) (ag : AS) (d1g : Nat) (s1g : Nat) (σ0 : S_), pre_X9_isForbidden deed_ season_ ag d1g s1g σ0 → vc_X9_isForbidden deed_ season_ σ0 (post_X9_isForbidden deed_ season_ ag d1g s1g σ0)) : Ct_X9_isForbidden l := by
  intro D cy ad A deed_ season_ ag d1g s1g σ0  hpre
  refine Met.ofW (cc := cX9_isForbidden) (maxL := 3) (ret := (some .boolean)) (by decide) rfl ?_
  intro p e s m args below meth c s₁ B hml hv0
  obtain ⟨rfl, hP, hK, hD, hN⟩ := hv0
  have hx := B.exec
  have hb := B.bytes
  have hr := B.returns
  have hts := atoms_spec (ws := wsX9_isForbidden) B.pre
  have hown : s.vm.findClass RX9 = some m.cls := findClass_of_methodNamed B.named
  have hlocks := B.notSynchronized
  have hv := sp deed_ season_ ag d1g s1g σ0 hpre
  have hl := lv_entry ([.ref (ad 0), .int deed_, .int season_]) (n := 3) (Nat.le_of_ble_eq_true rfl)
  rw [lg_entry_eq]
  generalize (lg_sl ([.ref (ad 0), .int deed_, .int season_]) ++ List.replicate (3 - (lg_sl ([.ref (ad 0), .int deed_, .int season_])).length) Slot.unset).toArray = ls at hl ⊢
  have hl : lv_has ls 3 [(0, .ref (ad 0)), (1, .int deed_), (2, .int season_)] := hl
  refine W_gen (fun R Z H locs hR hZ hH hlo => ?_)
  have hRf : R.frames = 6 := by rw [hR]; rfl
  have hRl : R.locals = 139 := by rw [hR]; rfl
  have hRc : R.cells = 0 := by rw [hR]; rfl
  have hRs : R.slots = 0 := by rw [hR]; rfl
  have hS : va_S A s.heap H locs := by rw [hH, hlo]; exact va_S.rf
  rw [← hH] at hP
  obtain ⟨Q, hQ⟩ : ∃ q : Int32 → S_ → Prop, q = (post_X9_isForbidden deed_ season_ ag d1g s1g σ0) := ⟨_, rfl⟩
  rw [← hQ] at hv
  refine lv_aload_n hx hb dX9_isForbidden_0 rfl (lv_at hl 0 rfl) ?_
  refine lv_iload_n hx hb dX9_isForbidden_1 rfl (lv_at hl 2 rfl) ?_
  obtain ⟨g1, g2, hv⟩ := hv
  obtain ⟨hp, hv⟩ := hv
  refine k_rel_v (w := wR cy ad) (va_runV (As := [.int season_]) (rest := []) ⟨hx, hb, hml, hown, hts⟩ (h_X9_goTo D cy ad A season_ g1 g2 σ0 hp) (cwV 1 hts gX9_isForbidden_X9_goTo rfl rfl rfl (by decide +kernel) ⟨le_R hRf (Nat.le_of_ble_eq_true rfl), le_R hRl (Nat.le_of_ble_eq_true rfl)⟩) ⟨(fun a U g mk q => ⟨q.1, q.2.blind⟩), va_recv hK hP (ci := 9) (q0 := 0) rfl (wR_0 cy ad σ0), (fun U hU hW => ⟨rfl, WdR.pre hP hK hD hN hU hW⟩)⟩ rfl rfl hl.1 rfl (lv_room (Nat.le_of_ble_eq_true rfl)) dX9_isForbidden_2 ⟨le_R hRc (Nat.le_refl 0), le_R hRs (Nat.le_refl 0)⟩) hS (fun σ3 H locs hr1 hP hD hS => ?_)
  have hv := hv σ3 hr1
  refine lv_aload_n hx hb dX9_isForbidden_5 rfl (lv_at hl 0 rfl) ?_
  refine lv_iload_n hx hb dX9_isForbidden_6 rfl (lv_at hl 2 rfl) ?_
  obtain ⟨g4, g5, g6, hv⟩ := hv
  obtain ⟨hp, hv⟩ := hv
  refine k_read_i (w := wR cy ad) (va_runV (As := [.int season_]) (rest := []) ⟨hx, hb, hml, hown, hts⟩ (h_X9_forbiddenIn D cy ad A season_ g4 g5 g6 σ3 hp) (cwV 1 hts gX9_isForbidden_X9_forbiddenIn rfl rfl rfl (by decide +kernel) ⟨le_R hRf (Nat.le_of_ble_eq_true rfl), le_R hRl (Nat.le_of_ble_eq_true rfl)⟩) ⟨(fun a U g mk q => ⟨q.1, q.2.blind⟩), va_recv hK hP (ci := 9) (q0 := 0) rfl (wR_0 cy ad σ3), (fun U hU hW => ⟨rfl, WdR.pre hP hK hD hN hU hW⟩)⟩ rfl rfl hl.1 rfl (lv_room (Nat.le_of_ble_eq_true rfl)) dX9_isForbidden_7 ⟨le_R hRc (Nat.le_refl 0), le_R hRs (Nat.le_refl 0)⟩) hS (fun r7 H locs hr1 hP hS => ?_)
  have hv := hv r7 hr1
  refine lv_iload_n hx hb dX9_isForbidden_10 rfl (lv_at hl 1 rfl) ?_
  refine k_pure_i (va_runS (As := [.int r7, .int deed_]) (rest := []) ⟨hx, hb, hml, hown, hts⟩ (h_X9_isIn r7 deed_) (va_cwS 2 hts gX9_isForbidden_X9_isIn rfl rfl rfl (by decide +kernel) ⟨le_R hRf (Nat.le_of_ble_eq_true rfl), le_R hRl (Nat.le_of_ble_eq_true rfl)⟩) ⟨(fun a U g mk q => ⟨q.1, trivial⟩), (fun U hU hW => ⟨rfl, trivial⟩)⟩ rfl rfl hl.1 rfl (lv_room (Nat.le_of_ble_eq_true rfl)) dX9_isForbidden_11 ⟨le_R hRc (Nat.le_refl 0), le_R hRs (Nat.le_refl 0)⟩) hS hP (fun r H locs hr1 hP hS => ?_)
  subst hr1
  obtain ⟨h01, hv⟩ := hv
  rw [hZ]; rw [hQ] at hv
  exact W.zret (v := (fn_X9_isIn r7 deed_)) hx hb hr (nar_b h01) (fun t ht hW => ⟨⟨(fn_X9_isIn r7 deed_), σ3, rfl, hv, ⟨P_of ht hP, hD⟩⟩, hS.F ht⟩) hS.2.2 dX9_isForbidden_14
set_option maxHeartbeats 4000000 in
set_option maxRecDepth 100000 in
theorem wk_X9_endOf (l : Launch) (h_X9_begin : Ct_X9_begin l) (h_X9_goSeason : Ct_X9_goSeason l) (h_X9_isAlive : Ct_X9_isAlive l) (sp : ∀ (t_ : Int32) (ag : AS) (t1g : Nat) (σ0 : S_), pre_X9_endOf t_ ag t1g σ0 → vc_X9_endOf t_ σ0 (post_X9_endOf t_ ag t1g σ0)) : Ct_X9_endOf l := by
  intro D cy ad A t_ ag t1g σ0  hpre
  refine Met.ofW (cc := cX9_endOf) (maxL := 3) (ret := (some .int)) (by decide) rfl ?_
  intro p e s m args below meth c s₁ B hml hv0
  obtain ⟨rfl, hP, hK, hD, hN⟩ := hv0
  have hx := B.exec
  have hb := B.bytes
  have hr := B.returns
  have hts := atoms_spec (ws := wsX9_endOf) B.pre
  have hown : s.vm.findClass RX9 = some m.cls := findClass_of_methodNamed B.named
  have hlocks := B.notSynchronized
  have hv := sp t_ ag t1g σ0 hpre
  have hl := lv_entry ([.ref (ad 0), .int t_]) (n := 3) (Nat.le_of_ble_eq_true rfl)
  rw [lg_entry_eq]
  generalize (lg_sl ([.ref (ad 0), .int t_]) ++ List.replicate (3 - (lg_sl ([.ref (ad 0), .int t_])).length) Slot.unset).toArray = ls at hl ⊢
  have hl : lv_has ls 3 [(0, .ref (ad 0)), (1, .int t_)] := hl
  refine W_gen (fun R Z H locs hR hZ hH hlo => ?_)
  have hRf : R.frames = 5 := by rw [hR]; rfl
  have hRl : R.locals = 117 := by rw [hR]; rfl
  have hRc : R.cells = 0 := by rw [hR]; rfl
  have hRs : R.slots = 0 := by rw [hR]; rfl
  have hS : va_S A s.heap H locs := by rw [hH, hlo]; exact va_S.rf
  rw [← hH] at hP
  obtain ⟨Q, hQ⟩ : ∃ q : Int32 → S_ → Prop, q = (post_X9_endOf t_ ag t1g σ0) := ⟨_, rfl⟩
  rw [← hQ] at hv
  have hinX9 : ∀ w ∈ wsX90, w ∈ wsX9_endOf := by decide +kernel
  refine lv_aload_n hx hb dX9_endOf_0 rfl (lv_at hl 0 rfl) ?_
  obtain ⟨g1, hv⟩ := hv
  obtain ⟨hp, hv⟩ := hv
  refine k_rel_v (w := wR cy ad) (va_runV (As := []) (rest := []) ⟨hx, hb, hml, hown, hts⟩ (h_X9_begin D cy ad A g1 σ0 hp) (cwV 0 hts gX9_endOf_X9_begin rfl rfl rfl (by decide +kernel) ⟨le_R hRf (Nat.le_of_ble_eq_true rfl), le_R hRl (Nat.le_of_ble_eq_true rfl)⟩) ⟨(fun a U g mk q => ⟨q.1, q.2.blind⟩), va_recv hK hP (ci := 9) (q0 := 0) rfl (wR_0 cy ad σ0), (fun U hU hW => ⟨rfl, WdR.pre hP hK hD hN hU hW⟩)⟩ rfl rfl hl.1 rfl (lv_room (Nat.le_of_ble_eq_true rfl)) dX9_endOf_1 ⟨le_R hRc (Nat.le_refl 0), le_R hRs (Nat.le_refl 0)⟩) hS (fun σ2 H locs hr1 hP hD hS => ?_)
  have hv := hv σ2 hr1
  refine lv_iconst (v := 0) hx hb dX9_endOf_4 (by decide) ?_
  refine lv_istore_n (lv' := [(2, .int 0), (0, .ref (ad 0)), (1, .int t_)]) hx hb dX9_endOf_5 rfl hl (by decide) rfl (fun ls hl => ?_)
  obtain ⟨n6, hv⟩ := hv
  have lp6 : ∀ (nn6 : Nat) (x3 : Int32) (σ4 : S_) (H : Heap) (locs : List Loc) (ls : Array Slot), vl_X9_endOf_6 t_ Q nn6 x3 σ4 → va_P D vwCl (wR cy ad σ4) H → va_D A (wR cy ad σ4) → va_S A s.heap H locs → lv_has ls 3 [(0, .ref (ad 0)), (1, .int t_), (2, .int x3)] → W p l e R s m ([.ref (ad 0), .int t_] : List Value).toArray  below meth c H locs 0 0 Z (F0 m 6 ls []) := by
    intro nn6
    induction nn6 with
    | zero => intro x3 σ4 H locs ls hv; exact absurd hv id
    | succ mm6 ih6 =>
      intro x3 σ4 H locs ls hv hP hD hS hl
      refine lv_iload_n hx hb dX9_endOf_6 rfl (lv_at hl 2 rfl) ?_
      refine lv_bipush (v := 40) hx hb dX9_endOf_7 (by decide) ?_
      refine lv_icmp_ge (tgt := 44) hx hb dX9_endOf_9 (by decide) (fun c16 => ?_) (fun c16 => ?_)
      · have hv := hv.1 c16
        refine lv_bipush (v := 99) hx hb dX9_endOf_44 (by decide) ?_
        rw [hZ]; rw [hQ] at hv
        exact W.iret (v := 99) hx hb hr (fun t ht hW => ⟨⟨99, σ4, rfl, hv, ⟨P_of ht hP, hD⟩⟩, hS.F ht⟩) hS.2.2 dX9_endOf_46
      · have hv := hv.2 c16
        refine lv_aload_n hx hb dX9_endOf_12 rfl (lv_at hl 0 rfl) ?_
        refine lv_iload_n hx hb dX9_endOf_13 rfl (lv_at hl 2 rfl) ?_
        obtain ⟨g5, g6, g7, hv⟩ := hv
        obtain ⟨hp, hv⟩ := hv
        refine k_rel_v (w := wR cy ad) (va_runV (As := [.int x3]) (rest := []) ⟨hx, hb, hml, hown, hts⟩ (h_X9_goSeason D cy ad A x3 g5 g6 g7 σ4 hp) (cwV 1 hts gX9_endOf_X9_goSeason rfl rfl rfl (by decide +kernel) ⟨le_R hRf (Nat.le_of_ble_eq_true rfl), le_R hRl (Nat.le_of_ble_eq_true rfl)⟩) ⟨(fun a U g mk q => ⟨q.1, q.2.blind⟩), va_recv hK hP (ci := 9) (q0 := 0) rfl (wR_0 cy ad σ4), (fun U hU hW => ⟨rfl, WdR.pre hP hK hD hN hU hW⟩)⟩ rfl rfl hl.1 rfl (lv_room (Nat.le_of_ble_eq_true rfl)) dX9_endOf_14 ⟨le_R hRc (Nat.le_refl 0), le_R hRs (Nat.le_refl 0)⟩) hS (fun σ8 H locs hr1 hP hD hS => ?_)
        have hv := hv σ8 hr1
        refine lv_iload_n hx hb dX9_endOf_17 rfl (lv_at hl 2 rfl) ?_
        refine lv_aload_n hx hb dX9_endOf_18 rfl (lv_at hl 0 rfl) ?_
        refine va_get (ci := 9) (v := .ref (ad (9))) (C := RX9) (T := TX9) (N := 38) hx hb hts hinX9 hown hK hP 0 (wR_0 cy ad σ8) rfl 15 (by decide) (hts (.fieldLink RX9 34 "TaleBansModel" "taleIn" "[I") (List.mem_of_getElem? (i := 1) rfl)) (fun x h => h) rfl dX9_endOf_19 ?_
        refine lv_iload_n hx hb dX9_endOf_22 rfl (lv_at hl 1 rfl) ?_
        obtain ⟨hi, hv⟩ := hv
        refine va_iald hx hb hK hP 9 0 (wR_9 cy ad σ8) rfl hi dX9_endOf_23 ?_
        refine lv_icmp_le (tgt := 38) hx hb dX9_endOf_24 (by decide) (fun c15 => ?_) (fun c15 => ?_)
        · have hv := hv.1 c15
          refine lv_iinc (v := (x3 + 1)) (lv' := [(2, .int (x3 + 1)), (0, .ref (ad 0)), (1, .int t_)]) hx hb dX9_endOf_38 hl (k := 2) rfl rfl (by decide) rfl (fun ls hl => ?_)
          refine lv_goto (tgt := 6) hx hb dX9_endOf_41 (by decide) ?_
          exact ih6 (x3 + 1) σ8 _ _ _ hv hP hD hS (lv_sub hl [1, 2, 0] rfl)
        · have hv := hv.2 c15
          refine lv_aload_n hx hb dX9_endOf_27 rfl (lv_at hl 0 rfl) ?_
          refine lv_iload_n hx hb dX9_endOf_28 rfl (lv_at hl 1 rfl) ?_
          refine lv_iload_n hx hb dX9_endOf_29 rfl (lv_at hl 2 rfl) ?_
          obtain ⟨g9, g10, g11, g12, hv⟩ := hv
          obtain ⟨hp, hv⟩ := hv
          refine k_read_i (w := wR cy ad) (va_runV (As := [.int t_, .int x3]) (rest := []) ⟨hx, hb, hml, hown, hts⟩ (h_X9_isAlive D cy ad A t_ x3 g9 g10 g11 g12 σ8 hp) (cwV 2 hts gX9_endOf_X9_isAlive rfl rfl rfl (by decide +kernel) ⟨le_R hRf (Nat.le_of_ble_eq_true rfl), le_R hRl (Nat.le_of_ble_eq_true rfl)⟩) ⟨(fun a U g mk q => ⟨q.1, q.2.blind⟩), va_recv hK hP (ci := 9) (q0 := 0) rfl (wR_0 cy ad σ8), (fun U hU hW => ⟨rfl, WdR.pre hP hK hD hN hU hW⟩)⟩ rfl rfl hl.1 rfl (lv_room (Nat.le_of_ble_eq_true rfl)) dX9_endOf_30 ⟨le_R hRc (Nat.le_refl 0), le_R hRs (Nat.le_refl 0)⟩) hS (fun r13 H locs hr1 hP hS => ?_)
          have hv := hv r13 hr1
          refine lv_if_ne (tgt := 38) hx hb dX9_endOf_33 (by decide) (fun c14 => ?_) (fun c14 => ?_)
          · have hv := hv.1 c14
            refine lv_iinc (v := (x3 + 1)) (lv' := [(2, .int (x3 + 1)), (0, .ref (ad 0)), (1, .int t_)]) hx hb dX9_endOf_38 hl (k := 2) rfl rfl (by decide) rfl (fun ls hl => ?_)
            refine lv_goto (tgt := 6) hx hb dX9_endOf_41 (by decide) ?_
            exact ih6 (x3 + 1) σ8 _ _ _ hv hP hD hS (lv_sub hl [1, 2, 0] rfl)
          · have hv := hv.2 c14
            refine lv_iload_n hx hb dX9_endOf_36 rfl (lv_at hl 2 rfl) ?_
            rw [hZ]; rw [hQ] at hv
            exact W.iret (v := x3) hx hb hr (fun t ht hW => ⟨⟨x3, σ8, rfl, hv, ⟨P_of ht hP, hD⟩⟩, hS.F ht⟩) hS.2.2 dX9_endOf_37
  exact lp6 n6 0 σ2 _ _ _ hv hP hD hS (lv_sub hl [1, 2, 0] rfl)
set_option maxHeartbeats 4000000 in
set_option maxRecDepth 100000 in
theorem wk_X9_refusedFor (l : Launch) (h_X9_isSeason : Ct_X9_isSeason l) (h_X9_noDeed : Ct_X9_noDeed l) (sp : ∀ (deed_ : Int32) (season_ : Int32) (σ0 : S_), True → vc_X9_refusedFor deed_ season_ σ0 (fun r => r = fn_X9_refusedFor deed_ season_ σ0)) : Ct_X9_refusedFor l := by
  intro D cy ad A deed_ season_  σ0  hpre
  refine Met.ofW (cc := cX9_refusedFor) (maxL := 3) (ret := (some .int)) (by decide) rfl ?_
  intro p e s m args below meth c s₁ B hml hv0
  obtain ⟨rfl, hP, hK, hD, hN⟩ := hv0
  have hx := B.exec
  have hb := B.bytes
  have hr := B.returns
  have hts := atoms_spec (ws := wsX9_refusedFor) B.pre
  have hown : s.vm.findClass RX9 = some m.cls := findClass_of_methodNamed B.named
  have hlocks := B.notSynchronized
  have hv := sp deed_ season_  σ0 hpre
  have hl := lv_entry ([.ref (ad 0), .int deed_, .int season_]) (n := 3) (Nat.le_of_ble_eq_true rfl)
  rw [lg_entry_eq]
  generalize (lg_sl ([.ref (ad 0), .int deed_, .int season_]) ++ List.replicate (3 - (lg_sl ([.ref (ad 0), .int deed_, .int season_])).length) Slot.unset).toArray = ls at hl ⊢
  have hl : lv_has ls 3 [(0, .ref (ad 0)), (1, .int deed_), (2, .int season_)] := hl
  refine W_gen (fun R Z H locs hR hZ hH hlo => ?_)
  have hRf : R.frames = 2 := by rw [hR]; rfl
  have hRl : R.locals = 45 := by rw [hR]; rfl
  have hRc : R.cells = 0 := by rw [hR]; rfl
  have hRs : R.slots = 0 := by rw [hR]; rfl
  have hS : va_S A s.heap H locs := by rw [hH, hlo]; exact va_S.rf
  rw [← hH] at hP
  obtain ⟨Q, hQ⟩ : ∃ q : Int32 → Prop, q = (fun r => r = fn_X9_refusedFor deed_ season_ σ0) := ⟨_, rfl⟩
  rw [← hQ] at hv
  have hinX9 : ∀ w ∈ wsX90, w ∈ wsX9_refusedFor := by decide +kernel
  refine lv_iload_n hx hb dX9_refusedFor_0 rfl (lv_at hl 1 rfl) ?_
  refine k_pure_i (va_runS (As := [.int deed_]) (rest := []) ⟨hx, hb, hml, hown, hts⟩ (h_X9_noDeed deed_) (va_cwS 1 hts gX9_refusedFor_X9_noDeed rfl rfl rfl (by decide +kernel) ⟨le_R hRf (Nat.le_of_ble_eq_true rfl), le_R hRl (Nat.le_of_ble_eq_true rfl)⟩) ⟨(fun a U g mk q => ⟨q.1, trivial⟩), (fun U hU hW => ⟨rfl, trivial⟩)⟩ rfl rfl hl.1 rfl (lv_room (Nat.le_of_ble_eq_true rfl)) dX9_refusedFor_1 ⟨le_R hRc (Nat.le_refl 0), le_R hRs (Nat.le_refl 0)⟩) hS hP (fun r H locs hr1 hP hS => ?_)
  subst hr1
  refine lv_if_eq (tgt := 9) hx hb dX9_refusedFor_4 (by decide) (fun c3 => ?_) (fun c3 => ?_)
  · have hv := hv.1 c3
    refine lv_iload_n hx hb dX9_refusedFor_9 rfl (lv_at hl 2 rfl) ?_
    refine k_pure_i (va_runS (As := [.int season_]) (rest := []) ⟨hx, hb, hml, hown, hts⟩ (h_X9_isSeason season_) (va_cwS 1 hts gX9_refusedFor_X9_isSeason rfl rfl rfl (by decide +kernel) ⟨le_R hRf (Nat.le_of_ble_eq_true rfl), le_R hRl (Nat.le_of_ble_eq_true rfl)⟩) ⟨(fun a U g mk q => ⟨q.1, trivial⟩), (fun U hU hW => ⟨rfl, trivial⟩)⟩ rfl rfl hl.1 rfl (lv_room (Nat.le_of_ble_eq_true rfl)) dX9_refusedFor_10 ⟨le_R hRc (Nat.le_refl 0), le_R hRs (Nat.le_refl 0)⟩) hS hP (fun r H locs hr1 hP hS => ?_)
    subst hr1
    refine lv_if_ne (tgt := 19) hx hb dX9_refusedFor_13 (by decide) (fun c2 => ?_) (fun c2 => ?_)
    · have hv := hv.1 c2
      refine lv_aload_n hx hb dX9_refusedFor_19 rfl (lv_at hl 0 rfl) ?_
      refine va_get (ci := 9) (v := .int (rdI σ0 1)) (C := RX9) (T := TX9) (N := 38) hx hb hts hinX9 hown hK hP 0 (wR_0 cy ad σ0) rfl 1 (by decide) (hts (.fieldLink RX9 102 "TaleBansModel" "persons" "I") (List.mem_of_getElem? (i := 1) rfl)) (fun x h => h) rfl dX9_refusedFor_20 ?_
      refine lv_if_ne (tgt := 31) hx hb dX9_refusedFor_23 (by decide) (fun c1 => ?_) (fun c1 => ?_)
      · have hv := hv.1 c1
        refine lv_iconst (v := 0) hx hb dX9_refusedFor_31 (by decide) ?_
        rw [hZ]; rw [hQ] at hv
        exact W.iret (v := 0) hx hb hr (fun t ht hW => ⟨⟨0, (), rfl, hv, (P_of ht hP)⟩, hS.F ht⟩) hS.2.2 dX9_refusedFor_32
      · have hv := hv.2 c1
        refine lv_bipush (v := (-3)) hx hb dX9_refusedFor_26 (by decide) ?_
        refine lv_goto (tgt := 32) hx hb dX9_refusedFor_28 (by decide) ?_
        rw [hZ]; rw [hQ] at hv
        exact W.iret (v := (-3)) hx hb hr (fun t ht hW => ⟨⟨(-3), (), rfl, hv, (P_of ht hP)⟩, hS.F ht⟩) hS.2.2 dX9_refusedFor_32
    · have hv := hv.2 c2
      refine lv_bipush (v := (-2)) hx hb dX9_refusedFor_16 (by decide) ?_
      rw [hZ]; rw [hQ] at hv
      exact W.iret (v := (-2)) hx hb hr (fun t ht hW => ⟨⟨(-2), (), rfl, hv, (P_of ht hP)⟩, hS.F ht⟩) hS.2.2 dX9_refusedFor_18
  · have hv := hv.2 c3
    refine lv_iconst (v := (-1)) hx hb dX9_refusedFor_7 (by decide) ?_
    rw [hZ]; rw [hQ] at hv
    exact W.iret (v := (-1)) hx hb hr (fun t ht hW => ⟨⟨(-1), (), rfl, hv, (P_of ht hP)⟩, hS.F ht⟩) hS.2.2 dX9_refusedFor_8
set_option maxHeartbeats 4000000 in
set_option maxRecDepth 100000 in
theorem wk_X9_areSo (l : Launch) (h_X9_begin : Ct_X9_begin l) (h_X9_doesRemember : Ct_X9_doesRemember l) (h_X9_goSeason : Ct_X9_goSeason l) (sp : ∀ (ag : AS) (σ0 : S_), pre_X9_areSo ag σ0 → vc_X9_areSo σ0 (post_X9_areSo ag σ0)) : Ct_X9_areSo l := by
  intro D cy ad A  ag σ0  hpre
  refine Met.ofW (cc := cX9_areSo) (maxL := 4) (ret := (some .boolean)) (by decide) rfl ?_
  intro p e s m args below meth c s₁ B hml hv0
  obtain ⟨rfl, hP, hK, hD, hN⟩ := hv0
  have hx := B.exec
  have hb := B.bytes
  have hr := B.returns
  have hts := atoms_spec (ws := wsX9_areSo) B.pre
  have hown : s.vm.findClass RX9 = some m.cls := findClass_of_methodNamed B.named
  have hlocks := B.notSynchronized
  have hv := sp  ag σ0 hpre
  have hl := lv_entry ([.ref (ad 0)]) (n := 4) (Nat.le_of_ble_eq_true rfl)
  rw [lg_entry_eq]
  generalize (lg_sl ([.ref (ad 0)]) ++ List.replicate (4 - (lg_sl ([.ref (ad 0)])).length) Slot.unset).toArray = ls at hl ⊢
  have hl : lv_has ls 4 [(0, .ref (ad 0))] := hl
  refine W_gen (fun R Z H locs hR hZ hH hlo => ?_)
  have hRf : R.frames = 5 := by rw [hR]; rfl
  have hRl : R.locals = 117 := by rw [hR]; rfl
  have hRc : R.cells = 0 := by rw [hR]; rfl
  have hRs : R.slots = 0 := by rw [hR]; rfl
  have hS : va_S A s.heap H locs := by rw [hH, hlo]; exact va_S.rf
  rw [← hH] at hP
  obtain ⟨Q, hQ⟩ : ∃ q : Int32 → S_ → Prop, q = (post_X9_areSo  ag σ0) := ⟨_, rfl⟩
  rw [← hQ] at hv
  have hinX9 : ∀ w ∈ wsX90, w ∈ wsX9_areSo := by decide +kernel
  refine lv_iconst (v := 1) hx hb dX9_areSo_0 (by decide) ?_
  refine lv_istore_n (lv' := [(1, .int 1), (0, .ref (ad 0))]) hx hb dX9_areSo_1 rfl hl (by decide) rfl (fun ls hl => ?_)
  refine lv_aload_n hx hb dX9_areSo_2 rfl (lv_at hl 1 rfl) ?_
  obtain ⟨g1, hv⟩ := hv
  obtain ⟨hp, hv⟩ := hv
  refine k_rel_v (w := wR cy ad) (va_runV (As := []) (rest := []) ⟨hx, hb, hml, hown, hts⟩ (h_X9_begin D cy ad A g1 σ0 hp) (cwV 0 hts gX9_areSo_X9_begin rfl rfl rfl (by decide +kernel) ⟨le_R hRf (Nat.le_of_ble_eq_true rfl), le_R hRl (Nat.le_of_ble_eq_true rfl)⟩) ⟨(fun a U g mk q => ⟨q.1, q.2.blind⟩), va_recv hK hP (ci := 9) (q0 := 0) rfl (wR_0 cy ad σ0), (fun U hU hW => ⟨rfl, WdR.pre hP hK hD hN hU hW⟩)⟩ rfl rfl hl.1 rfl (lv_room (Nat.le_of_ble_eq_true rfl)) dX9_areSo_3 ⟨le_R hRc (Nat.le_refl 0), le_R hRs (Nat.le_refl 0)⟩) hS (fun σ2 H locs hr1 hP hD hS => ?_)
  have hv := hv σ2 hr1
  refine lv_iconst (v := 0) hx hb dX9_areSo_6 (by decide) ?_
  refine lv_istore_n (lv' := [(2, .int 0), (1, .int 1), (0, .ref (ad 0))]) hx hb dX9_areSo_7 rfl hl (by decide) rfl (fun ls hl => ?_)
  obtain ⟨n8, hv⟩ := hv
  have lp8 : ∀ (nn8 : Nat) (x3 : Int32) (x4 : Int32) (σ5 : S_) (H : Heap) (locs : List Loc) (ls : Array Slot), vl_X9_areSo_8 Q nn8 x3 x4 σ5 → va_P D vwCl (wR cy ad σ5) H → va_D A (wR cy ad σ5) → va_S A s.heap H locs → lv_has ls 4 [(0, .ref (ad 0)), (1, .int x3), (2, .int x4)] → W p l e R s m ([.ref (ad 0)] : List Value).toArray  below meth c H locs 0 0 Z (F0 m 8 ls []) := by
    intro nn8
    induction nn8 with
    | zero => intro x3 x4 σ5 H locs ls hv; exact absurd hv id
    | succ mm8 ih8 =>
      intro x3 x4 σ5 H locs ls hv hP hD hS hl
      refine lv_iload_n hx hb dX9_areSo_8 rfl (lv_at hl 2 rfl) ?_
      refine lv_bipush (v := 40) hx hb dX9_areSo_9 (by decide) ?_
      refine lv_icmp_ge (tgt := 91) hx hb dX9_areSo_11 (by decide) (fun c26 => ?_) (fun c26 => ?_)
      · have hv := hv.1 c26
        refine lv_iload_n hx hb dX9_areSo_91 rfl (lv_at hl 1 rfl) ?_
        obtain ⟨h01, hv⟩ := hv
        rw [hZ]; rw [hQ] at hv
        exact W.zret (v := x3) hx hb hr (nar_b h01) (fun t ht hW => ⟨⟨x3, σ5, rfl, hv, ⟨P_of ht hP, hD⟩⟩, hS.F ht⟩) hS.2.2 dX9_areSo_92
      · have hv := hv.2 c26
        refine lv_iload_n hx hb dX9_areSo_14 rfl (lv_at hl 1 rfl) ?_
        refine lv_if_eq (tgt := 91) hx hb dX9_areSo_15 (by decide) (fun c25 => ?_) (fun c25 => ?_)
        · have hv := hv.1 c25
          refine lv_iload_n hx hb dX9_areSo_91 rfl (lv_at hl 1 rfl) ?_
          obtain ⟨h01, hv⟩ := hv
          rw [hZ]; rw [hQ] at hv
          exact W.zret (v := x3) hx hb hr (nar_b h01) (fun t ht hW => ⟨⟨x3, σ5, rfl, hv, ⟨P_of ht hP, hD⟩⟩, hS.F ht⟩) hS.2.2 dX9_areSo_92
        · have hv := hv.2 c25
          refine lv_aload_n hx hb dX9_areSo_18 rfl (lv_at hl 0 rfl) ?_
          refine lv_iload_n hx hb dX9_areSo_19 rfl (lv_at hl 2 rfl) ?_
          obtain ⟨g6, g7, g8, hv⟩ := hv
          obtain ⟨hp, hv⟩ := hv
          refine k_rel_v (w := wR cy ad) (va_runV (As := [.int x4]) (rest := []) ⟨hx, hb, hml, hown, hts⟩ (h_X9_goSeason D cy ad A x4 g6 g7 g8 σ5 hp) (cwV 1 hts gX9_areSo_X9_goSeason rfl rfl rfl (by decide +kernel) ⟨le_R hRf (Nat.le_of_ble_eq_true rfl), le_R hRl (Nat.le_of_ble_eq_true rfl)⟩) ⟨(fun a U g mk q => ⟨q.1, q.2.blind⟩), va_recv hK hP (ci := 9) (q0 := 0) rfl (wR_0 cy ad σ5), (fun U hU hW => ⟨rfl, WdR.pre hP hK hD hN hU hW⟩)⟩ rfl rfl hl.1 rfl (lv_room (Nat.le_of_ble_eq_true rfl)) dX9_areSo_20 ⟨le_R hRc (Nat.le_refl 0), le_R hRs (Nat.le_refl 0)⟩) hS (fun σ9 H locs hr1 hP hD hS => ?_)
          have hv := hv σ9 hr1
          refine lv_iconst (v := 0) hx hb dX9_areSo_23 (by decide) ?_
          refine lv_istore_n (lv' := [(3, .int 0), (0, .ref (ad 0)), (1, .int x3), (2, .int x4)]) hx hb dX9_areSo_24 rfl hl (by decide) rfl (fun ls hl => ?_)
          obtain ⟨n25, hv⟩ := hv
          have lp25 : ∀ (nn25 : Nat) (x10 : Int32) (x11 : Int32) (H : Heap) (locs : List Loc) (ls : Array Slot), vl_X9_areSo_25 x4 σ9 (vl_X9_areSo_8 Q mm8) nn25 x10 x11 → va_P D vwCl (wR cy ad σ9) H → va_D A (wR cy ad σ9) → va_S A s.heap H locs → lv_has ls 4 [(0, .ref (ad 0)), (1, .int x10), (2, .int x4), (3, .int x11)] → W p l e R s m ([.ref (ad 0)] : List Value).toArray  below meth c H locs 0 0 Z (F0 m 25 ls []) := by
            intro nn25
            induction nn25 with
            | zero => intro x10 x11 H locs ls hv; exact absurd hv id
            | succ mm25 ih25 =>
              intro x10 x11 H locs ls hv hP hD hS hl
              refine lv_iload_n hx hb dX9_areSo_25 rfl (lv_at hl 3 rfl) ?_
              refine lv_aload_n hx hb dX9_areSo_26 rfl (lv_at hl 0 rfl) ?_
              refine va_get (ci := 9) (v := .int (rdI σ9 9)) (C := RX9) (T := TX9) (N := 38) hx hb hts hinX9 hown hK hP 0 (wR_0 cy ad σ9) rfl 28 (by decide) (hts (.fieldLink RX9 170 "TaleBansModel" "readings" "I") (List.mem_of_getElem? (i := 1) rfl)) (fun x h => h) rfl dX9_areSo_27 ?_
              refine lv_icmp_ge (tgt := 85) hx hb dX9_areSo_30 (by decide) (fun c24 => ?_) (fun c24 => ?_)
              · have hv := hv.1 c24
                refine lv_iinc (v := (x4 + 1)) (lv' := [(2, .int (x4 + 1)), (0, .ref (ad 0)), (1, .int x10), (3, .int x11)]) hx hb dX9_areSo_85 hl (k := 2) rfl rfl (by decide) rfl (fun ls hl => ?_)
                refine lv_goto (tgt := 8) hx hb dX9_areSo_88 (by decide) ?_
                exact ih8 x10 (x4 + 1) σ9 _ _ _ hv hP hD hS (lv_sub hl [1, 2, 0] rfl)
              · have hv := hv.2 c24
                refine lv_iload_n hx hb dX9_areSo_33 rfl (lv_at hl 1 rfl) ?_
                obtain ⟨P12, hv, hvr⟩ := hv
                have jn13 : ∀ (b14 : Int32) (H : Heap) (locs : List Loc) (ls : Array Slot), P12 b14 → va_P D vwCl (wR cy ad σ9) H → va_S A s.heap H locs → lv_has ls 4 [(0, .ref (ad 0)), (1, .int x10), (2, .int x4), (3, .int x11)] → W p l e R s m ([.ref (ad 0)] : List Value).toArray below meth c H locs 0 0 Z (F0 m 78 ls [.int b14]) := by
                  intro b14 H locs ls hv hP hS hl
                  have hv := hvr b14 hv
                  refine lv_istore_n (lv' := [(1, .int b14), (0, .ref (ad 0)), (2, .int x4), (3, .int x11)]) hx hb dX9_areSo_78 rfl hl (by decide) rfl (fun ls hl => ?_)
                  refine lv_iinc (v := (x11 + 1)) (lv' := [(3, .int (x11 + 1)), (1, .int b14), (0, .ref (ad 0)), (2, .int x4)]) hx hb dX9_areSo_79 hl (k := 3) rfl rfl (by decide) rfl (fun ls hl => ?_)
                  refine lv_goto (tgt := 25) hx hb dX9_areSo_82 (by decide) ?_
                  exact ih25 b14 (x11 + 1) _ _ _ hv hP hD hS (lv_sub hl [2, 1, 3, 0] rfl)
                refine lv_if_eq (tgt := 77) hx hb dX9_areSo_34 (by decide) (fun c23 => ?_) (fun c23 => ?_)
                · have hv := hv.1 c23
                  refine lv_iconst (v := 0) hx hb dX9_areSo_77 (by decide) ?_
                  exact jn13 0 _ _ _ hv hP hS hl
                · have hv := hv.2 c23
                  refine lv_aload_n hx hb dX9_areSo_37 rfl (lv_at hl 0 rfl) ?_
                  refine va_get (ci := 9) (v := .ref (ad (22))) (C := RX9) (T := TX9) (N := 38) hx hb hts hinX9 hown hK hP 0 (wR_0 cy ad σ9) rfl 31 (by decide) (hts (.fieldLink RX9 74 "TaleBansModel" "readingIn" "[I") (List.mem_of_getElem? (i := 2) rfl)) (fun x h => h) rfl dX9_areSo_38 ?_
                  refine lv_iload_n hx hb dX9_areSo_41 rfl (lv_at hl 3 rfl) ?_
                  obtain ⟨hi, hv⟩ := hv
                  refine va_iald hx hb hK hP 22 0 (wR_22 cy ad σ9) rfl hi dX9_areSo_42 ?_
                  refine lv_iload_n hx hb dX9_areSo_43 rfl (lv_at hl 2 rfl) ?_
                  refine lv_icmp_ne (tgt := 73) hx hb dX9_areSo_44 (by decide) (fun c22 => ?_) (fun c22 => ?_)
                  · have hv := hv.1 c22
                    refine lv_iconst (v := 1) hx hb dX9_areSo_73 (by decide) ?_
                    refine lv_goto (tgt := 78) hx hb dX9_areSo_74 (by decide) ?_
                    exact jn13 1 _ _ _ hv hP hS hl
                  · have hv := hv.2 c22
                    refine lv_aload_n hx hb dX9_areSo_47 rfl (lv_at hl 0 rfl) ?_
                    refine lv_aload_n hx hb dX9_areSo_48 rfl (lv_at hl 0 rfl) ?_
                    refine va_get (ci := 9) (v := .ref (ad (20))) (C := RX9) (T := TX9) (N := 38) hx hb hts hinX9 hown hK hP 0 (wR_0 cy ad σ9) rfl 29 (by decide) (hts (.fieldLink RX9 68 "TaleBansModel" "readingOf" "[I") (List.mem_of_getElem? (i := 3) rfl)) (fun x h => h) rfl dX9_areSo_49 ?_
                    refine lv_iload_n hx hb dX9_areSo_52 rfl (lv_at hl 3 rfl) ?_
                    obtain ⟨hi, hv⟩ := hv
                    refine va_iald hx hb hK hP 20 0 (wR_20 cy ad σ9) rfl hi dX9_areSo_53 ?_
                    refine lv_aload_n hx hb dX9_areSo_54 rfl (lv_at hl 0 rfl) ?_
                    refine va_get (ci := 9) (v := .ref (ad (21))) (C := RX9) (T := TX9) (N := 38) hx hb hts hinX9 hown hK hP 0 (wR_0 cy ad σ9) rfl 30 (by decide) (hts (.fieldLink RX9 71 "TaleBansModel" "readingTale" "[I") (List.mem_of_getElem? (i := 4) rfl)) (fun x h => h) rfl dX9_areSo_55 ?_
                    refine lv_iload_n hx hb dX9_areSo_58 rfl (lv_at hl 3 rfl) ?_
                    obtain ⟨hi, hv⟩ := hv
                    refine va_iald hx hb hK hP 21 0 (wR_21 cy ad σ9) rfl hi dX9_areSo_59 ?_
                    refine lv_iload_n hx hb dX9_areSo_60 rfl (lv_at hl 2 rfl) ?_
                    obtain ⟨g15, g16, g17, g18, g19, hv⟩ := hv
                    obtain ⟨hp, hv⟩ := hv
                    refine k_read_i (w := wR cy ad) (va_runV (As := [.int (rdA σ9 20 (Int32.toNatClampNeg x11)), .int (rdA σ9 21 (Int32.toNatClampNeg x11)), .int x4]) (rest := []) ⟨hx, hb, hml, hown, hts⟩ (h_X9_doesRemember D cy ad A (rdA σ9 20 (Int32.toNatClampNeg x11)) (rdA σ9 21 (Int32.toNatClampNeg x11)) x4 g15 g16 g17 g18 g19 σ9 hp) (cwV 3 hts gX9_areSo_X9_doesRemember rfl rfl rfl (by decide +kernel) ⟨le_R hRf (Nat.le_of_ble_eq_true rfl), le_R hRl (Nat.le_of_ble_eq_true rfl)⟩) ⟨(fun a U g mk q => ⟨q.1, q.2.blind⟩), va_recv hK hP (ci := 9) (q0 := 0) rfl (wR_0 cy ad σ9), (fun U hU hW => ⟨rfl, WdR.pre hP hK hD hN hU hW⟩)⟩ rfl rfl hl.1 rfl (lv_room (Nat.le_of_ble_eq_true rfl)) dX9_areSo_61 ⟨le_R hRc (Nat.le_refl 0), le_R hRs (Nat.le_refl 0)⟩) hS (fun r20 H locs hr1 hP hS => ?_)
                    have hv := hv r20 hr1
                    refine lv_aload_n hx hb dX9_areSo_64 rfl (lv_at hl 0 rfl) ?_
                    refine va_get (ci := 9) (v := .ref (ad (23))) (C := RX9) (T := TX9) (N := 38) hx hb hts hinX9 hown hK hP 0 (wR_0 cy ad σ9) rfl 32 (by decide) (hts (.fieldLink RX9 77 "TaleBansModel" "readingDid" "[Z") (List.mem_of_getElem? (i := 5) rfl)) (fun x h => h) rfl dX9_areSo_65 ?_
                    refine lv_iload_n hx hb dX9_areSo_68 rfl (lv_at hl 3 rfl) ?_
                    obtain ⟨hi, hv⟩ := hv
                    refine va_zald hx hb hK hP 23 1 (wR_23 cy ad σ9) rfl hi dX9_areSo_69 ?_
                    refine lv_icmp_ne (tgt := 77) hx hb dX9_areSo_70 (by decide) (fun c21 => ?_) (fun c21 => ?_)
                    · have hv := hv.1 c21
                      refine lv_iconst (v := 0) hx hb dX9_areSo_77 (by decide) ?_
                      exact jn13 0 _ _ _ hv hP hS hl
                    · have hv := hv.2 c21
                      refine lv_iconst (v := 1) hx hb dX9_areSo_73 (by decide) ?_
                      refine lv_goto (tgt := 78) hx hb dX9_areSo_74 (by decide) ?_
                      exact jn13 1 _ _ _ hv hP hS hl
          exact lp25 n25 x3 0 _ _ _ hv hP hD hS (lv_sub hl [1, 2, 3, 0] rfl)
  exact lp8 n8 1 0 σ2 _ _ _ hv hP hD hS (lv_sub hl [2, 1, 0] rfl)
set_option maxHeartbeats 4000000 in
set_option maxRecDepth 100000 in
theorem wk_X9_noCell (l : Launch) (h_X9_in : Ct_X9_in l) (sp : ∀ (k_ : Int32) (i_ : Int32) (σ0 : S_), pre_X9_noCell k_ i_ σ0 → vc_X9_noCell k_ i_ σ0 (fun r => r = fn_X9_noCell k_ i_ σ0)) : Ct_X9_noCell l := by
  intro D cy ad A k_ i_  σ0  hpre
  refine Met.ofW (cc := cX9_noCell) (maxL := 3) (ret := (some .int)) (by decide) rfl ?_
  intro p e s m args below meth c s₁ B hml hv0
  obtain ⟨rfl, hP, hK, hD, hN⟩ := hv0
  have hx := B.exec
  have hb := B.bytes
  have hr := B.returns
  have hts := atoms_spec (ws := wsX9_noCell) B.pre
  have hown : s.vm.findClass RX9 = some m.cls := findClass_of_methodNamed B.named
  have hlocks := B.notSynchronized
  have hv := sp k_ i_  σ0 hpre
  have hl := lv_entry ([.ref (ad 0), .int k_, .int i_]) (n := 3) (Nat.le_of_ble_eq_true rfl)
  rw [lg_entry_eq]
  generalize (lg_sl ([.ref (ad 0), .int k_, .int i_]) ++ List.replicate (3 - (lg_sl ([.ref (ad 0), .int k_, .int i_])).length) Slot.unset).toArray = ls at hl ⊢
  have hl : lv_has ls 3 [(0, .ref (ad 0)), (1, .int k_), (2, .int i_)] := hl
  refine W_gen (fun R Z H locs hR hZ hH hlo => ?_)
  have hRf : R.frames = 1 := by rw [hR]; rfl
  have hRl : R.locals = 25 := by rw [hR]; rfl
  have hRc : R.cells = 0 := by rw [hR]; rfl
  have hRs : R.slots = 0 := by rw [hR]; rfl
  have hS : va_S A s.heap H locs := by rw [hH, hlo]; exact va_S.rf
  rw [← hH] at hP
  obtain ⟨Q, hQ⟩ : ∃ q : Int32 → Prop, q = (fun r => r = fn_X9_noCell k_ i_ σ0) := ⟨_, rfl⟩
  rw [← hQ] at hv
  have hinX9 : ∀ w ∈ wsX90, w ∈ wsX9_noCell := by decide +kernel
  refine lv_aload_n hx hb dX9_noCell_0 rfl (lv_at hl 0 rfl) ?_
  refine va_get (ci := 9) (v := .ref (ad (24))) (C := RX9) (T := TX9) (N := 38) hx hb hts hinX9 hown hK hP 0 (wR_0 cy ad σ0) rfl 33 (by decide) (hts (.fieldLink RX9 80 "TaleBansModel" "sheetSize" "[I") (List.mem_of_getElem? (i := 1) rfl)) (fun x h => h) rfl dX9_noCell_1 ?_
  refine lv_iload_n hx hb dX9_noCell_4 rfl (lv_at hl 1 rfl) ?_
  obtain ⟨hi, hv⟩ := hv
  refine va_iald hx hb hK hP 24 0 (wR_24 cy ad σ0) rfl hi dX9_noCell_5 ?_
  refine lv_if_ge (tgt := 13) hx hb dX9_noCell_6 (by decide) (fun c2 => ?_) (fun c2 => ?_)
  · have hv := hv.1 c2
    refine lv_iload_n hx hb dX9_noCell_13 rfl (lv_at hl 2 rfl) ?_
    refine lv_i2l hx hb dX9_noCell_14 rfl ?_
    refine lv_lconst (v := 0) hx hb dX9_noCell_15 rfl ?_
    refine lv_aload_n hx hb dX9_noCell_16 rfl (lv_at hl 0 rfl) ?_
    refine va_get (ci := 9) (v := .ref (ad (24))) (C := RX9) (T := TX9) (N := 38) hx hb hts hinX9 hown hK hP 0 (wR_0 cy ad σ0) rfl 33 (by decide) (hts (.fieldLink RX9 80 "TaleBansModel" "sheetSize" "[I") (List.mem_of_getElem? (i := 1) rfl)) (fun x h => h) rfl dX9_noCell_17 ?_
    refine lv_iload_n hx hb dX9_noCell_20 rfl (lv_at hl 1 rfl) ?_
    obtain ⟨hi, hv⟩ := hv
    refine va_iald hx hb hK hP 24 0 (wR_24 cy ad σ0) rfl hi dX9_noCell_21 ?_
    refine lv_i2l hx hb dX9_noCell_22 rfl ?_
    refine lv_lconst (v := 1) hx hb dX9_noCell_23 rfl ?_
    refine lv_lsub hx hb dX9_noCell_24 ?_
    refine k_pure_i (va_runS (As := [.long (Int32.toInt64 i_), .long 0, .long ((Int32.toInt64 (rdA σ0 24 (Int32.toNatClampNeg k_))) - 1)]) (rest := []) ⟨hx, hb, hml, hown, hts⟩ (h_X9_in (Int32.toInt64 i_) 0 ((Int32.toInt64 (rdA σ0 24 (Int32.toNatClampNeg k_))) - 1)) (va_cwS 3 hts gX9_noCell_X9_in rfl rfl rfl (by decide +kernel) ⟨le_R hRf (Nat.le_of_ble_eq_true rfl), le_R hRl (Nat.le_of_ble_eq_true rfl)⟩) ⟨(fun a U g mk q => ⟨q.1, trivial⟩), (fun U hU hW => ⟨rfl, trivial⟩)⟩ rfl rfl hl.1 rfl (lv_room (Nat.le_of_ble_eq_true rfl)) dX9_noCell_25 ⟨le_R hRc (Nat.le_refl 0), le_R hRs (Nat.le_refl 0)⟩) hS hP (fun r H locs hr1 hP hS => ?_)
    subst hr1
    refine lv_if_eq (tgt := 35) hx hb dX9_noCell_28 (by decide) (fun c1 => ?_) (fun c1 => ?_)
    · have hv := hv.1 c1
      refine lv_iconst (v := 3) hx hb dX9_noCell_35 (by decide) ?_
      rw [hZ]; rw [hQ] at hv
      exact W.iret (v := 3) hx hb hr (fun t ht hW => ⟨⟨3, (), rfl, hv, (P_of ht hP)⟩, hS.F ht⟩) hS.2.2 dX9_noCell_36
    · have hv := hv.2 c1
      refine lv_iconst (v := 0) hx hb dX9_noCell_31 (by decide) ?_
      refine lv_goto (tgt := 36) hx hb dX9_noCell_32 (by decide) ?_
      rw [hZ]; rw [hQ] at hv
      exact W.iret (v := 0) hx hb hr (fun t ht hW => ⟨⟨0, (), rfl, hv, (P_of ht hP)⟩, hS.F ht⟩) hS.2.2 dX9_noCell_36
  · have hv := hv.2 c2
    refine lv_iconst (v := 1) hx hb dX9_noCell_9 (by decide) ?_
    refine lv_goto (tgt := 36) hx hb dX9_noCell_10 (by decide) ?_
    rw [hZ]; rw [hQ] at hv
    exact W.iret (v := 1) hx hb hr (fun t ht hW => ⟨⟨1, (), rfl, hv, (P_of ht hP)⟩, hS.F ht⟩) hS.2.2 dX9_noCell_36
set_option maxHeartbeats 4000000 in
set_option maxRecDepth 100000 in
theorem wk_X9_traced (l : Launch) (sp : ∀ (b_ : Int32) (σ0 : S_), True → vc_X9_traced b_ σ0 (post_X9_traced b_ σ0)) : Ct_X9_traced l := by
  intro D cy ad A b_  σ0  hpre
  refine Met.ofW (cc := cX9_traced) (maxL := 2) (ret := none) (by decide) rfl ?_
  intro p e s m args below meth c s₁ B hml hv0
  obtain ⟨rfl, hP, hK, hD, hN⟩ := hv0
  have hx := B.exec
  have hb := B.bytes
  have hr := B.returns
  have hts := atoms_spec (ws := wsX9_traced) B.pre
  have hown : s.vm.findClass RX9 = some m.cls := findClass_of_methodNamed B.named
  have hlocks := B.notSynchronized
  have hv := sp b_  σ0 hpre
  have hl := lv_entry ([.ref (ad 0), .int b_]) (n := 2) (Nat.le_of_ble_eq_true rfl)
  rw [lg_entry_eq]
  generalize (lg_sl ([.ref (ad 0), .int b_]) ++ List.replicate (2 - (lg_sl ([.ref (ad 0), .int b_])).length) Slot.unset).toArray = ls at hl ⊢
  have hl : lv_has ls 2 [(0, .ref (ad 0)), (1, .int b_)] := hl
  refine W_gen (fun R Z H locs hR hZ hH hlo => ?_)
  have hRf : R.frames = 0 := by rw [hR]; rfl
  have hRl : R.locals = 0 := by rw [hR]; rfl
  have hRc : R.cells = 0 := by rw [hR]; rfl
  have hRs : R.slots = 0 := by rw [hR]; rfl
  have hS : va_S A s.heap H locs := by rw [hH, hlo]; exact va_S.rf
  rw [← hH] at hP
  obtain ⟨Q, hQ⟩ : ∃ q : S_ → Prop, q = (post_X9_traced b_  σ0) := ⟨_, rfl⟩
  rw [← hQ] at hv
  have hinX9 : ∀ w ∈ wsX90, w ∈ wsX9_traced := by decide +kernel
  refine lv_aload_n hx hb dX9_traced_0 rfl (lv_at hl 0 rfl) ?_
  refine lv_bipush (v := 31) hx hb dX9_traced_1 (by decide) ?_
  refine lv_aload_n hx hb dX9_traced_3 rfl (lv_at hl 0 rfl) ?_
  refine va_get (ci := 9) (v := .int (rdI σ0 10)) (C := RX9) (T := TX9) (N := 38) hx hb hts hinX9 hown hK hP 0 (wR_0 cy ad σ0) rfl 37 (by decide) (hts (.fieldLink RX9 257 "TaleBansModel" "traceNow" "I") (List.mem_of_getElem? (i := 1) rfl)) (fun x h => h) rfl dX9_traced_4 ?_
  refine lv_imul hx hb dX9_traced_7 ?_
  refine lv_iload_n hx hb dX9_traced_8 rfl (lv_at hl 1 rfl) ?_
  refine lv_iadd hx hb dX9_traced_9 ?_
  refine va_put (ci := 9) (v := .int ((31 * (rdI σ0 10)) + b_)) (ty := .int) (C := RX9) (T := TX9) (N := 38) hx hb hts hinX9 tyX9 tyX9_ok nmX9 hown hK hP hD hS 0 (wR_0 cy ad σ0) rfl 37 (by decide) (hts (.fieldLink RX9 257 "TaleBansModel" "traceNow" "I") (List.mem_of_getElem? (i := 1) rfl)) (fun x h => h) rfl (by decide +kernel) rfl rfl (Nat.le_of_ble_eq_true rfl) dX9_traced_10 (fun H locs hP hD hS => ?_)
  obtain ⟨σ1, e2⟩ : ∃ y : S_, y = wrI σ0 10 ((31 * (rdI σ0 10)) + b_) := ⟨_, rfl⟩
  have hP : va_P D vwCl (wR cy ad σ1) H := by rw [e2]; exact hP
  have hD : va_D A (wR cy ad σ1) := by rw [e2]; exact hD
  have hv := hv σ1 e2
  rw [hZ]; rw [hQ] at hv
  exact W.vret hx hb hr (fun t ht hW => ⟨⟨σ1, rfl, hv, ⟨P_of ht hP, hD⟩⟩, hS.F ht⟩) hS.2.2 dX9_traced_13
