set_option maxHeartbeats 4000000 in
set_option maxRecDepth 100000 in
theorem wk_X9_steppe (l : Launch) (h_X9_cellsBarred : Ct_X9_cellsBarred l) (h_X9_in : Ct_X9_in l) (h_X9_noSheet : Ct_X9_noSheet l) (h_X9_readsSteppe : Ct_X9_readsSteppe l) (h_X9_refused : Ct_X9_refused l) (sp : Sp_X9_steppe) : Ct_X9_steppe l := by
  intro D cy ad A sh_ lane_ i_ n_ ag σ0  hpre
  refine Met.ofW (cc := cX9_steppe) (maxL := 7) (ret := (some .int)) (by decide) rfl ?_
  intro p e s m args below meth c s₁ B hml hv0
  obtain ⟨rfl, hP, hK, hD, hN⟩ := hv0
  have hx := B.exec
  have hb := B.bytes
  have hr := B.returns
  have hts := atoms_spec (ws := wsX9_steppe) B.pre
  have hown : s.vm.findClass RX9 = some m.cls := findClass_of_methodNamed B.named
  have hlocks := B.notSynchronized
  have hv := sp sh_ lane_ i_ n_ ag σ0 hpre
  have hl := lv_entry ([.ref (ad 0), .int sh_, .int lane_, .int i_, .int n_]) (n := 7) (Nat.le_of_ble_eq_true rfl)
  rw [lg_entry_eq]
  generalize (lg_sl ([.ref (ad 0), .int sh_, .int lane_, .int i_, .int n_]) ++ List.replicate (7 - (lg_sl ([.ref (ad 0), .int sh_, .int lane_, .int i_, .int n_])).length) Slot.unset).toArray = ls at hl ⊢
  have hl : lv_has ls 7 [(0, .ref (ad 0)), (1, .int sh_), (2, .int lane_), (3, .int i_), (4, .int n_)] := hl
  refine W_gen (fun R Z H locs hR hZ hH hlo => ?_)
  have hRf : R.frames = 4 := by rw [hR]; rfl
  have hRl : R.locals = 99 := by rw [hR]; rfl
  have hRc : R.cells = 0 := by rw [hR]; rfl
  have hRs : R.slots = 0 := by rw [hR]; rfl
  have hS : va_S A s.heap H locs := by rw [hH, hlo]; exact va_S.rf
  rw [← hH] at hP
  obtain ⟨Q, hQ⟩ : ∃ q : Int32 → S_ → Prop, q = (post_X9_steppe sh_ lane_ i_ n_ ag σ0) := ⟨_, rfl⟩
  rw [← hQ] at hv
  have hinX9 : ∀ w ∈ wsX90, w ∈ wsX9_steppe := by decide +kernel
  refine lv_iload_n hx hb dX9_steppe_0 rfl (lv_at hl 1 rfl) ?_
  refine k_pure_i (va_runS (As := [.int sh_]) (rest := []) ⟨hx, hb, hml, hown, hts⟩ (h_X9_noSheet sh_) (va_cwS 1 hts gX9_steppe_X9_noSheet rfl rfl rfl (by decide +kernel) ⟨le_R hRf (Nat.le_of_ble_eq_true rfl), le_R hRl (Nat.le_of_ble_eq_true rfl)⟩) ⟨(fun a U g mk q => ⟨q.1, trivial⟩), (fun U hU hW => ⟨rfl, trivial⟩)⟩ rfl rfl hl.1 rfl (lv_room (Nat.le_of_ble_eq_true rfl)) dX9_steppe_1 ⟨le_R hRc (Nat.le_refl 0), le_R hRs (Nat.le_refl 0)⟩) hS hP (fun r H locs hr1 hP hS => ?_)
  subst hr1
  refine lv_if_eq (tgt := 13) hx hb dX9_steppe_4 (by decide) (fun c44 => ?_) (fun c44 => ?_)
  · have hv := hv.1 c44
    refine lv_iload_n hx hb dX9_steppe_13 rfl (lv_at hl 2 rfl) ?_
    refine lv_i2l hx hb dX9_steppe_14 rfl ?_
    refine lv_lconst (v := 0) hx hb dX9_steppe_15 rfl ?_
    refine lv_ldc2 (v := (2)) hx hb hown (hts (.constantLong RX9 114 (2)) (List.mem_of_getElem? (i := 1) rfl)) dX9_steppe_16 ?_
    refine k_pure_i (va_runS (As := [.long (Int32.toInt64 lane_), .long 0, .long (2)]) (rest := []) ⟨hx, hb, hml, hown, hts⟩ (h_X9_in (Int32.toInt64 lane_) 0 (2)) (va_cwS 3 hts gX9_steppe_X9_in rfl rfl rfl (by decide +kernel) ⟨le_R hRf (Nat.le_of_ble_eq_true rfl), le_R hRl (Nat.le_of_ble_eq_true rfl)⟩) ⟨(fun a U g mk q => ⟨q.1, trivial⟩), (fun U hU hW => ⟨rfl, trivial⟩)⟩ rfl rfl hl.1 rfl (lv_room (Nat.le_of_ble_eq_true rfl)) dX9_steppe_19 ⟨le_R hRc (Nat.le_refl 0), le_R hRs (Nat.le_refl 0)⟩) hS hP (fun r H locs hr1 hP hS => ?_)
    subst hr1
    refine lv_if_ne (tgt := 32) hx hb dX9_steppe_22 (by decide) (fun c41 => ?_) (fun c41 => ?_)
    · have hv := hv.1 c41
      refine lv_aload_n hx hb dX9_steppe_32 rfl (lv_at hl 0 rfl) ?_
      refine lv_iload_n hx hb dX9_steppe_33 rfl (lv_at hl 1 rfl) ?_
      refine lv_iload_n hx hb dX9_steppe_34 rfl (lv_at hl 2 rfl) ?_
      refine lv_iload_n hx hb dX9_steppe_35 rfl (lv_at hl 3 rfl) ?_
      refine lv_iload hx hb dX9_steppe_36 (lv_at hl 4 rfl) ?_
      refine lv_i2l hx hb dX9_steppe_38 rfl ?_
      obtain ⟨g1, g2, g3, hv⟩ := hv
      obtain ⟨hp, hv⟩ := hv
      refine k_rel_i (w := wR cy ad) (va_runV (As := [.int sh_, .int lane_, .int i_, .long (Int32.toInt64 n_)]) (rest := []) ⟨hx, hb, hml, hown, hts⟩ (h_X9_cellsBarred D cy ad A sh_ lane_ i_ (Int32.toInt64 n_) g1 g2 g3 σ0 hp) (cwV 4 hts gX9_steppe_X9_cellsBarred rfl rfl rfl (by decide +kernel) ⟨le_R hRf (Nat.le_of_ble_eq_true rfl), le_R hRl (Nat.le_of_ble_eq_true rfl)⟩) ⟨(fun a U g mk q => ⟨q.1, q.2.blind⟩), va_recv hK hP (ci := 9) (q0 := 0) rfl (wR_0 cy ad σ0), (fun U hU hW => ⟨rfl, WdR.pre hP hK hD hN hU hW⟩)⟩ rfl rfl hl.1 rfl (lv_room (Nat.le_of_ble_eq_true rfl)) dX9_steppe_39 ⟨le_R hRc (Nat.le_refl 0), le_R hRs (Nat.le_refl 0)⟩) hS (fun r5 σ4 H locs hr1 hP hD hS => ?_)
      have hv := hv r5 σ4 hr1
      refine lv_istore (lv' := [(5, .int r5), (0, .ref (ad 0)), (1, .int sh_), (2, .int lane_), (3, .int i_), (4, .int n_)]) hx hb dX9_steppe_42 hl (by decide) rfl (fun ls hl => ?_)
      refine lv_iload hx hb dX9_steppe_44 (lv_at hl 0 rfl) ?_
      refine lv_if_ge (tgt := 52) hx hb dX9_steppe_46 (by decide) (fun c38 => ?_) (fun c38 => ?_)
      · have hv := hv.1 c38
        refine lv_aload_n hx hb dX9_steppe_52 rfl (lv_at hl 1 rfl) ?_
        refine lv_bipush (v := 60) hx hb dX9_steppe_53 (by decide) ?_
        refine lv_iload_n hx hb dX9_steppe_55 rfl (lv_at hl 2 rfl) ?_
        refine lv_imul hx hb dX9_steppe_56 ?_
        refine lv_iload_n hx hb dX9_steppe_57 rfl (lv_at hl 4 rfl) ?_
        refine lv_iadd hx hb dX9_steppe_58 ?_
        refine lv_iload hx hb dX9_steppe_59 (lv_at hl 5 rfl) ?_
        obtain ⟨g6, g7, hv⟩ := hv
        obtain ⟨hp, hv⟩ := hv
        refine k_rel_i (w := wR cy ad) (va_runV (As := [.int ((60 * sh_) + i_), .int n_]) (rest := []) ⟨hx, hb, hml, hown, hts⟩ (h_X9_readsSteppe D cy ad A ((60 * sh_) + i_) n_ g6 g7 σ4 hp) (cwV 2 hts gX9_steppe_X9_readsSteppe rfl rfl rfl (by decide +kernel) ⟨le_R hRf (Nat.le_of_ble_eq_true rfl), le_R hRl (Nat.le_of_ble_eq_true rfl)⟩) ⟨(fun a U g mk q => ⟨q.1, q.2.blind⟩), va_recv hK hP (ci := 9) (q0 := 0) rfl (wR_0 cy ad σ4), (fun U hU hW => ⟨rfl, WdR.pre hP hK hD hN hU hW⟩)⟩ rfl rfl hl.1 rfl (lv_room (Nat.le_of_ble_eq_true rfl)) dX9_steppe_61 ⟨le_R hRc (Nat.le_refl 0), le_R hRs (Nat.le_refl 0)⟩) hS (fun r9 σ8 H locs hr1 hP hD hS => ?_)
        have hv := hv r9 σ8 hr1
        refine lv_if_ne (tgt := 79) hx hb dX9_steppe_64 (by decide) (fun c37 => ?_) (fun c37 => ?_)
        · have hv := hv.1 c37
          refine lv_aload_n hx hb dX9_steppe_79 rfl (lv_at hl 1 rfl) ?_
          refine lv_aload_n hx hb dX9_steppe_80 rfl (lv_at hl 1 rfl) ?_
          refine va_get (ci := 9) (v := .int (rdI σ8 5)) (C := RX9) (T := TX9) (N := 38) hx hb hts hinX9 hown hK hP 0 (wR_0 cy ad σ8) rfl 8 (by decide) (hts (.fieldLink RX9 125 "TaleBansModel" "readPersons" "I") (List.mem_of_getElem? (i := 3) rfl)) (fun x h => h) rfl dX9_steppe_81 ?_
          refine va_put (ci := 9) (v := .int (rdI σ8 5)) (ty := .int) (C := RX9) (T := TX9) (N := 38) hx hb hts hinX9 tyX9 tyX9_ok nmX9 hown hK hP hD hS 0 (wR_0 cy ad σ8) rfl 1 (by decide) (hts (.fieldLink RX9 102 "TaleBansModel" "persons" "I") (List.mem_of_getElem? (i := 4) rfl)) (fun x h => h) rfl (by decide +kernel) rfl rfl (Nat.le_of_ble_eq_true rfl) dX9_steppe_84 (fun H locs hP hD hS => ?_)
          obtain ⟨σ10, e11⟩ : ∃ y : S_, y = wrI σ8 1 (rdI σ8 5) := ⟨_, rfl⟩
          have hP : va_P D vwCl (wR cy ad σ10) H := by rw [e11]; exact hP
          have hD : va_D A (wR cy ad σ10) := by rw [e11]; exact hD
          have hv := hv σ10 e11
          refine lv_iconst (v := 0) hx hb dX9_steppe_87 (by decide) ?_
          refine lv_istore (lv' := [(6, .int 0), (5, .int r5), (0, .ref (ad 0)), (1, .int sh_), (2, .int lane_), (3, .int i_), (4, .int n_)]) hx hb dX9_steppe_88 hl (by decide) rfl (fun ls hl => ?_)
          obtain ⟨n90, hv⟩ := hv
          have lp90 : ∀ (nn90 : Nat) (x12 : Int32) (σ13 : S_) (H : Heap) (locs : List Loc) (ls : Array Slot), vl_X9_steppe_90 Q nn90 x12 σ13 → va_P D vwCl (wR cy ad σ13) H → va_D A (wR cy ad σ13) → va_S A s.heap H locs → lv_has ls 7 [(0, .ref (ad 0)), (6, .int x12)] → W p l e R s m ([.ref (ad 0), .int sh_, .int lane_, .int i_, .int n_] : List Value).toArray  below meth c H locs 0 0 Z (F0 m 90 ls []) := by
            intro nn90
            induction nn90 with
            | zero => intro x12 σ13 H locs ls hv; exact absurd hv id
            | succ mm90 ih90 =>
              intro x12 σ13 H locs ls hv hP hD hS hl
              refine lv_iload hx hb dX9_steppe_90 (lv_at hl 1 rfl) ?_
              refine lv_aload_n hx hb dX9_steppe_92 rfl (lv_at hl 0 rfl) ?_
              refine va_get (ci := 9) (v := .int (rdI σ13 1)) (C := RX9) (T := TX9) (N := 38) hx hb hts hinX9 hown hK hP 0 (wR_0 cy ad σ13) rfl 1 (by decide) (hts (.fieldLink RX9 102 "TaleBansModel" "persons" "I") (List.mem_of_getElem? (i := 4) rfl)) (fun x h => h) rfl dX9_steppe_93 ?_
              refine lv_icmp_ge (tgt := 147) hx hb dX9_steppe_96 (by decide) (fun c34 => ?_) (fun c34 => ?_)
              · have hv := hv.1 c34
                refine lv_aload_n hx hb dX9_steppe_147 rfl (lv_at hl 0 rfl) ?_
                refine lv_iconst (v := 0) hx hb dX9_steppe_148 (by decide) ?_
                refine va_put (ci := 9) (v := .int 0) (ty := .int) (C := RX9) (T := TX9) (N := 38) hx hb hts hinX9 tyX9 tyX9_ok nmX9 hown hK hP hD hS 0 (wR_0 cy ad σ13) rfl 5 (by decide) (hts (.fieldLink RX9 158 "TaleBansModel" "paidNow" "I") (List.mem_of_getElem? (i := 11) rfl)) (fun x h => h) rfl (by decide +kernel) rfl rfl (Nat.le_of_ble_eq_true rfl) dX9_steppe_149 (fun H locs hP hD hS => ?_)
                obtain ⟨σ14, e15⟩ : ∃ y : S_, y = wrI σ13 2 0 := ⟨_, rfl⟩
                have hP : va_P D vwCl (wR cy ad σ14) H := by rw [e15]; exact hP
                have hD : va_D A (wR cy ad σ14) := by rw [e15]; exact hD
                have hv := hv σ14 e15
                refine lv_aload_n hx hb dX9_steppe_152 rfl (lv_at hl 0 rfl) ?_
                refine lv_iconst (v := 0) hx hb dX9_steppe_153 (by decide) ?_
                refine va_put (ci := 9) (v := .int 0) (ty := .int) (C := RX9) (T := TX9) (N := 38) hx hb hts hinX9 tyX9 tyX9_ok nmX9 hown hK hP hD hS 0 (wR_0 cy ad σ14) rfl 6 (by decide) (hts (.fieldLink RX9 161 "TaleBansModel" "lawNow" "I") (List.mem_of_getElem? (i := 12) rfl)) (fun x h => h) rfl (by decide +kernel) rfl rfl (Nat.le_of_ble_eq_true rfl) dX9_steppe_154 (fun H locs hP hD hS => ?_)
                obtain ⟨σ16, e17⟩ : ∃ y : S_, y = wrI σ14 3 0 := ⟨_, rfl⟩
                have hP : va_P D vwCl (wR cy ad σ16) H := by rw [e17]; exact hP
                have hD : va_D A (wR cy ad σ16) := by rw [e17]; exact hD
                have hv := hv σ16 e17
                refine lv_aload_n hx hb dX9_steppe_157 rfl (lv_at hl 0 rfl) ?_
                refine lv_iconst (v := 0) hx hb dX9_steppe_158 (by decide) ?_
                refine va_put (ci := 9) (v := .int 0) (ty := .int) (C := RX9) (T := TX9) (N := 38) hx hb hts hinX9 tyX9 tyX9_ok nmX9 hown hK hP hD hS 0 (wR_0 cy ad σ16) rfl 12 (by decide) (hts (.fieldLink RX9 109 "TaleBansModel" "tales" "I") (List.mem_of_getElem? (i := 13) rfl)) (fun x h => h) rfl (by decide +kernel) rfl rfl (Nat.le_of_ble_eq_true rfl) dX9_steppe_159 (fun H locs hP hD hS => ?_)
                obtain ⟨σ18, e19⟩ : ∃ y : S_, y = wrI σ16 6 0 := ⟨_, rfl⟩
                have hP : va_P D vwCl (wR cy ad σ18) H := by rw [e19]; exact hP
                have hD : va_D A (wR cy ad σ18) := by rw [e19]; exact hD
                have hv := hv σ18 e19
                refine lv_aload_n hx hb dX9_steppe_162 rfl (lv_at hl 0 rfl) ?_
                refine lv_iconst (v := 0) hx hb dX9_steppe_163 (by decide) ?_
                refine va_put (ci := 9) (v := .int 0) (ty := .int) (C := RX9) (T := TX9) (N := 38) hx hb hts hinX9 tyX9 tyX9_ok nmX9 hown hK hP hD hS 0 (wR_0 cy ad σ18) rfl 17 (by decide) (hts (.fieldLink RX9 164 "TaleBansModel" "moves" "I") (List.mem_of_getElem? (i := 14) rfl)) (fun x h => h) rfl (by decide +kernel) rfl rfl (Nat.le_of_ble_eq_true rfl) dX9_steppe_164 (fun H locs hP hD hS => ?_)
                obtain ⟨σ20, e21⟩ : ∃ y : S_, y = wrI σ18 7 0 := ⟨_, rfl⟩
                have hP : va_P D vwCl (wR cy ad σ20) H := by rw [e21]; exact hP
                have hD : va_D A (wR cy ad σ20) := by rw [e21]; exact hD
                have hv := hv σ20 e21
                refine lv_aload_n hx hb dX9_steppe_167 rfl (lv_at hl 0 rfl) ?_
                refine lv_iconst (v := 0) hx hb dX9_steppe_168 (by decide) ?_
                refine va_put (ci := 9) (v := .int 0) (ty := .int) (C := RX9) (T := TX9) (N := 38) hx hb hts hinX9 tyX9 tyX9_ok nmX9 hown hK hP hD hS 0 (wR_0 cy ad σ20) rfl 25 (by decide) (hts (.fieldLink RX9 167 "TaleBansModel" "needs" "I") (List.mem_of_getElem? (i := 15) rfl)) (fun x h => h) rfl (by decide +kernel) rfl rfl (Nat.le_of_ble_eq_true rfl) dX9_steppe_169 (fun H locs hP hD hS => ?_)
                obtain ⟨σ22, e23⟩ : ∃ y : S_, y = wrI σ20 8 0 := ⟨_, rfl⟩
                have hP : va_P D vwCl (wR cy ad σ22) H := by rw [e23]; exact hP
                have hD : va_D A (wR cy ad σ22) := by rw [e23]; exact hD
                have hv := hv σ22 e23
                refine lv_aload_n hx hb dX9_steppe_172 rfl (lv_at hl 0 rfl) ?_
                refine lv_iconst (v := 0) hx hb dX9_steppe_173 (by decide) ?_
                refine va_put (ci := 9) (v := .int 0) (ty := .int) (C := RX9) (T := TX9) (N := 38) hx hb hts hinX9 tyX9 tyX9_ok nmX9 hown hK hP hD hS 0 (wR_0 cy ad σ22) rfl 28 (by decide) (hts (.fieldLink RX9 170 "TaleBansModel" "readings" "I") (List.mem_of_getElem? (i := 16) rfl)) (fun x h => h) rfl (by decide +kernel) rfl rfl (Nat.le_of_ble_eq_true rfl) dX9_steppe_174 (fun H locs hP hD hS => ?_)
                obtain ⟨σ24, e25⟩ : ∃ y : S_, y = wrI σ22 9 0 := ⟨_, rfl⟩
                have hP : va_P D vwCl (wR cy ad σ24) H := by rw [e25]; exact hP
                have hD : va_D A (wR cy ad σ24) := by rw [e25]; exact hD
                have hv := hv σ24 e25
                refine lv_aload_n hx hb dX9_steppe_177 rfl (lv_at hl 0 rfl) ?_
                refine lv_aload_n hx hb dX9_steppe_178 rfl (lv_at hl 0 rfl) ?_
                refine va_get (ci := 9) (v := .int (rdI σ24 1)) (C := RX9) (T := TX9) (N := 38) hx hb hts hinX9 hown hK hP 0 (wR_0 cy ad σ24) rfl 1 (by decide) (hts (.fieldLink RX9 102 "TaleBansModel" "persons" "I") (List.mem_of_getElem? (i := 4) rfl)) (fun x h => h) rfl dX9_steppe_179 ?_
                have hp := True.intro
                refine k_rel_i (w := wR cy ad) (va_runV (As := [.int (rdI σ24 1)]) (rest := []) ⟨hx, hb, hml, hown, hts⟩ (h_X9_refused D cy ad A (rdI σ24 1) σ24 hp) (cwV 1 hts gX9_steppe_X9_refused rfl rfl rfl (by decide +kernel) ⟨le_R hRf (Nat.le_of_ble_eq_true rfl), le_R hRl (Nat.le_of_ble_eq_true rfl)⟩) ⟨(fun a U g mk q => ⟨q.1, q.2.blind⟩), va_recv hK hP (ci := 9) (q0 := 0) rfl (wR_0 cy ad σ24), (fun U hU hW => ⟨rfl, WdR.pre hP hK hD hN hU hW⟩)⟩ rfl rfl hl.1 rfl (lv_room (Nat.le_of_ble_eq_true rfl)) dX9_steppe_182 ⟨le_R hRc (Nat.le_refl 0), le_R hRs (Nat.le_refl 0)⟩) hS (fun r27 σ26 H locs hr1 hP hD hS => ?_)
                have hv := hv r27 σ26 hr1
                rw [hZ]; rw [hQ] at hv
                exact W.iret (v := r27) hx hb hr (fun t ht hW => ⟨⟨r27, σ26, rfl, hv, ⟨P_of ht hP, hD⟩⟩, hS.F ht⟩) hS.2.2 dX9_steppe_185
              · have hv := hv.2 c34
                refine lv_aload_n hx hb dX9_steppe_99 rfl (lv_at hl 0 rfl) ?_
                refine va_get (ci := 9) (v := .ref (ad (1))) (C := RX9) (T := TX9) (N := 38) hx hb hts hinX9 hown hK hP 0 (wR_0 cy ad σ13) rfl 2 (by decide) (hts (.fieldLink RX9 7 "TaleBansModel" "kindOf" "[I") (List.mem_of_getElem? (i := 5) rfl)) (fun x h => h) rfl dX9_steppe_100 ?_
                refine lv_iload hx hb dX9_steppe_103 (lv_at hl 1 rfl) ?_
                refine lv_aload_n hx hb dX9_steppe_105 rfl (lv_at hl 0 rfl) ?_
                refine va_get (ci := 9) (v := .ref (ad (4))) (C := RX9) (T := TX9) (N := 38) hx hb hts hinX9 hown hK hP 0 (wR_0 cy ad σ13) rfl 9 (by decide) (hts (.fieldLink RX9 19 "TaleBansModel" "readKind" "[I") (List.mem_of_getElem? (i := 6) rfl)) (fun x h => h) rfl dX9_steppe_106 ?_
                refine lv_iload hx hb dX9_steppe_109 (lv_at hl 1 rfl) ?_
                obtain ⟨hi, hv⟩ := hv
                refine va_iald hx hb hK hP 4 0 (wR_4 cy ad σ13) rfl hi dX9_steppe_111 ?_
                obtain ⟨hi, hv⟩ := hv
                refine va_iast hx hb hK hP hD hS 1 0 (wR_1 cy ad σ13) rfl hi dX9_steppe_112 (fun H locs hP hD hS => ?_)
                obtain ⟨σ28, e29⟩ : ∃ y : S_, y = wr2 σ13 1 (Int32.toNatClampNeg x12) (rdA σ13 4 (Int32.toNatClampNeg x12)) := ⟨_, rfl⟩
                have hP : va_P D vwCl (wR cy ad σ28) H := by rw [e29]; exact hP
                have hD : va_D A (wR cy ad σ28) := by rw [e29]; exact hD
                have hv := hv σ28 e29
                refine lv_aload_n hx hb dX9_steppe_113 rfl (lv_at hl 0 rfl) ?_
                refine va_get (ci := 9) (v := .ref (ad (2))) (C := RX9) (T := TX9) (N := 38) hx hb hts hinX9 hown hK hP 0 (wR_0 cy ad σ28) rfl 3 (by decide) (hts (.fieldLink RX9 13 "TaleBansModel" "mindsOf" "[I") (List.mem_of_getElem? (i := 7) rfl)) (fun x h => h) rfl dX9_steppe_114 ?_
                refine lv_iload hx hb dX9_steppe_117 (lv_at hl 1 rfl) ?_
                refine lv_aload_n hx hb dX9_steppe_119 rfl (lv_at hl 0 rfl) ?_
                refine va_get (ci := 9) (v := .ref (ad (5))) (C := RX9) (T := TX9) (N := 38) hx hb hts hinX9 hown hK hP 0 (wR_0 cy ad σ28) rfl 10 (by decide) (hts (.fieldLink RX9 22 "TaleBansModel" "readMinds" "[I") (List.mem_of_getElem? (i := 8) rfl)) (fun x h => h) rfl dX9_steppe_120 ?_
                refine lv_iload hx hb dX9_steppe_123 (lv_at hl 1 rfl) ?_
                obtain ⟨hi, hv⟩ := hv
                refine va_iald hx hb hK hP 5 0 (wR_5 cy ad σ28) rfl hi dX9_steppe_125 ?_
                obtain ⟨hi, hv⟩ := hv
                refine va_iast hx hb hK hP hD hS 2 0 (wR_2 cy ad σ28) rfl hi dX9_steppe_126 (fun H locs hP hD hS => ?_)
                obtain ⟨σ30, e31⟩ : ∃ y : S_, y = wr2 σ28 2 (Int32.toNatClampNeg x12) (rdA σ28 5 (Int32.toNatClampNeg x12)) := ⟨_, rfl⟩
                have hP : va_P D vwCl (wR cy ad σ30) H := by rw [e31]; exact hP
                have hD : va_D A (wR cy ad σ30) := by rw [e31]; exact hD
                have hv := hv σ30 e31
                refine lv_aload_n hx hb dX9_steppe_127 rfl (lv_at hl 0 rfl) ?_
                refine va_get (ci := 9) (v := .ref (ad (3))) (C := RX9) (T := TX9) (N := 38) hx hb hts hinX9 hown hK hP 0 (wR_0 cy ad σ30) rfl 4 (by decide) (hts (.fieldLink RX9 16 "TaleBansModel" "hearthOf" "[I") (List.mem_of_getElem? (i := 9) rfl)) (fun x h => h) rfl dX9_steppe_128 ?_
                refine lv_iload hx hb dX9_steppe_131 (lv_at hl 1 rfl) ?_
                refine lv_aload_n hx hb dX9_steppe_133 rfl (lv_at hl 0 rfl) ?_
                refine va_get (ci := 9) (v := .ref (ad (6))) (C := RX9) (T := TX9) (N := 38) hx hb hts hinX9 hown hK hP 0 (wR_0 cy ad σ30) rfl 11 (by decide) (hts (.fieldLink RX9 25 "TaleBansModel" "readHearth" "[I") (List.mem_of_getElem? (i := 10) rfl)) (fun x h => h) rfl dX9_steppe_134 ?_
                refine lv_iload hx hb dX9_steppe_137 (lv_at hl 1 rfl) ?_
                obtain ⟨hi, hv⟩ := hv
                refine va_iald hx hb hK hP 6 0 (wR_6 cy ad σ30) rfl hi dX9_steppe_139 ?_
                obtain ⟨hi, hv⟩ := hv
                refine va_iast hx hb hK hP hD hS 3 0 (wR_3 cy ad σ30) rfl hi dX9_steppe_140 (fun H locs hP hD hS => ?_)
                obtain ⟨σ32, e33⟩ : ∃ y : S_, y = wr2 σ30 3 (Int32.toNatClampNeg x12) (rdA σ30 6 (Int32.toNatClampNeg x12)) := ⟨_, rfl⟩
                have hP : va_P D vwCl (wR cy ad σ32) H := by rw [e33]; exact hP
                have hD : va_D A (wR cy ad σ32) := by rw [e33]; exact hD
                have hv := hv σ32 e33
                refine lv_iinc (v := (x12 + 1)) (lv' := [(6, .int (x12 + 1)), (0, .ref (ad 0))]) hx hb dX9_steppe_141 hl (k := 1) rfl rfl (by decide) rfl (fun ls hl => ?_)
                refine lv_goto (tgt := 90) hx hb dX9_steppe_144 (by decide) ?_
                exact ih90 (x12 + 1) σ32 _ _ _ hv hP hD hS (lv_sub hl [1, 0] rfl)
          exact lp90 n90 0 σ10 _ _ _ hv hP hD hS (lv_sub hl [2, 0] rfl)
        · have hv := hv.2 c37
          refine lv_aload_n hx hb dX9_steppe_67 rfl (lv_at hl 1 rfl) ?_
          refine lv_bipush (v := (-100)) hx hb dX9_steppe_68 (by decide) ?_
          refine lv_aload_n hx hb dX9_steppe_70 rfl (lv_at hl 1 rfl) ?_
          refine va_get (ci := 9) (v := .int (rdI σ8 4)) (C := RX9) (T := TX9) (N := 38) hx hb hts hinX9 hown hK hP 0 (wR_0 cy ad σ8) rfl 7 (by decide) (hts (.fieldLink RX9 118 "TaleBansModel" "readAt" "I") (List.mem_of_getElem? (i := 2) rfl)) (fun x h => h) rfl dX9_steppe_71 ?_
          refine lv_isub hx hb dX9_steppe_74 ?_
          have hp := True.intro
          refine k_rel_i (w := wR cy ad) (va_runV (As := [.int ((-100) - (rdI σ8 4))]) (rest := []) ⟨hx, hb, hml, hown, hts⟩ (h_X9_refused D cy ad A ((-100) - (rdI σ8 4)) σ8 hp) (cwV 1 hts gX9_steppe_X9_refused rfl rfl rfl (by decide +kernel) ⟨le_R hRf (Nat.le_of_ble_eq_true rfl), le_R hRl (Nat.le_of_ble_eq_true rfl)⟩) ⟨(fun a U g mk q => ⟨q.1, q.2.blind⟩), va_recv hK hP (ci := 9) (q0 := 0) rfl (wR_0 cy ad σ8), (fun U hU hW => ⟨rfl, WdR.pre hP hK hD hN hU hW⟩)⟩ rfl rfl hl.1 rfl (lv_room (Nat.le_of_ble_eq_true rfl)) dX9_steppe_75 ⟨le_R hRc (Nat.le_refl 0), le_R hRs (Nat.le_refl 0)⟩) hS (fun r36 σ35 H locs hr1 hP hD hS => ?_)
          have hv := hv r36 σ35 hr1
          rw [hZ]; rw [hQ] at hv
          exact W.iret (v := r36) hx hb hr (fun t ht hW => ⟨⟨r36, σ35, rfl, hv, ⟨P_of ht hP, hD⟩⟩, hS.F ht⟩) hS.2.2 dX9_steppe_78
      · have hv := hv.2 c38
        refine lv_iload hx hb dX9_steppe_49 (lv_at hl 0 rfl) ?_
        rw [hZ]; rw [hQ] at hv
        exact W.iret (v := r5) hx hb hr (fun t ht hW => ⟨⟨r5, σ4, rfl, hv, ⟨P_of ht hP, hD⟩⟩, hS.F ht⟩) hS.2.2 dX9_steppe_51
    · have hv := hv.2 c41
      refine lv_aload_n hx hb dX9_steppe_25 rfl (lv_at hl 0 rfl) ?_
      refine lv_bipush (v := (-2)) hx hb dX9_steppe_26 (by decide) ?_
      have hp := True.intro
      refine k_rel_i (w := wR cy ad) (va_runV (As := [.int (-2)]) (rest := []) ⟨hx, hb, hml, hown, hts⟩ (h_X9_refused D cy ad A (-2) σ0 hp) (cwV 1 hts gX9_steppe_X9_refused rfl rfl rfl (by decide +kernel) ⟨le_R hRf (Nat.le_of_ble_eq_true rfl), le_R hRl (Nat.le_of_ble_eq_true rfl)⟩) ⟨(fun a U g mk q => ⟨q.1, q.2.blind⟩), va_recv hK hP (ci := 9) (q0 := 0) rfl (wR_0 cy ad σ0), (fun U hU hW => ⟨rfl, WdR.pre hP hK hD hN hU hW⟩)⟩ rfl rfl hl.1 rfl (lv_room (Nat.le_of_ble_eq_true rfl)) dX9_steppe_28 ⟨le_R hRc (Nat.le_refl 0), le_R hRs (Nat.le_refl 0)⟩) hS (fun r40 σ39 H locs hr1 hP hD hS => ?_)
      have hv := hv r40 σ39 hr1
      rw [hZ]; rw [hQ] at hv
      exact W.iret (v := r40) hx hb hr (fun t ht hW => ⟨⟨r40, σ39, rfl, hv, ⟨P_of ht hP, hD⟩⟩, hS.F ht⟩) hS.2.2 dX9_steppe_31
  · have hv := hv.2 c44
    refine lv_aload_n hx hb dX9_steppe_7 rfl (lv_at hl 0 rfl) ?_
    refine lv_iconst (v := (-1)) hx hb dX9_steppe_8 (by decide) ?_
    have hp := True.intro
    refine k_rel_i (w := wR cy ad) (va_runV (As := [.int (-1)]) (rest := []) ⟨hx, hb, hml, hown, hts⟩ (h_X9_refused D cy ad A (-1) σ0 hp) (cwV 1 hts gX9_steppe_X9_refused rfl rfl rfl (by decide +kernel) ⟨le_R hRf (Nat.le_of_ble_eq_true rfl), le_R hRl (Nat.le_of_ble_eq_true rfl)⟩) ⟨(fun a U g mk q => ⟨q.1, q.2.blind⟩), va_recv hK hP (ci := 9) (q0 := 0) rfl (wR_0 cy ad σ0), (fun U hU hW => ⟨rfl, WdR.pre hP hK hD hN hU hW⟩)⟩ rfl rfl hl.1 rfl (lv_room (Nat.le_of_ble_eq_true rfl)) dX9_steppe_9 ⟨le_R hRc (Nat.le_refl 0), le_R hRs (Nat.le_refl 0)⟩) hS (fun r43 σ42 H locs hr1 hP hD hS => ?_)
    have hv := hv r43 σ42 hr1
    rw [hZ]; rw [hQ] at hv
    exact W.iret (v := r43) hx hb hr (fun t ht hW => ⟨⟨r43, σ42, rfl, hv, ⟨P_of ht hP, hD⟩⟩, hS.F ht⟩) hS.2.2 dX9_steppe_12
set_option maxHeartbeats 4000000 in
set_option maxRecDepth 100000 in
theorem wk_X9_ofPerson (l : Launch) (h_X9_isIn : Ct_X9_isIn l) (h_X9_memoryOf : Ct_X9_memoryOf l) (h_X9_noPerson : Ct_X9_noPerson l) (sp : Sp_X9_ofPerson) : Ct_X9_ofPerson l := by
  intro D cy ad A p_ what_ ag σ0  hpre
  refine Met.ofW (cc := cX9_ofPerson) (maxL := 3) (ret := (some .int)) (by decide) rfl ?_
  intro p e s m args below meth c s₁ B hml hv0
  obtain ⟨rfl, hP, hK, hD, hN⟩ := hv0
  have hx := B.exec
  have hb := B.bytes
  have hr := B.returns
  have hts := atoms_spec (ws := wsX9_ofPerson) B.pre
  have hown : s.vm.findClass RX9 = some m.cls := findClass_of_methodNamed B.named
  have hlocks := B.notSynchronized
  have hv := sp p_ what_ ag σ0 hpre
  have hl := lv_entry ([.ref (ad 0), .int p_, .int what_]) (n := 3) (Nat.le_of_ble_eq_true rfl)
  rw [lg_entry_eq]
  generalize (lg_sl ([.ref (ad 0), .int p_, .int what_]) ++ List.replicate (3 - (lg_sl ([.ref (ad 0), .int p_, .int what_])).length) Slot.unset).toArray = ls at hl ⊢
  have hl : lv_has ls 3 [(0, .ref (ad 0)), (1, .int p_), (2, .int what_)] := hl
  refine W_gen (fun R Z H locs hR hZ hH hlo => ?_)
  have hRf : R.frames = 2 := by rw [hR]; rfl
  have hRl : R.locals = 46 := by rw [hR]; rfl
  have hRc : R.cells = 0 := by rw [hR]; rfl
  have hRs : R.slots = 0 := by rw [hR]; rfl
  have hS : va_S A s.heap H locs := by rw [hH, hlo]; exact va_S.rf
  rw [← hH] at hP
  obtain ⟨Q, hQ⟩ : ∃ q : Int32 → S_ → Prop, q = (post_X9_ofPerson p_ what_ ag σ0) := ⟨_, rfl⟩
  rw [← hQ] at hv
  have hinX9 : ∀ w ∈ wsX90, w ∈ wsX9_ofPerson := by decide +kernel
  refine lv_aload_n hx hb dX9_ofPerson_0 rfl (lv_at hl 0 rfl) ?_
  refine lv_iload_n hx hb dX9_ofPerson_1 rfl (lv_at hl 1 rfl) ?_
  have hp := True.intro
  refine k_read_i (w := wR cy ad) (va_runV (As := [.int p_]) (rest := []) ⟨hx, hb, hml, hown, hts⟩ (h_X9_noPerson D cy ad A p_ σ0 hp) (cwV 1 hts gX9_ofPerson_X9_noPerson rfl rfl rfl (by decide +kernel) ⟨le_R hRf (Nat.le_of_ble_eq_true rfl), le_R hRl (Nat.le_of_ble_eq_true rfl)⟩) ⟨(fun a U g mk q => ⟨q.1, q.2.blind⟩), va_recv hK hP (ci := 9) (q0 := 0) rfl (wR_0 cy ad σ0), (fun U hU hW => ⟨rfl, WdR.pre hP hK hD hN hU hW⟩)⟩ rfl rfl hl.1 rfl (lv_room (Nat.le_of_ble_eq_true rfl)) dX9_ofPerson_2 ⟨le_R hRc (Nat.le_refl 0), le_R hRs (Nat.le_refl 0)⟩) hS (fun r H locs hr1 hP hS => ?_)
  subst hr1
  refine lv_if_eq (tgt := 10) hx hb dX9_ofPerson_5 (by decide) (fun c11 => ?_) (fun c11 => ?_)
  · have hv := hv.1 c11
    refine lv_iload_n hx hb dX9_ofPerson_10 rfl (lv_at hl 2 rfl) ?_
    by_cases c2 : what_ = 0
    · have hv := hv.1 c2
      refine lv_tableIn (tgt := 44) hx hb dX9_ofPerson_11 (by rw [c2]; decide) (by rw [c2]; decide) (by first | (rw [c2]; done) | (rw [c2]; rfl)) (by decide) ?_
      refine lv_aload_n hx hb dX9_ofPerson_44 rfl (lv_at hl 0 rfl) ?_
      refine va_get (ci := 9) (v := .ref (ad (1))) (C := RX9) (T := TX9) (N := 38) hx hb hts hinX9 hown hK hP 0 (wR_0 cy ad σ0) rfl 2 (by decide) (hts (.fieldLink RX9 7 "TaleBansModel" "kindOf" "[I") (List.mem_of_getElem? (i := 1) rfl)) (fun x h => h) rfl dX9_ofPerson_45 ?_
      refine lv_iload_n hx hb dX9_ofPerson_48 rfl (lv_at hl 1 rfl) ?_
      obtain ⟨hi, hv⟩ := hv
      refine va_iald hx hb hK hP 1 0 (wR_1 cy ad σ0) rfl hi dX9_ofPerson_49 ?_
      rw [hZ]; rw [hQ] at hv
      exact W.iret (v := (rdA σ0 1 (Int32.toNatClampNeg p_))) hx hb hr (fun t ht hW => ⟨⟨(rdA σ0 1 (Int32.toNatClampNeg p_)), σ0, rfl, hv, ⟨P_of ht hP, hD⟩⟩, hS.F ht⟩) hS.2.2 dX9_ofPerson_50
    · have hv := hv.2 c2
      by_cases c3 : what_ = 1
      · have hv := hv.1 c3
        refine lv_tableIn (tgt := 51) hx hb dX9_ofPerson_11 (by rw [c3]; decide) (by rw [c3]; decide) (by first | (rw [c3]; done) | (rw [c3]; rfl)) (by decide) ?_
        refine lv_aload_n hx hb dX9_ofPerson_51 rfl (lv_at hl 0 rfl) ?_
        refine va_get (ci := 9) (v := .ref (ad (2))) (C := RX9) (T := TX9) (N := 38) hx hb hts hinX9 hown hK hP 0 (wR_0 cy ad σ0) rfl 3 (by decide) (hts (.fieldLink RX9 13 "TaleBansModel" "mindsOf" "[I") (List.mem_of_getElem? (i := 2) rfl)) (fun x h => h) rfl dX9_ofPerson_52 ?_
        refine lv_iload_n hx hb dX9_ofPerson_55 rfl (lv_at hl 1 rfl) ?_
        obtain ⟨hi, hv⟩ := hv
        refine va_iald hx hb hK hP 2 0 (wR_2 cy ad σ0) rfl hi dX9_ofPerson_56 ?_
        rw [hZ]; rw [hQ] at hv
        exact W.iret (v := (rdA σ0 2 (Int32.toNatClampNeg p_))) hx hb hr (fun t ht hW => ⟨⟨(rdA σ0 2 (Int32.toNatClampNeg p_)), σ0, rfl, hv, ⟨P_of ht hP, hD⟩⟩, hS.F ht⟩) hS.2.2 dX9_ofPerson_57
      · have hv := hv.2 c3
        by_cases c4 : what_ = 2
        · have hv := hv.1 c4
          refine lv_tableIn (tgt := 58) hx hb dX9_ofPerson_11 (by rw [c4]; decide) (by rw [c4]; decide) (by first | (rw [c4]; done) | (rw [c4]; rfl)) (by decide) ?_
          refine lv_aload_n hx hb dX9_ofPerson_58 rfl (lv_at hl 0 rfl) ?_
          refine va_get (ci := 9) (v := .ref (ad (3))) (C := RX9) (T := TX9) (N := 38) hx hb hts hinX9 hown hK hP 0 (wR_0 cy ad σ0) rfl 4 (by decide) (hts (.fieldLink RX9 16 "TaleBansModel" "hearthOf" "[I") (List.mem_of_getElem? (i := 3) rfl)) (fun x h => h) rfl dX9_ofPerson_59 ?_
          refine lv_iload_n hx hb dX9_ofPerson_62 rfl (lv_at hl 1 rfl) ?_
          obtain ⟨hi, hv⟩ := hv
          refine va_iald hx hb hK hP 3 0 (wR_3 cy ad σ0) rfl hi dX9_ofPerson_63 ?_
          rw [hZ]; rw [hQ] at hv
          exact W.iret (v := (rdA σ0 3 (Int32.toNatClampNeg p_))) hx hb hr (fun t ht hW => ⟨⟨(rdA σ0 3 (Int32.toNatClampNeg p_)), σ0, rfl, hv, ⟨P_of ht hP, hD⟩⟩, hS.F ht⟩) hS.2.2 dX9_ofPerson_64
        · have hv := hv.2 c4
          by_cases c8 : what_ = 3
          · have hv := hv.1 c8
            refine lv_tableIn (tgt := 65) hx hb dX9_ofPerson_11 (by rw [c8]; decide) (by rw [c8]; decide) (by first | (rw [c8]; done) | (rw [c8]; rfl)) (by decide) ?_
            refine lv_aload_n hx hb dX9_ofPerson_65 rfl (lv_at hl 0 rfl) ?_
            refine lv_iload_n hx hb dX9_ofPerson_66 rfl (lv_at hl 1 rfl) ?_
            obtain ⟨g5, g6, hv⟩ := hv
            obtain ⟨hp, hv⟩ := hv
            refine k_read_i (w := wR cy ad) (va_runV (As := [.int p_]) (rest := []) ⟨hx, hb, hml, hown, hts⟩ (h_X9_memoryOf D cy ad A p_ g5 g6 σ0 hp) (cwV 1 hts gX9_ofPerson_X9_memoryOf rfl rfl rfl (by decide +kernel) ⟨le_R hRf (Nat.le_of_ble_eq_true rfl), le_R hRl (Nat.le_of_ble_eq_true rfl)⟩) ⟨(fun a U g mk q => ⟨q.1, q.2.blind⟩), va_recv hK hP (ci := 9) (q0 := 0) rfl (wR_0 cy ad σ0), (fun U hU hW => ⟨rfl, WdR.pre hP hK hD hN hU hW⟩)⟩ rfl rfl hl.1 rfl (lv_room (Nat.le_of_ble_eq_true rfl)) dX9_ofPerson_67 ⟨le_R hRc (Nat.le_refl 0), le_R hRs (Nat.le_refl 0)⟩) hS (fun r7 H locs hr1 hP hS => ?_)
            have hv := hv r7 hr1
            rw [hZ]; rw [hQ] at hv
            exact W.iret (v := r7) hx hb hr (fun t ht hW => ⟨⟨r7, σ0, rfl, hv, ⟨P_of ht hP, hD⟩⟩, hS.F ht⟩) hS.2.2 dX9_ofPerson_70
          · have hv := hv.2 c8
            by_cases c10 : what_ = 4
            · have hv := hv.1 c10
              refine lv_tableIn (tgt := 71) hx hb dX9_ofPerson_11 (by rw [c10]; decide) (by rw [c10]; decide) (by first | (rw [c10]; done) | (rw [c10]; rfl)) (by decide) ?_
              refine lv_aload_n hx hb dX9_ofPerson_71 rfl (lv_at hl 0 rfl) ?_
              refine va_get (ci := 9) (v := .int (rdI σ0 2)) (C := RX9) (T := TX9) (N := 38) hx hb hts hinX9 hown hK hP 0 (wR_0 cy ad σ0) rfl 5 (by decide) (hts (.fieldLink RX9 158 "TaleBansModel" "paidNow" "I") (List.mem_of_getElem? (i := 4) rfl)) (fun x h => h) rfl dX9_ofPerson_72 ?_
              refine lv_iload_n hx hb dX9_ofPerson_75 rfl (lv_at hl 1 rfl) ?_
              refine k_pure_i (va_runS (As := [.int (rdI σ0 2), .int p_]) (rest := []) ⟨hx, hb, hml, hown, hts⟩ (h_X9_isIn (rdI σ0 2) p_) (va_cwS 2 hts gX9_ofPerson_X9_isIn rfl rfl rfl (by decide +kernel) ⟨le_R hRf (Nat.le_of_ble_eq_true rfl), le_R hRl (Nat.le_of_ble_eq_true rfl)⟩) ⟨(fun a U g mk q => ⟨q.1, trivial⟩), (fun U hU hW => ⟨rfl, trivial⟩)⟩ rfl rfl hl.1 rfl (lv_room (Nat.le_of_ble_eq_true rfl)) dX9_ofPerson_76 ⟨le_R hRc (Nat.le_refl 0), le_R hRs (Nat.le_refl 0)⟩) hS hP (fun r H locs hr1 hP hS => ?_)
              subst hr1
              refine lv_if_eq (tgt := 86) hx hb dX9_ofPerson_79 (by decide) (fun c9 => ?_) (fun c9 => ?_)
              · have hv := hv.1 c9
                refine lv_iconst (v := 0) hx hb dX9_ofPerson_86 (by decide) ?_
                rw [hZ]; rw [hQ] at hv
                exact W.iret (v := 0) hx hb hr (fun t ht hW => ⟨⟨0, σ0, rfl, hv, ⟨P_of ht hP, hD⟩⟩, hS.F ht⟩) hS.2.2 dX9_ofPerson_87
              · have hv := hv.2 c9
                refine lv_iconst (v := 1) hx hb dX9_ofPerson_82 (by decide) ?_
                refine lv_goto (tgt := 87) hx hb dX9_ofPerson_83 (by decide) ?_
                rw [hZ]; rw [hQ] at hv
                exact W.iret (v := 1) hx hb hr (fun t ht hW => ⟨⟨1, σ0, rfl, hv, ⟨P_of ht hP, hD⟩⟩, hS.F ht⟩) hS.2.2 dX9_ofPerson_87
            · have hv := hv.2 c10
              refine lv_tableOut (tgt := 88) hx hb dX9_ofPerson_11 (sw_out (lo := 0) (hi := 4) what_ (fun k h1 h2 hk => by
                have h3 : k = 0 ∨ k = 1 ∨ k = 2 ∨ k = 3 ∨ k = 4 := by omega
                rcases h3 with rfl | rfl | rfl | rfl | rfl
                · exact c2 (sw_k hk (by decide))
                · exact c3 (sw_k hk (by decide))
                · exact c4 (sw_k hk (by decide))
                · exact c8 (sw_k hk (by decide))
                · exact c10 (sw_k hk (by decide)))) (by decide) ?_
              refine lv_bipush (v := (-2)) hx hb dX9_ofPerson_88 (by decide) ?_
              rw [hZ]; rw [hQ] at hv
              exact W.iret (v := (-2)) hx hb hr (fun t ht hW => ⟨⟨(-2), σ0, rfl, hv, ⟨P_of ht hP, hD⟩⟩, hS.F ht⟩) hS.2.2 dX9_ofPerson_90
  · have hv := hv.2 c11
    refine lv_iconst (v := (-1)) hx hb dX9_ofPerson_8 (by decide) ?_
    rw [hZ]; rw [hQ] at hv
    exact W.iret (v := (-1)) hx hb hr (fun t ht hW => ⟨⟨(-1), σ0, rfl, hv, ⟨P_of ht hP, hD⟩⟩, hS.F ht⟩) hS.2.2 dX9_ofPerson_9
set_option maxHeartbeats 4000000 in
set_option maxRecDepth 100000 in
theorem wk_X9_tale (l : Launch) (h_X9_isSeason : Ct_X9_isSeason l) (h_X9_noDeed : Ct_X9_noDeed l) (h_X9_noPerson : Ct_X9_noPerson l) (sp : Sp_X9_tale) : Ct_X9_tale l := by
  intro D cy ad A deed_ p_ season_ ag σ0  hpre
  refine Met.ofW (cc := cX9_tale) (maxL := 4) (ret := (some .int)) (by decide) rfl ?_
  intro p e s m args below meth c s₁ B hml hv0
  obtain ⟨rfl, hP, hK, hD, hN⟩ := hv0
  have hx := B.exec
  have hb := B.bytes
  have hr := B.returns
  have hts := atoms_spec (ws := wsX9_tale) B.pre
  have hown : s.vm.findClass RX9 = some m.cls := findClass_of_methodNamed B.named
  have hlocks := B.notSynchronized
  have hv := sp deed_ p_ season_ ag σ0 hpre
  have hl := lv_entry ([.ref (ad 0), .int deed_, .int p_, .int season_]) (n := 4) (Nat.le_of_ble_eq_true rfl)
  rw [lg_entry_eq]
  generalize (lg_sl ([.ref (ad 0), .int deed_, .int p_, .int season_]) ++ List.replicate (4 - (lg_sl ([.ref (ad 0), .int deed_, .int p_, .int season_])).length) Slot.unset).toArray = ls at hl ⊢
  have hl : lv_has ls 4 [(0, .ref (ad 0)), (1, .int deed_), (2, .int p_), (3, .int season_)] := hl
  refine W_gen (fun R Z H locs hR hZ hH hlo => ?_)
  have hRf : R.frames = 2 := by rw [hR]; rfl
  have hRl : R.locals = 46 := by rw [hR]; rfl
  have hRc : R.cells = 0 := by rw [hR]; rfl
  have hRs : R.slots = 0 := by rw [hR]; rfl
  have hS : va_S A s.heap H locs := by rw [hH, hlo]; exact va_S.rf
  rw [← hH] at hP
  obtain ⟨Q, hQ⟩ : ∃ q : Int32 → S_ → Prop, q = (post_X9_tale deed_ p_ season_ ag σ0) := ⟨_, rfl⟩
  rw [← hQ] at hv
  have hinX9 : ∀ w ∈ wsX90, w ∈ wsX9_tale := by decide +kernel
  refine lv_iload_n hx hb dX9_tale_0 rfl (lv_at hl 1 rfl) ?_
  refine k_pure_i (va_runS (As := [.int deed_]) (rest := []) ⟨hx, hb, hml, hown, hts⟩ (h_X9_noDeed deed_) (va_cwS 1 hts gX9_tale_X9_noDeed rfl rfl rfl (by decide +kernel) ⟨le_R hRf (Nat.le_of_ble_eq_true rfl), le_R hRl (Nat.le_of_ble_eq_true rfl)⟩) ⟨(fun a U g mk q => ⟨q.1, trivial⟩), (fun U hU hW => ⟨rfl, trivial⟩)⟩ rfl rfl hl.1 rfl (lv_room (Nat.le_of_ble_eq_true rfl)) dX9_tale_1 ⟨le_R hRc (Nat.le_refl 0), le_R hRs (Nat.le_refl 0)⟩) hS hP (fun r H locs hr1 hP hS => ?_)
  subst hr1
  refine lv_if_ne (tgt := 15) hx hb dX9_tale_4 (by decide) (fun c14 => ?_) (fun c14 => ?_)
  · have hv := hv.1 c14
    refine lv_iconst (v := (-1)) hx hb dX9_tale_15 (by decide) ?_
    rw [hZ]; rw [hQ] at hv
    exact W.iret (v := (-1)) hx hb hr (fun t ht hW => ⟨⟨(-1), σ0, rfl, hv, ⟨P_of ht hP, hD⟩⟩, hS.F ht⟩) hS.2.2 dX9_tale_16
  · have hv := hv.2 c14
    refine lv_aload_n hx hb dX9_tale_7 rfl (lv_at hl 0 rfl) ?_
    refine lv_iload_n hx hb dX9_tale_8 rfl (lv_at hl 2 rfl) ?_
    have hp := True.intro
    refine k_read_i (w := wR cy ad) (va_runV (As := [.int p_]) (rest := []) ⟨hx, hb, hml, hown, hts⟩ (h_X9_noPerson D cy ad A p_ σ0 hp) (cwV 1 hts gX9_tale_X9_noPerson rfl rfl rfl (by decide +kernel) ⟨le_R hRf (Nat.le_of_ble_eq_true rfl), le_R hRl (Nat.le_of_ble_eq_true rfl)⟩) ⟨(fun a U g mk q => ⟨q.1, q.2.blind⟩), va_recv hK hP (ci := 9) (q0 := 0) rfl (wR_0 cy ad σ0), (fun U hU hW => ⟨rfl, WdR.pre hP hK hD hN hU hW⟩)⟩ rfl rfl hl.1 rfl (lv_room (Nat.le_of_ble_eq_true rfl)) dX9_tale_9 ⟨le_R hRc (Nat.le_refl 0), le_R hRs (Nat.le_refl 0)⟩) hS (fun r H locs hr1 hP hS => ?_)
    subst hr1
    refine lv_if_eq (tgt := 17) hx hb dX9_tale_12 (by decide) (fun c13 => ?_) (fun c13 => ?_)
    · have hv := hv.1 c13
      refine lv_iload_n hx hb dX9_tale_17 rfl (lv_at hl 3 rfl) ?_
      refine k_pure_i (va_runS (As := [.int season_]) (rest := []) ⟨hx, hb, hml, hown, hts⟩ (h_X9_isSeason season_) (va_cwS 1 hts gX9_tale_X9_isSeason rfl rfl rfl (by decide +kernel) ⟨le_R hRf (Nat.le_of_ble_eq_true rfl), le_R hRl (Nat.le_of_ble_eq_true rfl)⟩) ⟨(fun a U g mk q => ⟨q.1, trivial⟩), (fun U hU hW => ⟨rfl, trivial⟩)⟩ rfl rfl hl.1 rfl (lv_room (Nat.le_of_ble_eq_true rfl)) dX9_tale_18 ⟨le_R hRc (Nat.le_refl 0), le_R hRs (Nat.le_refl 0)⟩) hS hP (fun r H locs hr1 hP hS => ?_)
      subst hr1
      refine lv_if_ne (tgt := 27) hx hb dX9_tale_21 (by decide) (fun c12 => ?_) (fun c12 => ?_)
      · have hv := hv.1 c12
        refine lv_aload_n hx hb dX9_tale_27 rfl (lv_at hl 0 rfl) ?_
        refine va_get (ci := 9) (v := .int (rdI σ0 6)) (C := RX9) (T := TX9) (N := 38) hx hb hts hinX9 hown hK hP 0 (wR_0 cy ad σ0) rfl 12 (by decide) (hts (.fieldLink RX9 109 "TaleBansModel" "tales" "I") (List.mem_of_getElem? (i := 1) rfl)) (fun x h => h) rfl dX9_tale_28 ?_
        refine lv_bipush (v := 6) hx hb dX9_tale_31 (by decide) ?_
        refine lv_icmp_ne (tgt := 39) hx hb dX9_tale_33 (by decide) (fun c11 => ?_) (fun c11 => ?_)
        · have hv := hv.1 c11
          refine lv_aload_n hx hb dX9_tale_39 rfl (lv_at hl 0 rfl) ?_
          refine va_get (ci := 9) (v := .ref (ad (7))) (C := RX9) (T := TX9) (N := 38) hx hb hts hinX9 hown hK hP 0 (wR_0 cy ad σ0) rfl 13 (by decide) (hts (.fieldLink RX9 28 "TaleBansModel" "taleDeed" "[I") (List.mem_of_getElem? (i := 2) rfl)) (fun x h => h) rfl dX9_tale_40 ?_
          refine lv_aload_n hx hb dX9_tale_43 rfl (lv_at hl 0 rfl) ?_
          refine va_get (ci := 9) (v := .int (rdI σ0 6)) (C := RX9) (T := TX9) (N := 38) hx hb hts hinX9 hown hK hP 0 (wR_0 cy ad σ0) rfl 12 (by decide) (hts (.fieldLink RX9 109 "TaleBansModel" "tales" "I") (List.mem_of_getElem? (i := 1) rfl)) (fun x h => h) rfl dX9_tale_44 ?_
          refine lv_iload_n hx hb dX9_tale_47 rfl (lv_at hl 1 rfl) ?_
          obtain ⟨hi, hv⟩ := hv
          refine va_iast hx hb hK hP hD hS 7 0 (wR_7 cy ad σ0) rfl hi dX9_tale_48 (fun H locs hP hD hS => ?_)
          obtain ⟨σ1, e2⟩ : ∃ y : S_, y = wr2 σ0 7 (Int32.toNatClampNeg (rdI σ0 6)) deed_ := ⟨_, rfl⟩
          have hP : va_P D vwCl (wR cy ad σ1) H := by rw [e2]; exact hP
          have hD : va_D A (wR cy ad σ1) := by rw [e2]; exact hD
          have hv := hv σ1 e2
          refine lv_aload_n hx hb dX9_tale_49 rfl (lv_at hl 0 rfl) ?_
          refine va_get (ci := 9) (v := .ref (ad (8))) (C := RX9) (T := TX9) (N := 38) hx hb hts hinX9 hown hK hP 0 (wR_0 cy ad σ1) rfl 14 (by decide) (hts (.fieldLink RX9 31 "TaleBansModel" "taleTo" "[I") (List.mem_of_getElem? (i := 3) rfl)) (fun x h => h) rfl dX9_tale_50 ?_
          refine lv_aload_n hx hb dX9_tale_53 rfl (lv_at hl 0 rfl) ?_
          refine va_get (ci := 9) (v := .int (rdI σ1 6)) (C := RX9) (T := TX9) (N := 38) hx hb hts hinX9 hown hK hP 0 (wR_0 cy ad σ1) rfl 12 (by decide) (hts (.fieldLink RX9 109 "TaleBansModel" "tales" "I") (List.mem_of_getElem? (i := 1) rfl)) (fun x h => h) rfl dX9_tale_54 ?_
          refine lv_iload_n hx hb dX9_tale_57 rfl (lv_at hl 2 rfl) ?_
          obtain ⟨hi, hv⟩ := hv
          refine va_iast hx hb hK hP hD hS 8 0 (wR_8 cy ad σ1) rfl hi dX9_tale_58 (fun H locs hP hD hS => ?_)
          obtain ⟨σ3, e4⟩ : ∃ y : S_, y = wr2 σ1 8 (Int32.toNatClampNeg (rdI σ1 6)) p_ := ⟨_, rfl⟩
          have hP : va_P D vwCl (wR cy ad σ3) H := by rw [e4]; exact hP
          have hD : va_D A (wR cy ad σ3) := by rw [e4]; exact hD
          have hv := hv σ3 e4
          refine lv_aload_n hx hb dX9_tale_59 rfl (lv_at hl 0 rfl) ?_
          refine va_get (ci := 9) (v := .ref (ad (9))) (C := RX9) (T := TX9) (N := 38) hx hb hts hinX9 hown hK hP 0 (wR_0 cy ad σ3) rfl 15 (by decide) (hts (.fieldLink RX9 34 "TaleBansModel" "taleIn" "[I") (List.mem_of_getElem? (i := 4) rfl)) (fun x h => h) rfl dX9_tale_60 ?_
          refine lv_aload_n hx hb dX9_tale_63 rfl (lv_at hl 0 rfl) ?_
          refine va_get (ci := 9) (v := .int (rdI σ3 6)) (C := RX9) (T := TX9) (N := 38) hx hb hts hinX9 hown hK hP 0 (wR_0 cy ad σ3) rfl 12 (by decide) (hts (.fieldLink RX9 109 "TaleBansModel" "tales" "I") (List.mem_of_getElem? (i := 1) rfl)) (fun x h => h) rfl dX9_tale_64 ?_
          refine lv_iload_n hx hb dX9_tale_67 rfl (lv_at hl 3 rfl) ?_
          obtain ⟨hi, hv⟩ := hv
          refine va_iast hx hb hK hP hD hS 9 0 (wR_9 cy ad σ3) rfl hi dX9_tale_68 (fun H locs hP hD hS => ?_)
          obtain ⟨σ5, e6⟩ : ∃ y : S_, y = wr2 σ3 9 (Int32.toNatClampNeg (rdI σ3 6)) season_ := ⟨_, rfl⟩
          have hP : va_P D vwCl (wR cy ad σ5) H := by rw [e6]; exact hP
          have hD : va_D A (wR cy ad σ5) := by rw [e6]; exact hD
          have hv := hv σ5 e6
          refine lv_aload_n hx hb dX9_tale_69 rfl (lv_at hl 0 rfl) ?_
          refine va_get (ci := 9) (v := .ref (ad (10))) (C := RX9) (T := TX9) (N := 38) hx hb hts hinX9 hown hK hP 0 (wR_0 cy ad σ5) rfl 16 (by decide) (hts (.fieldLink RX9 37 "TaleBansModel" "isParody" "[Z") (List.mem_of_getElem? (i := 5) rfl)) (fun x h => h) rfl dX9_tale_70 ?_
          refine lv_aload_n hx hb dX9_tale_73 rfl (lv_at hl 0 rfl) ?_
          refine va_get (ci := 9) (v := .int (rdI σ5 6)) (C := RX9) (T := TX9) (N := 38) hx hb hts hinX9 hown hK hP 0 (wR_0 cy ad σ5) rfl 12 (by decide) (hts (.fieldLink RX9 109 "TaleBansModel" "tales" "I") (List.mem_of_getElem? (i := 1) rfl)) (fun x h => h) rfl dX9_tale_74 ?_
          refine lv_iconst (v := 0) hx hb dX9_tale_77 (by decide) ?_
          obtain ⟨hi, hv⟩ := hv
          refine va_zast hx hb hK hP hD hS 10 1 (wR_10 cy ad σ5) rfl hi dX9_tale_78 (fun H locs hP hD hS => ?_)
          obtain ⟨σ7, e8⟩ : ∃ y : S_, y = wr2 σ5 10 (Int32.toNatClampNeg (rdI σ5 6)) (vp_nar .boolean 0) := ⟨_, rfl⟩
          have hP : va_P D vwCl (wR cy ad σ7) H := by rw [e8]; exact hP
          have hD : va_D A (wR cy ad σ7) := by rw [e8]; exact hD
          have hv := hv σ7 e8
          refine lv_aload_n hx hb dX9_tale_79 rfl (lv_at hl 0 rfl) ?_
          refine lv_dup hx hb dX9_tale_80 rfl ?_
          refine va_get (ci := 9) (v := .int (rdI σ7 6)) (C := RX9) (T := TX9) (N := 38) hx hb hts hinX9 hown hK hP 0 (wR_0 cy ad σ7) rfl 12 (by decide) (hts (.fieldLink RX9 109 "TaleBansModel" "tales" "I") (List.mem_of_getElem? (i := 1) rfl)) (fun x h => h) rfl dX9_tale_81 ?_
          refine lv_iconst (v := 1) hx hb dX9_tale_84 (by decide) ?_
          refine lv_iadd hx hb dX9_tale_85 ?_
          refine va_put (ci := 9) (v := .int ((rdI σ7 6) + 1)) (ty := .int) (C := RX9) (T := TX9) (N := 38) hx hb hts hinX9 tyX9 tyX9_ok nmX9 hown hK hP hD hS 0 (wR_0 cy ad σ7) rfl 12 (by decide) (hts (.fieldLink RX9 109 "TaleBansModel" "tales" "I") (List.mem_of_getElem? (i := 1) rfl)) (fun x h => h) rfl (by decide +kernel) rfl rfl (Nat.le_of_ble_eq_true rfl) dX9_tale_86 (fun H locs hP hD hS => ?_)
          obtain ⟨σ9, e10⟩ : ∃ y : S_, y = wrI σ7 6 ((rdI σ7 6) + 1) := ⟨_, rfl⟩
          have hP : va_P D vwCl (wR cy ad σ9) H := by rw [e10]; exact hP
          have hD : va_D A (wR cy ad σ9) := by rw [e10]; exact hD
          have hv := hv σ9 e10
          refine lv_aload_n hx hb dX9_tale_89 rfl (lv_at hl 0 rfl) ?_
          refine va_get (ci := 9) (v := .int (rdI σ9 6)) (C := RX9) (T := TX9) (N := 38) hx hb hts hinX9 hown hK hP 0 (wR_0 cy ad σ9) rfl 12 (by decide) (hts (.fieldLink RX9 109 "TaleBansModel" "tales" "I") (List.mem_of_getElem? (i := 1) rfl)) (fun x h => h) rfl dX9_tale_90 ?_
          refine lv_iconst (v := 1) hx hb dX9_tale_93 (by decide) ?_
          refine lv_isub hx hb dX9_tale_94 ?_
          rw [hZ]; rw [hQ] at hv
          exact W.iret (v := ((rdI σ9 6) - 1)) hx hb hr (fun t ht hW => ⟨⟨((rdI σ9 6) - 1), σ9, rfl, hv, ⟨P_of ht hP, hD⟩⟩, hS.F ht⟩) hS.2.2 dX9_tale_95
        · have hv := hv.2 c11
          refine lv_bipush (v := (-4)) hx hb dX9_tale_36 (by decide) ?_
          rw [hZ]; rw [hQ] at hv
          exact W.iret (v := (-4)) hx hb hr (fun t ht hW => ⟨⟨(-4), σ0, rfl, hv, ⟨P_of ht hP, hD⟩⟩, hS.F ht⟩) hS.2.2 dX9_tale_38
      · have hv := hv.2 c12
        refine lv_bipush (v := (-2)) hx hb dX9_tale_24 (by decide) ?_
        rw [hZ]; rw [hQ] at hv
        exact W.iret (v := (-2)) hx hb hr (fun t ht hW => ⟨⟨(-2), σ0, rfl, hv, ⟨P_of ht hP, hD⟩⟩, hS.F ht⟩) hS.2.2 dX9_tale_26
    · have hv := hv.2 c13
      refine lv_iconst (v := (-1)) hx hb dX9_tale_15 (by decide) ?_
      rw [hZ]; rw [hQ] at hv
      exact W.iret (v := (-1)) hx hb hr (fun t ht hW => ⟨⟨(-1), σ0, rfl, hv, ⟨P_of ht hP, hD⟩⟩, hS.F ht⟩) hS.2.2 dX9_tale_16
set_option maxHeartbeats 4000000 in
set_option maxRecDepth 100000 in
theorem wk_X9_undo (l : Launch) (h_X9_in : Ct_X9_in l) (h_X9_noTale : Ct_X9_noTale l) (sp : Sp_X9_undo) : Ct_X9_undo l := by
  intro D cy ad A k_ ag σ0  hpre
  refine Met.ofW (cc := cX9_undo) (maxL := 4) (ret := (some .int)) (by decide) rfl ?_
  intro p e s m args below meth c s₁ B hml hv0
  obtain ⟨rfl, hP, hK, hD, hN⟩ := hv0
  have hx := B.exec
  have hb := B.bytes
  have hr := B.returns
  have hts := atoms_spec (ws := wsX9_undo) B.pre
  have hown : s.vm.findClass RX9 = some m.cls := findClass_of_methodNamed B.named
  have hlocks := B.notSynchronized
  have hv := sp k_ ag σ0 hpre
  have hl := lv_entry ([.ref (ad 0), .int k_]) (n := 4) (Nat.le_of_ble_eq_true rfl)
  rw [lg_entry_eq]
  generalize (lg_sl ([.ref (ad 0), .int k_]) ++ List.replicate (4 - (lg_sl ([.ref (ad 0), .int k_])).length) Slot.unset).toArray = ls at hl ⊢
  have hl : lv_has ls 4 [(0, .ref (ad 0)), (1, .int k_)] := hl
  refine W_gen (fun R Z H locs hR hZ hH hlo => ?_)
  have hRf : R.frames = 2 := by rw [hR]; rfl
  have hRl : R.locals = 46 := by rw [hR]; rfl
  have hRc : R.cells = 0 := by rw [hR]; rfl
  have hRs : R.slots = 0 := by rw [hR]; rfl
  have hS : va_S A s.heap H locs := by rw [hH, hlo]; exact va_S.rf
  rw [← hH] at hP
  obtain ⟨Q, hQ⟩ : ∃ q : Int32 → S_ → Prop, q = (post_X9_undo k_ ag σ0) := ⟨_, rfl⟩
  rw [← hQ] at hv
  have hinX9 : ∀ w ∈ wsX90, w ∈ wsX9_undo := by decide +kernel
  refine lv_iload_n hx hb dX9_undo_0 rfl (lv_at hl 1 rfl) ?_
  refine lv_i2l hx hb dX9_undo_1 rfl ?_
  refine lv_lconst (v := 0) hx hb dX9_undo_2 rfl ?_
  refine lv_aload_n hx hb dX9_undo_3 rfl (lv_at hl 0 rfl) ?_
  refine va_get (ci := 9) (v := .int (rdI σ0 6)) (C := RX9) (T := TX9) (N := 38) hx hb hts hinX9 hown hK hP 0 (wR_0 cy ad σ0) rfl 12 (by decide) (hts (.fieldLink RX9 109 "TaleBansModel" "tales" "I") (List.mem_of_getElem? (i := 1) rfl)) (fun x h => h) rfl dX9_undo_4 ?_
  refine lv_i2l hx hb dX9_undo_7 rfl ?_
  refine k_pure_i (va_runS (As := [.long (Int32.toInt64 k_), .long 0, .long (Int32.toInt64 (rdI σ0 6))]) (rest := []) ⟨hx, hb, hml, hown, hts⟩ (h_X9_in (Int32.toInt64 k_) 0 (Int32.toInt64 (rdI σ0 6))) (va_cwS 3 hts gX9_undo_X9_in rfl rfl rfl (by decide +kernel) ⟨le_R hRf (Nat.le_of_ble_eq_true rfl), le_R hRl (Nat.le_of_ble_eq_true rfl)⟩) ⟨(fun a U g mk q => ⟨q.1, trivial⟩), (fun U hU hW => ⟨rfl, trivial⟩)⟩ rfl rfl hl.1 rfl (lv_room (Nat.le_of_ble_eq_true rfl)) dX9_undo_8 ⟨le_R hRc (Nat.le_refl 0), le_R hRs (Nat.le_refl 0)⟩) hS hP (fun r H locs hr1 hP hS => ?_)
  subst hr1
  refine lv_if_ne (tgt := 17) hx hb dX9_undo_11 (by decide) (fun c18 => ?_) (fun c18 => ?_)
  · have hv := hv.1 c18
    refine lv_aload_n hx hb dX9_undo_17 rfl (lv_at hl 0 rfl) ?_
    refine lv_dup hx hb dX9_undo_18 rfl ?_
    refine va_get (ci := 9) (v := .int (rdI σ0 6)) (C := RX9) (T := TX9) (N := 38) hx hb hts hinX9 hown hK hP 0 (wR_0 cy ad σ0) rfl 12 (by decide) (hts (.fieldLink RX9 109 "TaleBansModel" "tales" "I") (List.mem_of_getElem? (i := 1) rfl)) (fun x h => h) rfl dX9_undo_19 ?_
    refine lv_iload_n hx hb dX9_undo_22 rfl (lv_at hl 1 rfl) ?_
    refine lv_isub hx hb dX9_undo_23 ?_
    refine va_put (ci := 9) (v := .int ((rdI σ0 6) - k_)) (ty := .int) (C := RX9) (T := TX9) (N := 38) hx hb hts hinX9 tyX9 tyX9_ok nmX9 hown hK hP hD hS 0 (wR_0 cy ad σ0) rfl 12 (by decide) (hts (.fieldLink RX9 109 "TaleBansModel" "tales" "I") (List.mem_of_getElem? (i := 1) rfl)) (fun x h => h) rfl (by decide +kernel) rfl rfl (Nat.le_of_ble_eq_true rfl) dX9_undo_24 (fun H locs hP hD hS => ?_)
    obtain ⟨σ1, e2⟩ : ∃ y : S_, y = wrI σ0 6 ((rdI σ0 6) - k_) := ⟨_, rfl⟩
    have hP : va_P D vwCl (wR cy ad σ1) H := by rw [e2]; exact hP
    have hD : va_D A (wR cy ad σ1) := by rw [e2]; exact hD
    have hv := hv σ1 e2
    refine lv_iconst (v := 0) hx hb dX9_undo_27 (by decide) ?_
    refine lv_istore_n (lv' := [(2, .int 0), (0, .ref (ad 0)), (1, .int k_)]) hx hb dX9_undo_28 rfl hl (by decide) rfl (fun ls hl => ?_)
    refine lv_iconst (v := 0) hx hb dX9_undo_29 (by decide) ?_
    refine lv_istore_n (lv' := [(3, .int 0), (2, .int 0), (0, .ref (ad 0)), (1, .int k_)]) hx hb dX9_undo_30 rfl hl (by decide) rfl (fun ls hl => ?_)
    obtain ⟨n31, hv⟩ := hv
    have lp31 : ∀ (nn31 : Nat) (x3 : Int32) (x4 : Int32) (σ5 : S_) (H : Heap) (locs : List Loc) (ls : Array Slot), vl_X9_undo_31 Q nn31 x3 x4 σ5 → va_P D vwCl (wR cy ad σ5) H → va_D A (wR cy ad σ5) → va_S A s.heap H locs → lv_has ls 4 [(0, .ref (ad 0)), (2, .int x3), (3, .int x4)] → W p l e R s m ([.ref (ad 0), .int k_] : List Value).toArray  below meth c H locs 0 0 Z (F0 m 31 ls []) := by
      intro nn31
      induction nn31 with
      | zero => intro x3 x4 σ5 H locs ls hv; exact absurd hv id
      | succ mm31 ih31 =>
        intro x3 x4 σ5 H locs ls hv hP hD hS hl
        refine lv_iload_n hx hb dX9_undo_31 rfl (lv_at hl 2 rfl) ?_
        refine lv_aload_n hx hb dX9_undo_32 rfl (lv_at hl 0 rfl) ?_
        refine va_get (ci := 9) (v := .int (rdI σ5 9)) (C := RX9) (T := TX9) (N := 38) hx hb hts hinX9 hown hK hP 0 (wR_0 cy ad σ5) rfl 28 (by decide) (hts (.fieldLink RX9 170 "TaleBansModel" "readings" "I") (List.mem_of_getElem? (i := 2) rfl)) (fun x h => h) rfl dX9_undo_33 ?_
        refine lv_icmp_ge (tgt := 109) hx hb dX9_undo_36 (by decide) (fun c17 => ?_) (fun c17 => ?_)
        · have hv := hv.1 c17
          refine lv_aload_n hx hb dX9_undo_109 rfl (lv_at hl 0 rfl) ?_
          refine lv_iload_n hx hb dX9_undo_110 rfl (lv_at hl 1 rfl) ?_
          refine va_put (ci := 9) (v := .int x3) (ty := .int) (C := RX9) (T := TX9) (N := 38) hx hb hts hinX9 tyX9 tyX9_ok nmX9 hown hK hP hD hS 0 (wR_0 cy ad σ5) rfl 28 (by decide) (hts (.fieldLink RX9 170 "TaleBansModel" "readings" "I") (List.mem_of_getElem? (i := 2) rfl)) (fun x h => h) rfl (by decide +kernel) rfl rfl (Nat.le_of_ble_eq_true rfl) dX9_undo_111 (fun H locs hP hD hS => ?_)
          obtain ⟨σ6, e7⟩ : ∃ y : S_, y = wrI σ5 9 x3 := ⟨_, rfl⟩
          have hP : va_P D vwCl (wR cy ad σ6) H := by rw [e7]; exact hP
          have hD : va_D A (wR cy ad σ6) := by rw [e7]; exact hD
          have hv := hv σ6 e7
          refine lv_aload_n hx hb dX9_undo_114 rfl (lv_at hl 0 rfl) ?_
          refine va_get (ci := 9) (v := .int (rdI σ6 6)) (C := RX9) (T := TX9) (N := 38) hx hb hts hinX9 hown hK hP 0 (wR_0 cy ad σ6) rfl 12 (by decide) (hts (.fieldLink RX9 109 "TaleBansModel" "tales" "I") (List.mem_of_getElem? (i := 1) rfl)) (fun x h => h) rfl dX9_undo_115 ?_
          rw [hZ]; rw [hQ] at hv
          exact W.iret (v := (rdI σ6 6)) hx hb hr (fun t ht hW => ⟨⟨(rdI σ6 6), σ6, rfl, hv, ⟨P_of ht hP, hD⟩⟩, hS.F ht⟩) hS.2.2 dX9_undo_118
        · have hv := hv.2 c17
          refine lv_aload_n hx hb dX9_undo_39 rfl (lv_at hl 0 rfl) ?_
          refine lv_aload_n hx hb dX9_undo_40 rfl (lv_at hl 0 rfl) ?_
          refine va_get (ci := 9) (v := .ref (ad (21))) (C := RX9) (T := TX9) (N := 38) hx hb hts hinX9 hown hK hP 0 (wR_0 cy ad σ5) rfl 30 (by decide) (hts (.fieldLink RX9 71 "TaleBansModel" "readingTale" "[I") (List.mem_of_getElem? (i := 3) rfl)) (fun x h => h) rfl dX9_undo_41 ?_
          refine lv_iload_n hx hb dX9_undo_44 rfl (lv_at hl 2 rfl) ?_
          obtain ⟨hi, hv⟩ := hv
          refine va_iald hx hb hK hP 21 0 (wR_21 cy ad σ5) rfl hi dX9_undo_45 ?_
          have hp := True.intro
          refine k_read_i (w := wR cy ad) (va_runV (As := [.int (rdA σ5 21 (Int32.toNatClampNeg x4))]) (rest := []) ⟨hx, hb, hml, hown, hts⟩ (h_X9_noTale D cy ad A (rdA σ5 21 (Int32.toNatClampNeg x4)) σ5 hp) (cwV 1 hts gX9_undo_X9_noTale rfl rfl rfl (by decide +kernel) ⟨le_R hRf (Nat.le_of_ble_eq_true rfl), le_R hRl (Nat.le_of_ble_eq_true rfl)⟩) ⟨(fun a U g mk q => ⟨q.1, q.2.blind⟩), va_recv hK hP (ci := 9) (q0 := 0) rfl (wR_0 cy ad σ5), (fun U hU hW => ⟨rfl, WdR.pre hP hK hD hN hU hW⟩)⟩ rfl rfl hl.1 rfl (lv_room (Nat.le_of_ble_eq_true rfl)) dX9_undo_46 ⟨le_R hRc (Nat.le_refl 0), le_R hRs (Nat.le_refl 0)⟩) hS (fun r H locs hr1 hP hS => ?_)
          subst hr1
          refine lv_if_ne (tgt := 103) hx hb dX9_undo_49 (by decide) (fun c16 => ?_) (fun c16 => ?_)
          · have hv := hv.1 c16
            refine lv_iinc (v := (x4 + 1)) (lv' := [(3, .int (x4 + 1)), (0, .ref (ad 0)), (2, .int x3)]) hx hb dX9_undo_103 hl (k := 2) rfl rfl (by decide) rfl (fun ls hl => ?_)
            refine lv_goto (tgt := 31) hx hb dX9_undo_106 (by decide) ?_
            exact ih31 x3 (x4 + 1) σ5 _ _ _ hv hP hD hS (lv_sub hl [1, 2, 0] rfl)
          · have hv := hv.2 c16
            refine lv_aload_n hx hb dX9_undo_52 rfl (lv_at hl 0 rfl) ?_
            refine va_get (ci := 9) (v := .ref (ad (20))) (C := RX9) (T := TX9) (N := 38) hx hb hts hinX9 hown hK hP 0 (wR_0 cy ad σ5) rfl 29 (by decide) (hts (.fieldLink RX9 68 "TaleBansModel" "readingOf" "[I") (List.mem_of_getElem? (i := 4) rfl)) (fun x h => h) rfl dX9_undo_53 ?_
            refine lv_iload_n hx hb dX9_undo_56 rfl (lv_at hl 1 rfl) ?_
            refine lv_aload_n hx hb dX9_undo_57 rfl (lv_at hl 0 rfl) ?_
            refine va_get (ci := 9) (v := .ref (ad (20))) (C := RX9) (T := TX9) (N := 38) hx hb hts hinX9 hown hK hP 0 (wR_0 cy ad σ5) rfl 29 (by decide) (hts (.fieldLink RX9 68 "TaleBansModel" "readingOf" "[I") (List.mem_of_getElem? (i := 4) rfl)) (fun x h => h) rfl dX9_undo_58 ?_
            refine lv_iload_n hx hb dX9_undo_61 rfl (lv_at hl 2 rfl) ?_
            obtain ⟨hi, hv⟩ := hv
            refine va_iald hx hb hK hP 20 0 (wR_20 cy ad σ5) rfl hi dX9_undo_62 ?_
            obtain ⟨hi, hv⟩ := hv
            refine va_iast hx hb hK hP hD hS 20 0 (wR_20 cy ad σ5) rfl hi dX9_undo_63 (fun H locs hP hD hS => ?_)
            obtain ⟨σ8, e9⟩ : ∃ y : S_, y = wr2 σ5 20 (Int32.toNatClampNeg x3) (rdA σ5 20 (Int32.toNatClampNeg x4)) := ⟨_, rfl⟩
            have hP : va_P D vwCl (wR cy ad σ8) H := by rw [e9]; exact hP
            have hD : va_D A (wR cy ad σ8) := by rw [e9]; exact hD
            have hv := hv σ8 e9
            refine lv_aload_n hx hb dX9_undo_64 rfl (lv_at hl 0 rfl) ?_
            refine va_get (ci := 9) (v := .ref (ad (21))) (C := RX9) (T := TX9) (N := 38) hx hb hts hinX9 hown hK hP 0 (wR_0 cy ad σ8) rfl 30 (by decide) (hts (.fieldLink RX9 71 "TaleBansModel" "readingTale" "[I") (List.mem_of_getElem? (i := 3) rfl)) (fun x h => h) rfl dX9_undo_65 ?_
            refine lv_iload_n hx hb dX9_undo_68 rfl (lv_at hl 1 rfl) ?_
            refine lv_aload_n hx hb dX9_undo_69 rfl (lv_at hl 0 rfl) ?_
            refine va_get (ci := 9) (v := .ref (ad (21))) (C := RX9) (T := TX9) (N := 38) hx hb hts hinX9 hown hK hP 0 (wR_0 cy ad σ8) rfl 30 (by decide) (hts (.fieldLink RX9 71 "TaleBansModel" "readingTale" "[I") (List.mem_of_getElem? (i := 3) rfl)) (fun x h => h) rfl dX9_undo_70 ?_
            refine lv_iload_n hx hb dX9_undo_73 rfl (lv_at hl 2 rfl) ?_
            obtain ⟨hi, hv⟩ := hv
            refine va_iald hx hb hK hP 21 0 (wR_21 cy ad σ8) rfl hi dX9_undo_74 ?_
            obtain ⟨hi, hv⟩ := hv
            refine va_iast hx hb hK hP hD hS 21 0 (wR_21 cy ad σ8) rfl hi dX9_undo_75 (fun H locs hP hD hS => ?_)
            obtain ⟨σ10, e11⟩ : ∃ y : S_, y = wr2 σ8 21 (Int32.toNatClampNeg x3) (rdA σ8 21 (Int32.toNatClampNeg x4)) := ⟨_, rfl⟩
            have hP : va_P D vwCl (wR cy ad σ10) H := by rw [e11]; exact hP
            have hD : va_D A (wR cy ad σ10) := by rw [e11]; exact hD
            have hv := hv σ10 e11
            refine lv_aload_n hx hb dX9_undo_76 rfl (lv_at hl 0 rfl) ?_
            refine va_get (ci := 9) (v := .ref (ad (22))) (C := RX9) (T := TX9) (N := 38) hx hb hts hinX9 hown hK hP 0 (wR_0 cy ad σ10) rfl 31 (by decide) (hts (.fieldLink RX9 74 "TaleBansModel" "readingIn" "[I") (List.mem_of_getElem? (i := 5) rfl)) (fun x h => h) rfl dX9_undo_77 ?_
            refine lv_iload_n hx hb dX9_undo_80 rfl (lv_at hl 1 rfl) ?_
            refine lv_aload_n hx hb dX9_undo_81 rfl (lv_at hl 0 rfl) ?_
            refine va_get (ci := 9) (v := .ref (ad (22))) (C := RX9) (T := TX9) (N := 38) hx hb hts hinX9 hown hK hP 0 (wR_0 cy ad σ10) rfl 31 (by decide) (hts (.fieldLink RX9 74 "TaleBansModel" "readingIn" "[I") (List.mem_of_getElem? (i := 5) rfl)) (fun x h => h) rfl dX9_undo_82 ?_
            refine lv_iload_n hx hb dX9_undo_85 rfl (lv_at hl 2 rfl) ?_
            obtain ⟨hi, hv⟩ := hv
            refine va_iald hx hb hK hP 22 0 (wR_22 cy ad σ10) rfl hi dX9_undo_86 ?_
            obtain ⟨hi, hv⟩ := hv
            refine va_iast hx hb hK hP hD hS 22 0 (wR_22 cy ad σ10) rfl hi dX9_undo_87 (fun H locs hP hD hS => ?_)
            obtain ⟨σ12, e13⟩ : ∃ y : S_, y = wr2 σ10 22 (Int32.toNatClampNeg x3) (rdA σ10 22 (Int32.toNatClampNeg x4)) := ⟨_, rfl⟩
            have hP : va_P D vwCl (wR cy ad σ12) H := by rw [e13]; exact hP
            have hD : va_D A (wR cy ad σ12) := by rw [e13]; exact hD
            have hv := hv σ12 e13
            refine lv_aload_n hx hb dX9_undo_88 rfl (lv_at hl 0 rfl) ?_
            refine va_get (ci := 9) (v := .ref (ad (23))) (C := RX9) (T := TX9) (N := 38) hx hb hts hinX9 hown hK hP 0 (wR_0 cy ad σ12) rfl 32 (by decide) (hts (.fieldLink RX9 77 "TaleBansModel" "readingDid" "[Z") (List.mem_of_getElem? (i := 6) rfl)) (fun x h => h) rfl dX9_undo_89 ?_
            refine lv_iload_n hx hb dX9_undo_92 rfl (lv_at hl 1 rfl) ?_
            refine lv_aload_n hx hb dX9_undo_93 rfl (lv_at hl 0 rfl) ?_
            refine va_get (ci := 9) (v := .ref (ad (23))) (C := RX9) (T := TX9) (N := 38) hx hb hts hinX9 hown hK hP 0 (wR_0 cy ad σ12) rfl 32 (by decide) (hts (.fieldLink RX9 77 "TaleBansModel" "readingDid" "[Z") (List.mem_of_getElem? (i := 6) rfl)) (fun x h => h) rfl dX9_undo_94 ?_
            refine lv_iload_n hx hb dX9_undo_97 rfl (lv_at hl 2 rfl) ?_
            obtain ⟨hi, hv⟩ := hv
            refine va_zald hx hb hK hP 23 1 (wR_23 cy ad σ12) rfl hi dX9_undo_98 ?_
            obtain ⟨hi, hv⟩ := hv
            refine va_zast hx hb hK hP hD hS 23 1 (wR_23 cy ad σ12) rfl hi dX9_undo_99 (fun H locs hP hD hS => ?_)
            obtain ⟨σ14, e15⟩ : ∃ y : S_, y = wr2 σ12 23 (Int32.toNatClampNeg x3) (vp_nar .boolean (rdA σ12 23 (Int32.toNatClampNeg x4))) := ⟨_, rfl⟩
            have hP : va_P D vwCl (wR cy ad σ14) H := by rw [e15]; exact hP
            have hD : va_D A (wR cy ad σ14) := by rw [e15]; exact hD
            have hv := hv σ14 e15
            refine lv_iinc (v := (x3 + 1)) (lv' := [(2, .int (x3 + 1)), (0, .ref (ad 0)), (3, .int x4)]) hx hb dX9_undo_100 hl (k := 1) rfl rfl (by decide) rfl (fun ls hl => ?_)
            refine lv_iinc (v := (x4 + 1)) (lv' := [(3, .int (x4 + 1)), (2, .int (x3 + 1)), (0, .ref (ad 0))]) hx hb dX9_undo_103 hl (k := 2) rfl rfl (by decide) rfl (fun ls hl => ?_)
            refine lv_goto (tgt := 31) hx hb dX9_undo_106 (by decide) ?_
            exact ih31 (x3 + 1) (x4 + 1) σ14 _ _ _ hv hP hD hS (lv_sub hl [2, 1, 0] rfl)
    exact lp31 n31 0 0 σ1 _ _ _ hv hP hD hS (lv_sub hl [2, 1, 0] rfl)
  · have hv := hv.2 c18
    refine lv_bipush (v := (-2)) hx hb dX9_undo_14 (by decide) ?_
    rw [hZ]; rw [hQ] at hv
    exact W.iret (v := (-2)) hx hb hr (fun t ht hW => ⟨⟨(-2), σ0, rfl, hv, ⟨P_of ht hP, hD⟩⟩, hS.F ht⟩) hS.2.2 dX9_undo_16
set_option maxHeartbeats 4000000 in
set_option maxRecDepth 100000 in
theorem wk_X9_move (l : Launch) (h_X9_isSeason : Ct_X9_isSeason l) (h_X9_noHearth : Ct_X9_noHearth l) (h_X9_noPerson : Ct_X9_noPerson l) (sp : Sp_X9_move) : Ct_X9_move l := by
  intro D cy ad A p_ h_ season_ ag σ0  hpre
  refine Met.ofW (cc := cX9_move) (maxL := 4) (ret := (some .int)) (by decide) rfl ?_
  intro p e s m args below meth c s₁ B hml hv0
  obtain ⟨rfl, hP, hK, hD, hN⟩ := hv0
  have hx := B.exec
  have hb := B.bytes
  have hr := B.returns
  have hts := atoms_spec (ws := wsX9_move) B.pre
  have hown : s.vm.findClass RX9 = some m.cls := findClass_of_methodNamed B.named
  have hlocks := B.notSynchronized
  have hv := sp p_ h_ season_ ag σ0 hpre
  have hl := lv_entry ([.ref (ad 0), .int p_, .int h_, .int season_]) (n := 4) (Nat.le_of_ble_eq_true rfl)
  rw [lg_entry_eq]
  generalize (lg_sl ([.ref (ad 0), .int p_, .int h_, .int season_]) ++ List.replicate (4 - (lg_sl ([.ref (ad 0), .int p_, .int h_, .int season_])).length) Slot.unset).toArray = ls at hl ⊢
  have hl : lv_has ls 4 [(0, .ref (ad 0)), (1, .int p_), (2, .int h_), (3, .int season_)] := hl
  refine W_gen (fun R Z H locs hR hZ hH hlo => ?_)
  have hRf : R.frames = 2 := by rw [hR]; rfl
  have hRl : R.locals = 46 := by rw [hR]; rfl
  have hRc : R.cells = 0 := by rw [hR]; rfl
  have hRs : R.slots = 0 := by rw [hR]; rfl
  have hS : va_S A s.heap H locs := by rw [hH, hlo]; exact va_S.rf
  rw [← hH] at hP
  obtain ⟨Q, hQ⟩ : ∃ q : Int32 → S_ → Prop, q = (post_X9_move p_ h_ season_ ag σ0) := ⟨_, rfl⟩
  rw [← hQ] at hv
  have hinX9 : ∀ w ∈ wsX90, w ∈ wsX9_move := by decide +kernel
  refine lv_aload_n hx hb dX9_move_0 rfl (lv_at hl 0 rfl) ?_
  refine lv_iload_n hx hb dX9_move_1 rfl (lv_at hl 1 rfl) ?_
  have hp := True.intro
  refine k_read_i (w := wR cy ad) (va_runV (As := [.int p_]) (rest := []) ⟨hx, hb, hml, hown, hts⟩ (h_X9_noPerson D cy ad A p_ σ0 hp) (cwV 1 hts gX9_move_X9_noPerson rfl rfl rfl (by decide +kernel) ⟨le_R hRf (Nat.le_of_ble_eq_true rfl), le_R hRl (Nat.le_of_ble_eq_true rfl)⟩) ⟨(fun a U g mk q => ⟨q.1, q.2.blind⟩), va_recv hK hP (ci := 9) (q0 := 0) rfl (wR_0 cy ad σ0), (fun U hU hW => ⟨rfl, WdR.pre hP hK hD hN hU hW⟩)⟩ rfl rfl hl.1 rfl (lv_room (Nat.le_of_ble_eq_true rfl)) dX9_move_2 ⟨le_R hRc (Nat.le_refl 0), le_R hRs (Nat.le_refl 0)⟩) hS (fun r H locs hr1 hP hS => ?_)
  subst hr1
  refine lv_if_ne (tgt := 15) hx hb dX9_move_5 (by decide) (fun c12 => ?_) (fun c12 => ?_)
  · have hv := hv.1 c12
    refine lv_iconst (v := (-1)) hx hb dX9_move_15 (by decide) ?_
    rw [hZ]; rw [hQ] at hv
    exact W.iret (v := (-1)) hx hb hr (fun t ht hW => ⟨⟨(-1), σ0, rfl, hv, ⟨P_of ht hP, hD⟩⟩, hS.F ht⟩) hS.2.2 dX9_move_16
  · have hv := hv.2 c12
    refine lv_iload_n hx hb dX9_move_8 rfl (lv_at hl 2 rfl) ?_
    refine k_pure_i (va_runS (As := [.int h_]) (rest := []) ⟨hx, hb, hml, hown, hts⟩ (h_X9_noHearth h_) (va_cwS 1 hts gX9_move_X9_noHearth rfl rfl rfl (by decide +kernel) ⟨le_R hRf (Nat.le_of_ble_eq_true rfl), le_R hRl (Nat.le_of_ble_eq_true rfl)⟩) ⟨(fun a U g mk q => ⟨q.1, trivial⟩), (fun U hU hW => ⟨rfl, trivial⟩)⟩ rfl rfl hl.1 rfl (lv_room (Nat.le_of_ble_eq_true rfl)) dX9_move_9 ⟨le_R hRc (Nat.le_refl 0), le_R hRs (Nat.le_refl 0)⟩) hS hP (fun r H locs hr1 hP hS => ?_)
    subst hr1
    refine lv_if_eq (tgt := 17) hx hb dX9_move_12 (by decide) (fun c11 => ?_) (fun c11 => ?_)
    · have hv := hv.1 c11
      refine lv_iload_n hx hb dX9_move_17 rfl (lv_at hl 3 rfl) ?_
      refine k_pure_i (va_runS (As := [.int season_]) (rest := []) ⟨hx, hb, hml, hown, hts⟩ (h_X9_isSeason season_) (va_cwS 1 hts gX9_move_X9_isSeason rfl rfl rfl (by decide +kernel) ⟨le_R hRf (Nat.le_of_ble_eq_true rfl), le_R hRl (Nat.le_of_ble_eq_true rfl)⟩) ⟨(fun a U g mk q => ⟨q.1, trivial⟩), (fun U hU hW => ⟨rfl, trivial⟩)⟩ rfl rfl hl.1 rfl (lv_room (Nat.le_of_ble_eq_true rfl)) dX9_move_18 ⟨le_R hRc (Nat.le_refl 0), le_R hRs (Nat.le_refl 0)⟩) hS hP (fun r H locs hr1 hP hS => ?_)
      subst hr1
      refine lv_if_ne (tgt := 27) hx hb dX9_move_21 (by decide) (fun c10 => ?_) (fun c10 => ?_)
      · have hv := hv.1 c10
        refine lv_aload_n hx hb dX9_move_27 rfl (lv_at hl 0 rfl) ?_
        refine va_get (ci := 9) (v := .int (rdI σ0 7)) (C := RX9) (T := TX9) (N := 38) hx hb hts hinX9 hown hK hP 0 (wR_0 cy ad σ0) rfl 17 (by decide) (hts (.fieldLink RX9 164 "TaleBansModel" "moves" "I") (List.mem_of_getElem? (i := 1) rfl)) (fun x h => h) rfl dX9_move_28 ?_
        refine lv_bipush (v := 8) hx hb dX9_move_31 (by decide) ?_
        refine lv_icmp_ne (tgt := 39) hx hb dX9_move_33 (by decide) (fun c9 => ?_) (fun c9 => ?_)
        · have hv := hv.1 c9
          refine lv_aload_n hx hb dX9_move_39 rfl (lv_at hl 0 rfl) ?_
          refine va_get (ci := 9) (v := .ref (ad (11))) (C := RX9) (T := TX9) (N := 38) hx hb hts hinX9 hown hK hP 0 (wR_0 cy ad σ0) rfl 18 (by decide) (hts (.fieldLink RX9 41 "TaleBansModel" "moveOf" "[I") (List.mem_of_getElem? (i := 2) rfl)) (fun x h => h) rfl dX9_move_40 ?_
          refine lv_aload_n hx hb dX9_move_43 rfl (lv_at hl 0 rfl) ?_
          refine va_get (ci := 9) (v := .int (rdI σ0 7)) (C := RX9) (T := TX9) (N := 38) hx hb hts hinX9 hown hK hP 0 (wR_0 cy ad σ0) rfl 17 (by decide) (hts (.fieldLink RX9 164 "TaleBansModel" "moves" "I") (List.mem_of_getElem? (i := 1) rfl)) (fun x h => h) rfl dX9_move_44 ?_
          refine lv_iload_n hx hb dX9_move_47 rfl (lv_at hl 1 rfl) ?_
          obtain ⟨hi, hv⟩ := hv
          refine va_iast hx hb hK hP hD hS 11 0 (wR_11 cy ad σ0) rfl hi dX9_move_48 (fun H locs hP hD hS => ?_)
          obtain ⟨σ1, e2⟩ : ∃ y : S_, y = wr2 σ0 11 (Int32.toNatClampNeg (rdI σ0 7)) p_ := ⟨_, rfl⟩
          have hP : va_P D vwCl (wR cy ad σ1) H := by rw [e2]; exact hP
          have hD : va_D A (wR cy ad σ1) := by rw [e2]; exact hD
          have hv := hv σ1 e2
          refine lv_aload_n hx hb dX9_move_49 rfl (lv_at hl 0 rfl) ?_
          refine va_get (ci := 9) (v := .ref (ad (12))) (C := RX9) (T := TX9) (N := 38) hx hb hts hinX9 hown hK hP 0 (wR_0 cy ad σ1) rfl 19 (by decide) (hts (.fieldLink RX9 44 "TaleBansModel" "moveTo" "[I") (List.mem_of_getElem? (i := 3) rfl)) (fun x h => h) rfl dX9_move_50 ?_
          refine lv_aload_n hx hb dX9_move_53 rfl (lv_at hl 0 rfl) ?_
          refine va_get (ci := 9) (v := .int (rdI σ1 7)) (C := RX9) (T := TX9) (N := 38) hx hb hts hinX9 hown hK hP 0 (wR_0 cy ad σ1) rfl 17 (by decide) (hts (.fieldLink RX9 164 "TaleBansModel" "moves" "I") (List.mem_of_getElem? (i := 1) rfl)) (fun x h => h) rfl dX9_move_54 ?_
          refine lv_iload_n hx hb dX9_move_57 rfl (lv_at hl 2 rfl) ?_
          obtain ⟨hi, hv⟩ := hv
          refine va_iast hx hb hK hP hD hS 12 0 (wR_12 cy ad σ1) rfl hi dX9_move_58 (fun H locs hP hD hS => ?_)
          obtain ⟨σ3, e4⟩ : ∃ y : S_, y = wr2 σ1 12 (Int32.toNatClampNeg (rdI σ1 7)) h_ := ⟨_, rfl⟩
          have hP : va_P D vwCl (wR cy ad σ3) H := by rw [e4]; exact hP
          have hD : va_D A (wR cy ad σ3) := by rw [e4]; exact hD
          have hv := hv σ3 e4
          refine lv_aload_n hx hb dX9_move_59 rfl (lv_at hl 0 rfl) ?_
          refine va_get (ci := 9) (v := .ref (ad (13))) (C := RX9) (T := TX9) (N := 38) hx hb hts hinX9 hown hK hP 0 (wR_0 cy ad σ3) rfl 20 (by decide) (hts (.fieldLink RX9 47 "TaleBansModel" "moveIn" "[I") (List.mem_of_getElem? (i := 4) rfl)) (fun x h => h) rfl dX9_move_60 ?_
          refine lv_aload_n hx hb dX9_move_63 rfl (lv_at hl 0 rfl) ?_
          refine va_get (ci := 9) (v := .int (rdI σ3 7)) (C := RX9) (T := TX9) (N := 38) hx hb hts hinX9 hown hK hP 0 (wR_0 cy ad σ3) rfl 17 (by decide) (hts (.fieldLink RX9 164 "TaleBansModel" "moves" "I") (List.mem_of_getElem? (i := 1) rfl)) (fun x h => h) rfl dX9_move_64 ?_
          refine lv_iload_n hx hb dX9_move_67 rfl (lv_at hl 3 rfl) ?_
          obtain ⟨hi, hv⟩ := hv
          refine va_iast hx hb hK hP hD hS 13 0 (wR_13 cy ad σ3) rfl hi dX9_move_68 (fun H locs hP hD hS => ?_)
          obtain ⟨σ5, e6⟩ : ∃ y : S_, y = wr2 σ3 13 (Int32.toNatClampNeg (rdI σ3 7)) season_ := ⟨_, rfl⟩
          have hP : va_P D vwCl (wR cy ad σ5) H := by rw [e6]; exact hP
          have hD : va_D A (wR cy ad σ5) := by rw [e6]; exact hD
          have hv := hv σ5 e6
          refine lv_aload_n hx hb dX9_move_69 rfl (lv_at hl 0 rfl) ?_
          refine lv_dup hx hb dX9_move_70 rfl ?_
          refine va_get (ci := 9) (v := .int (rdI σ5 7)) (C := RX9) (T := TX9) (N := 38) hx hb hts hinX9 hown hK hP 0 (wR_0 cy ad σ5) rfl 17 (by decide) (hts (.fieldLink RX9 164 "TaleBansModel" "moves" "I") (List.mem_of_getElem? (i := 1) rfl)) (fun x h => h) rfl dX9_move_71 ?_
          refine lv_iconst (v := 1) hx hb dX9_move_74 (by decide) ?_
          refine lv_iadd hx hb dX9_move_75 ?_
          refine va_put (ci := 9) (v := .int ((rdI σ5 7) + 1)) (ty := .int) (C := RX9) (T := TX9) (N := 38) hx hb hts hinX9 tyX9 tyX9_ok nmX9 hown hK hP hD hS 0 (wR_0 cy ad σ5) rfl 17 (by decide) (hts (.fieldLink RX9 164 "TaleBansModel" "moves" "I") (List.mem_of_getElem? (i := 1) rfl)) (fun x h => h) rfl (by decide +kernel) rfl rfl (Nat.le_of_ble_eq_true rfl) dX9_move_76 (fun H locs hP hD hS => ?_)
          obtain ⟨σ7, e8⟩ : ∃ y : S_, y = wrI σ5 7 ((rdI σ5 7) + 1) := ⟨_, rfl⟩
          have hP : va_P D vwCl (wR cy ad σ7) H := by rw [e8]; exact hP
          have hD : va_D A (wR cy ad σ7) := by rw [e8]; exact hD
          have hv := hv σ7 e8
          refine lv_aload_n hx hb dX9_move_79 rfl (lv_at hl 0 rfl) ?_
          refine va_get (ci := 9) (v := .int (rdI σ7 7)) (C := RX9) (T := TX9) (N := 38) hx hb hts hinX9 hown hK hP 0 (wR_0 cy ad σ7) rfl 17 (by decide) (hts (.fieldLink RX9 164 "TaleBansModel" "moves" "I") (List.mem_of_getElem? (i := 1) rfl)) (fun x h => h) rfl dX9_move_80 ?_
          refine lv_iconst (v := 1) hx hb dX9_move_83 (by decide) ?_
          refine lv_isub hx hb dX9_move_84 ?_
          rw [hZ]; rw [hQ] at hv
          exact W.iret (v := ((rdI σ7 7) - 1)) hx hb hr (fun t ht hW => ⟨⟨((rdI σ7 7) - 1), σ7, rfl, hv, ⟨P_of ht hP, hD⟩⟩, hS.F ht⟩) hS.2.2 dX9_move_85
        · have hv := hv.2 c9
          refine lv_bipush (v := (-4)) hx hb dX9_move_36 (by decide) ?_
          rw [hZ]; rw [hQ] at hv
          exact W.iret (v := (-4)) hx hb hr (fun t ht hW => ⟨⟨(-4), σ0, rfl, hv, ⟨P_of ht hP, hD⟩⟩, hS.F ht⟩) hS.2.2 dX9_move_38
      · have hv := hv.2 c10
        refine lv_bipush (v := (-2)) hx hb dX9_move_24 (by decide) ?_
        rw [hZ]; rw [hQ] at hv
        exact W.iret (v := (-2)) hx hb hr (fun t ht hW => ⟨⟨(-2), σ0, rfl, hv, ⟨P_of ht hP, hD⟩⟩, hS.F ht⟩) hS.2.2 dX9_move_26
    · have hv := hv.2 c11
      refine lv_iconst (v := (-1)) hx hb dX9_move_15 (by decide) ?_
      rw [hZ]; rw [hQ] at hv
      exact W.iret (v := (-1)) hx hb hr (fun t ht hW => ⟨⟨(-1), σ0, rfl, hv, ⟨P_of ht hP, hD⟩⟩, hS.F ht⟩) hS.2.2 dX9_move_16
set_option maxHeartbeats 4000000 in
set_option maxRecDepth 100000 in
theorem wk_X9_unmove (l : Launch) (h_X9_in : Ct_X9_in l) (sp : Sp_X9_unmove) : Ct_X9_unmove l := by
  intro D cy ad A k_ ag σ0  hpre
  refine Met.ofW (cc := cX9_unmove) (maxL := 2) (ret := (some .int)) (by decide) rfl ?_
  intro p e s m args below meth c s₁ B hml hv0
  obtain ⟨rfl, hP, hK, hD, hN⟩ := hv0
  have hx := B.exec
  have hb := B.bytes
  have hr := B.returns
  have hts := atoms_spec (ws := wsX9_unmove) B.pre
  have hown : s.vm.findClass RX9 = some m.cls := findClass_of_methodNamed B.named
  have hlocks := B.notSynchronized
  have hv := sp k_ ag σ0 hpre
  have hl := lv_entry ([.ref (ad 0), .int k_]) (n := 2) (Nat.le_of_ble_eq_true rfl)
  rw [lg_entry_eq]
  generalize (lg_sl ([.ref (ad 0), .int k_]) ++ List.replicate (2 - (lg_sl ([.ref (ad 0), .int k_])).length) Slot.unset).toArray = ls at hl ⊢
  have hl : lv_has ls 2 [(0, .ref (ad 0)), (1, .int k_)] := hl
  refine W_gen (fun R Z H locs hR hZ hH hlo => ?_)
  have hRf : R.frames = 1 := by rw [hR]; rfl
  have hRl : R.locals = 25 := by rw [hR]; rfl
  have hRc : R.cells = 0 := by rw [hR]; rfl
  have hRs : R.slots = 0 := by rw [hR]; rfl
  have hS : va_S A s.heap H locs := by rw [hH, hlo]; exact va_S.rf
  rw [← hH] at hP
  obtain ⟨Q, hQ⟩ : ∃ q : Int32 → S_ → Prop, q = (post_X9_unmove k_ ag σ0) := ⟨_, rfl⟩
  rw [← hQ] at hv
  have hinX9 : ∀ w ∈ wsX90, w ∈ wsX9_unmove := by decide +kernel
  refine lv_iload_n hx hb dX9_unmove_0 rfl (lv_at hl 1 rfl) ?_
  refine lv_i2l hx hb dX9_unmove_1 rfl ?_
  refine lv_lconst (v := 0) hx hb dX9_unmove_2 rfl ?_
  refine lv_aload_n hx hb dX9_unmove_3 rfl (lv_at hl 0 rfl) ?_
  refine va_get (ci := 9) (v := .int (rdI σ0 7)) (C := RX9) (T := TX9) (N := 38) hx hb hts hinX9 hown hK hP 0 (wR_0 cy ad σ0) rfl 17 (by decide) (hts (.fieldLink RX9 164 "TaleBansModel" "moves" "I") (List.mem_of_getElem? (i := 1) rfl)) (fun x h => h) rfl dX9_unmove_4 ?_
  refine lv_i2l hx hb dX9_unmove_7 rfl ?_
  refine k_pure_i (va_runS (As := [.long (Int32.toInt64 k_), .long 0, .long (Int32.toInt64 (rdI σ0 7))]) (rest := []) ⟨hx, hb, hml, hown, hts⟩ (h_X9_in (Int32.toInt64 k_) 0 (Int32.toInt64 (rdI σ0 7))) (va_cwS 3 hts gX9_unmove_X9_in rfl rfl rfl (by decide +kernel) ⟨le_R hRf (Nat.le_of_ble_eq_true rfl), le_R hRl (Nat.le_of_ble_eq_true rfl)⟩) ⟨(fun a U g mk q => ⟨q.1, trivial⟩), (fun U hU hW => ⟨rfl, trivial⟩)⟩ rfl rfl hl.1 rfl (lv_room (Nat.le_of_ble_eq_true rfl)) dX9_unmove_8 ⟨le_R hRc (Nat.le_refl 0), le_R hRs (Nat.le_refl 0)⟩) hS hP (fun r H locs hr1 hP hS => ?_)
  subst hr1
  refine lv_if_ne (tgt := 17) hx hb dX9_unmove_11 (by decide) (fun c3 => ?_) (fun c3 => ?_)
  · have hv := hv.1 c3
    refine lv_aload_n hx hb dX9_unmove_17 rfl (lv_at hl 0 rfl) ?_
    refine lv_dup hx hb dX9_unmove_18 rfl ?_
    refine va_get (ci := 9) (v := .int (rdI σ0 7)) (C := RX9) (T := TX9) (N := 38) hx hb hts hinX9 hown hK hP 0 (wR_0 cy ad σ0) rfl 17 (by decide) (hts (.fieldLink RX9 164 "TaleBansModel" "moves" "I") (List.mem_of_getElem? (i := 1) rfl)) (fun x h => h) rfl dX9_unmove_19 ?_
    refine lv_iload_n hx hb dX9_unmove_22 rfl (lv_at hl 1 rfl) ?_
    refine lv_isub hx hb dX9_unmove_23 ?_
    refine va_put (ci := 9) (v := .int ((rdI σ0 7) - k_)) (ty := .int) (C := RX9) (T := TX9) (N := 38) hx hb hts hinX9 tyX9 tyX9_ok nmX9 hown hK hP hD hS 0 (wR_0 cy ad σ0) rfl 17 (by decide) (hts (.fieldLink RX9 164 "TaleBansModel" "moves" "I") (List.mem_of_getElem? (i := 1) rfl)) (fun x h => h) rfl (by decide +kernel) rfl rfl (Nat.le_of_ble_eq_true rfl) dX9_unmove_24 (fun H locs hP hD hS => ?_)
    obtain ⟨σ1, e2⟩ : ∃ y : S_, y = wrI σ0 7 ((rdI σ0 7) - k_) := ⟨_, rfl⟩
    have hP : va_P D vwCl (wR cy ad σ1) H := by rw [e2]; exact hP
    have hD : va_D A (wR cy ad σ1) := by rw [e2]; exact hD
    have hv := hv σ1 e2
    refine lv_aload_n hx hb dX9_unmove_27 rfl (lv_at hl 0 rfl) ?_
    refine va_get (ci := 9) (v := .int (rdI σ1 7)) (C := RX9) (T := TX9) (N := 38) hx hb hts hinX9 hown hK hP 0 (wR_0 cy ad σ1) rfl 17 (by decide) (hts (.fieldLink RX9 164 "TaleBansModel" "moves" "I") (List.mem_of_getElem? (i := 1) rfl)) (fun x h => h) rfl dX9_unmove_28 ?_
    rw [hZ]; rw [hQ] at hv
    exact W.iret (v := (rdI σ1 7)) hx hb hr (fun t ht hW => ⟨⟨(rdI σ1 7), σ1, rfl, hv, ⟨P_of ht hP, hD⟩⟩, hS.F ht⟩) hS.2.2 dX9_unmove_31
  · have hv := hv.2 c3
    refine lv_bipush (v := (-2)) hx hb dX9_unmove_14 (by decide) ?_
    rw [hZ]; rw [hQ] at hv
    exact W.iret (v := (-2)) hx hb hr (fun t ht hW => ⟨⟨(-2), σ0, rfl, hv, ⟨P_of ht hP, hD⟩⟩, hS.F ht⟩) hS.2.2 dX9_unmove_16
set_option maxHeartbeats 4000000 in
set_option maxRecDepth 100000 in
theorem wk_X9_law (l : Launch) (h_X9_in : Ct_X9_in l) (sp : Sp_X9_law) : Ct_X9_law l := by
  intro D cy ad A v_ ag σ0  hpre
  refine Met.ofW (cc := cX9_law) (maxL := 3) (ret := (some .int)) (by decide) rfl ?_
  intro p e s m args below meth c s₁ B hml hv0
  obtain ⟨rfl, hP, hK, hD, hN⟩ := hv0
  have hx := B.exec
  have hb := B.bytes
  have hr := B.returns
  have hts := atoms_spec (ws := wsX9_law) B.pre
  have hown : s.vm.findClass RX9 = some m.cls := findClass_of_methodNamed B.named
  have hlocks := B.notSynchronized
  have hv := sp v_ ag σ0 hpre
  have hl := lv_entry ([.ref (ad 0), .int v_]) (n := 3) (Nat.le_of_ble_eq_true rfl)
  rw [lg_entry_eq]
  generalize (lg_sl ([.ref (ad 0), .int v_]) ++ List.replicate (3 - (lg_sl ([.ref (ad 0), .int v_])).length) Slot.unset).toArray = ls at hl ⊢
  have hl : lv_has ls 3 [(0, .ref (ad 0)), (1, .int v_)] := hl
  refine W_gen (fun R Z H locs hR hZ hH hlo => ?_)
  have hRf : R.frames = 1 := by rw [hR]; rfl
  have hRl : R.locals = 25 := by rw [hR]; rfl
  have hRc : R.cells = 0 := by rw [hR]; rfl
  have hRs : R.slots = 0 := by rw [hR]; rfl
  have hS : va_S A s.heap H locs := by rw [hH, hlo]; exact va_S.rf
  rw [← hH] at hP
  obtain ⟨Q, hQ⟩ : ∃ q : Int32 → S_ → Prop, q = (post_X9_law v_ ag σ0) := ⟨_, rfl⟩
  rw [← hQ] at hv
  have hinX9 : ∀ w ∈ wsX90, w ∈ wsX9_law := by decide +kernel
  refine lv_iload_n hx hb dX9_law_0 rfl (lv_at hl 1 rfl) ?_
  refine lv_i2l hx hb dX9_law_1 rfl ?_
  refine lv_lconst (v := 0) hx hb dX9_law_2 rfl ?_
  refine lv_ldc2 (v := (2)) hx hb hown (hts (.constantLong RX9 114 (2)) (List.mem_of_getElem? (i := 1) rfl)) dX9_law_3 ?_
  refine k_pure_i (va_runS (As := [.long (Int32.toInt64 v_), .long 0, .long (2)]) (rest := []) ⟨hx, hb, hml, hown, hts⟩ (h_X9_in (Int32.toInt64 v_) 0 (2)) (va_cwS 3 hts gX9_law_X9_in rfl rfl rfl (by decide +kernel) ⟨le_R hRf (Nat.le_of_ble_eq_true rfl), le_R hRl (Nat.le_of_ble_eq_true rfl)⟩) ⟨(fun a U g mk q => ⟨q.1, trivial⟩), (fun U hU hW => ⟨rfl, trivial⟩)⟩ rfl rfl hl.1 rfl (lv_room (Nat.le_of_ble_eq_true rfl)) dX9_law_6 ⟨le_R hRc (Nat.le_refl 0), le_R hRs (Nat.le_refl 0)⟩) hS hP (fun r H locs hr1 hP hS => ?_)
  subst hr1
  refine lv_if_ne (tgt := 15) hx hb dX9_law_9 (by decide) (fun c4 => ?_) (fun c4 => ?_)
  · have hv := hv.1 c4
    refine lv_aload_n hx hb dX9_law_15 rfl (lv_at hl 0 rfl) ?_
    refine va_get (ci := 9) (v := .int (rdI σ0 1)) (C := RX9) (T := TX9) (N := 38) hx hb hts hinX9 hown hK hP 0 (wR_0 cy ad σ0) rfl 1 (by decide) (hts (.fieldLink RX9 102 "TaleBansModel" "persons" "I") (List.mem_of_getElem? (i := 2) rfl)) (fun x h => h) rfl dX9_law_16 ?_
    refine lv_if_ne (tgt := 25) hx hb dX9_law_19 (by decide) (fun c3 => ?_) (fun c3 => ?_)
    · have hv := hv.1 c3
      refine lv_aload_n hx hb dX9_law_25 rfl (lv_at hl 0 rfl) ?_
      refine va_get (ci := 9) (v := .int (rdI σ0 3)) (C := RX9) (T := TX9) (N := 38) hx hb hts hinX9 hown hK hP 0 (wR_0 cy ad σ0) rfl 6 (by decide) (hts (.fieldLink RX9 161 "TaleBansModel" "lawNow" "I") (List.mem_of_getElem? (i := 3) rfl)) (fun x h => h) rfl dX9_law_26 ?_
      refine lv_istore_n (lv' := [(2, .int (rdI σ0 3)), (0, .ref (ad 0)), (1, .int v_)]) hx hb dX9_law_29 rfl hl (by decide) rfl (fun ls hl => ?_)
      refine lv_aload_n hx hb dX9_law_30 rfl (lv_at hl 1 rfl) ?_
      refine lv_iload_n hx hb dX9_law_31 rfl (lv_at hl 2 rfl) ?_
      refine va_put (ci := 9) (v := .int v_) (ty := .int) (C := RX9) (T := TX9) (N := 38) hx hb hts hinX9 tyX9 tyX9_ok nmX9 hown hK hP hD hS 0 (wR_0 cy ad σ0) rfl 6 (by decide) (hts (.fieldLink RX9 161 "TaleBansModel" "lawNow" "I") (List.mem_of_getElem? (i := 3) rfl)) (fun x h => h) rfl (by decide +kernel) rfl rfl (Nat.le_of_ble_eq_true rfl) dX9_law_32 (fun H locs hP hD hS => ?_)
      obtain ⟨σ1, e2⟩ : ∃ y : S_, y = wrI σ0 3 v_ := ⟨_, rfl⟩
      have hP : va_P D vwCl (wR cy ad σ1) H := by rw [e2]; exact hP
      have hD : va_D A (wR cy ad σ1) := by rw [e2]; exact hD
      have hv := hv σ1 e2
      refine lv_iload_n hx hb dX9_law_35 rfl (lv_at hl 0 rfl) ?_
      rw [hZ]; rw [hQ] at hv
      exact W.iret (v := (rdI σ0 3)) hx hb hr (fun t ht hW => ⟨⟨(rdI σ0 3), σ1, rfl, hv, ⟨P_of ht hP, hD⟩⟩, hS.F ht⟩) hS.2.2 dX9_law_36
    · have hv := hv.2 c3
      refine lv_bipush (v := (-3)) hx hb dX9_law_22 (by decide) ?_
      rw [hZ]; rw [hQ] at hv
      exact W.iret (v := (-3)) hx hb hr (fun t ht hW => ⟨⟨(-3), σ0, rfl, hv, ⟨P_of ht hP, hD⟩⟩, hS.F ht⟩) hS.2.2 dX9_law_24
  · have hv := hv.2 c4
    refine lv_bipush (v := (-2)) hx hb dX9_law_12 (by decide) ?_
    rw [hZ]; rw [hQ] at hv
    exact W.iret (v := (-2)) hx hb hr (fun t ht hW => ⟨⟨(-2), σ0, rfl, hv, ⟨P_of ht hP, hD⟩⟩, hS.F ht⟩) hS.2.2 dX9_law_14
set_option maxHeartbeats 4000000 in
set_option maxRecDepth 100000 in
theorem wk_X9_pay (l : Launch) (h_X9_isIn : Ct_X9_isIn l) (h_X9_noPerson : Ct_X9_noPerson l) (sp : Sp_X9_pay) : Ct_X9_pay l := by
  intro D cy ad A p_ is_ ag σ0  hpre
  refine Met.ofW (cc := cX9_pay) (maxL := 4) (ret := (some .int)) (by decide) rfl ?_
  intro p e s m args below meth c s₁ B hml hv0
  obtain ⟨rfl, hP, hK, hD, hN⟩ := hv0
  have hx := B.exec
  have hb := B.bytes
  have hr := B.returns
  have hts := atoms_spec (ws := wsX9_pay) B.pre
  have hown : s.vm.findClass RX9 = some m.cls := findClass_of_methodNamed B.named
  have hlocks := B.notSynchronized
  have hv := sp p_ is_ ag σ0 hpre
  have hl := lv_entry ([.ref (ad 0), .int p_, .int is_]) (n := 4) (Nat.le_of_ble_eq_true rfl)
  rw [lg_entry_eq]
  generalize (lg_sl ([.ref (ad 0), .int p_, .int is_]) ++ List.replicate (4 - (lg_sl ([.ref (ad 0), .int p_, .int is_])).length) Slot.unset).toArray = ls at hl ⊢
  have hl : lv_has ls 4 [(0, .ref (ad 0)), (1, .int p_), (2, .int is_)] := hl
  refine W_gen (fun R Z H locs hR hZ hH hlo => ?_)
  have hRf : R.frames = 2 := by rw [hR]; rfl
  have hRl : R.locals = 46 := by rw [hR]; rfl
  have hRc : R.cells = 0 := by rw [hR]; rfl
  have hRs : R.slots = 0 := by rw [hR]; rfl
  have hS : va_S A s.heap H locs := by rw [hH, hlo]; exact va_S.rf
  rw [← hH] at hP
  obtain ⟨Q, hQ⟩ : ∃ q : Int32 → S_ → Prop, q = (post_X9_pay p_ is_ ag σ0) := ⟨_, rfl⟩
  rw [← hQ] at hv
  have hinX9 : ∀ w ∈ wsX90, w ∈ wsX9_pay := by decide +kernel
  refine lv_aload_n hx hb dX9_pay_0 rfl (lv_at hl 0 rfl) ?_
  refine lv_iload_n hx hb dX9_pay_1 rfl (lv_at hl 1 rfl) ?_
  have hp := True.intro
  refine k_read_i (w := wR cy ad) (va_runV (As := [.int p_]) (rest := []) ⟨hx, hb, hml, hown, hts⟩ (h_X9_noPerson D cy ad A p_ σ0 hp) (cwV 1 hts gX9_pay_X9_noPerson rfl rfl rfl (by decide +kernel) ⟨le_R hRf (Nat.le_of_ble_eq_true rfl), le_R hRl (Nat.le_of_ble_eq_true rfl)⟩) ⟨(fun a U g mk q => ⟨q.1, q.2.blind⟩), va_recv hK hP (ci := 9) (q0 := 0) rfl (wR_0 cy ad σ0), (fun U hU hW => ⟨rfl, WdR.pre hP hK hD hN hU hW⟩)⟩ rfl rfl hl.1 rfl (lv_room (Nat.le_of_ble_eq_true rfl)) dX9_pay_2 ⟨le_R hRc (Nat.le_refl 0), le_R hRs (Nat.le_refl 0)⟩) hS (fun r H locs hr1 hP hS => ?_)
  subst hr1
  refine lv_if_eq (tgt := 10) hx hb dX9_pay_5 (by decide) (fun c8 => ?_) (fun c8 => ?_)
  · have hv := hv.1 c8
    refine lv_aload_n hx hb dX9_pay_10 rfl (lv_at hl 0 rfl) ?_
    refine va_get (ci := 9) (v := .int (rdI σ0 2)) (C := RX9) (T := TX9) (N := 38) hx hb hts hinX9 hown hK hP 0 (wR_0 cy ad σ0) rfl 5 (by decide) (hts (.fieldLink RX9 158 "TaleBansModel" "paidNow" "I") (List.mem_of_getElem? (i := 1) rfl)) (fun x h => h) rfl dX9_pay_11 ?_
    refine lv_iload_n hx hb dX9_pay_14 rfl (lv_at hl 1 rfl) ?_
    refine k_pure_i (va_runS (As := [.int (rdI σ0 2), .int p_]) (rest := []) ⟨hx, hb, hml, hown, hts⟩ (h_X9_isIn (rdI σ0 2) p_) (va_cwS 2 hts gX9_pay_X9_isIn rfl rfl rfl (by decide +kernel) ⟨le_R hRf (Nat.le_of_ble_eq_true rfl), le_R hRl (Nat.le_of_ble_eq_true rfl)⟩) ⟨(fun a U g mk q => ⟨q.1, trivial⟩), (fun U hU hW => ⟨rfl, trivial⟩)⟩ rfl rfl hl.1 rfl (lv_room (Nat.le_of_ble_eq_true rfl)) dX9_pay_15 ⟨le_R hRc (Nat.le_refl 0), le_R hRs (Nat.le_refl 0)⟩) hS hP (fun r H locs hr1 hP hS => ?_)
    subst hr1
    refine lv_istore_n (lv' := [(3, .int (fn_X9_isIn (rdI σ0 2) p_)), (0, .ref (ad 0)), (1, .int p_), (2, .int is_)]) hx hb dX9_pay_18 rfl hl (by decide) rfl (fun ls hl => ?_)
    refine lv_aload_n hx hb dX9_pay_19 rfl (lv_at hl 1 rfl) ?_
    refine lv_iload_n hx hb dX9_pay_20 rfl (lv_at hl 3 rfl) ?_
    obtain ⟨P1, hv, hvr⟩ := hv
    have jn2 : ∀ (b3 : Int32) (H : Heap) (locs : List Loc) (ls : Array Slot), P1 b3 → va_P D vwCl (wR cy ad σ0) H → va_S A s.heap H locs → lv_has ls 4 [(3, .int (fn_X9_isIn (rdI σ0 2) p_)), (0, .ref (ad 0)), (1, .int p_), (2, .int is_)] → W p l e R s m ([.ref (ad 0), .int p_, .int is_] : List Value).toArray below meth c H locs 0 0 Z (F0 m 45 ls [.int b3, .ref (ad 0)]) := by
      intro b3 H locs ls hv hP hS hl
      have hv := hvr b3 hv
      refine va_put (ci := 9) (v := .int b3) (ty := .int) (C := RX9) (T := TX9) (N := 38) hx hb hts hinX9 tyX9 tyX9_ok nmX9 hown hK hP hD hS 0 (wR_0 cy ad σ0) rfl 5 (by decide) (hts (.fieldLink RX9 158 "TaleBansModel" "paidNow" "I") (List.mem_of_getElem? (i := 1) rfl)) (fun x h => h) rfl (by decide +kernel) rfl rfl (Nat.le_of_ble_eq_true rfl) dX9_pay_45 (fun H locs hP hD hS => ?_)
      obtain ⟨σ5, e6⟩ : ∃ y : S_, y = wrI σ0 2 b3 := ⟨_, rfl⟩
      have hP : va_P D vwCl (wR cy ad σ5) H := by rw [e6]; exact hP
      have hD : va_D A (wR cy ad σ5) := by rw [e6]; exact hD
      have hv := hv σ5 e6
      refine lv_iload_n hx hb dX9_pay_48 rfl (lv_at hl 0 rfl) ?_
      refine lv_iload_n hx hb dX9_pay_49 rfl (lv_at hl 3 rfl) ?_
      refine lv_icmp_ne (tgt := 57) hx hb dX9_pay_50 (by decide) (fun c7 => ?_) (fun c7 => ?_)
      · have hv := hv.1 c7
        refine lv_iconst (v := 1) hx hb dX9_pay_57 (by decide) ?_
        rw [hZ]; rw [hQ] at hv
        exact W.iret (v := 1) hx hb hr (fun t ht hW => ⟨⟨1, σ5, rfl, hv, ⟨P_of ht hP, hD⟩⟩, hS.F ht⟩) hS.2.2 dX9_pay_58
      · have hv := hv.2 c7
        refine lv_iconst (v := 0) hx hb dX9_pay_53 (by decide) ?_
        refine lv_goto (tgt := 58) hx hb dX9_pay_54 (by decide) ?_
        rw [hZ]; rw [hQ] at hv
        exact W.iret (v := 0) hx hb hr (fun t ht hW => ⟨⟨0, σ5, rfl, hv, ⟨P_of ht hP, hD⟩⟩, hS.F ht⟩) hS.2.2 dX9_pay_58
    refine lv_if_eq (tgt := 35) hx hb dX9_pay_21 (by decide) (fun c4 => ?_) (fun c4 => ?_)
    · have hv := hv.1 c4
      refine lv_aload_n hx hb dX9_pay_35 rfl (lv_at hl 1 rfl) ?_
      refine va_get (ci := 9) (v := .int (rdI σ0 2)) (C := RX9) (T := TX9) (N := 38) hx hb hts hinX9 hown hK hP 0 (wR_0 cy ad σ0) rfl 5 (by decide) (hts (.fieldLink RX9 158 "TaleBansModel" "paidNow" "I") (List.mem_of_getElem? (i := 1) rfl)) (fun x h => h) rfl dX9_pay_36 ?_
      refine lv_iconst (v := 1) hx hb dX9_pay_39 (by decide) ?_
      refine lv_iload_n hx hb dX9_pay_40 rfl (lv_at hl 2 rfl) ?_
      refine lv_ishl hx hb dX9_pay_41 ?_
      refine lv_iconst (v := (-1)) hx hb dX9_pay_42 (by decide) ?_
      refine lv_ixor hx hb dX9_pay_43 ?_
      refine lv_iand hx hb dX9_pay_44 ?_
      exact jn2 ((rdI σ0 2) &&& ((1 <<< (p_ &&& 31)) ^^^ (-1))) _ _ _ hv hP hS hl
    · have hv := hv.2 c4
      refine lv_aload_n hx hb dX9_pay_24 rfl (lv_at hl 1 rfl) ?_
      refine va_get (ci := 9) (v := .int (rdI σ0 2)) (C := RX9) (T := TX9) (N := 38) hx hb hts hinX9 hown hK hP 0 (wR_0 cy ad σ0) rfl 5 (by decide) (hts (.fieldLink RX9 158 "TaleBansModel" "paidNow" "I") (List.mem_of_getElem? (i := 1) rfl)) (fun x h => h) rfl dX9_pay_25 ?_
      refine lv_iconst (v := 1) hx hb dX9_pay_28 (by decide) ?_
      refine lv_iload_n hx hb dX9_pay_29 rfl (lv_at hl 2 rfl) ?_
      refine lv_ishl hx hb dX9_pay_30 ?_
      refine lv_ior hx hb dX9_pay_31 ?_
      refine lv_goto (tgt := 45) hx hb dX9_pay_32 (by decide) ?_
      exact jn2 ((rdI σ0 2) ||| (1 <<< (p_ &&& 31))) _ _ _ hv hP hS hl
  · have hv := hv.2 c8
    refine lv_iconst (v := (-1)) hx hb dX9_pay_8 (by decide) ?_
    rw [hZ]; rw [hQ] at hv
    exact W.iret (v := (-1)) hx hb hr (fun t ht hW => ⟨⟨(-1), σ0, rfl, hv, ⟨P_of ht hP, hD⟩⟩, hS.F ht⟩) hS.2.2 dX9_pay_9
set_option maxHeartbeats 4000000 in
set_option maxRecDepth 100000 in
theorem wk_X9_parody (l : Launch) (h_X9_noTale : Ct_X9_noTale l) (sp : Sp_X9_parody) : Ct_X9_parody l := by
  intro D cy ad A t_ is_ ag σ0  hpre
  refine Met.ofW (cc := cX9_parody) (maxL := 4) (ret := (some .int)) (by decide) rfl ?_
  intro p e s m args below meth c s₁ B hml hv0
  obtain ⟨rfl, hP, hK, hD, hN⟩ := hv0
  have hx := B.exec
  have hb := B.bytes
  have hr := B.returns
  have hts := atoms_spec (ws := wsX9_parody) B.pre
  have hown : s.vm.findClass RX9 = some m.cls := findClass_of_methodNamed B.named
  have hlocks := B.notSynchronized
  have hv := sp t_ is_ ag σ0 hpre
  have hl := lv_entry ([.ref (ad 0), .int t_, .int is_]) (n := 4) (Nat.le_of_ble_eq_true rfl)
  rw [lg_entry_eq]
  generalize (lg_sl ([.ref (ad 0), .int t_, .int is_]) ++ List.replicate (4 - (lg_sl ([.ref (ad 0), .int t_, .int is_])).length) Slot.unset).toArray = ls at hl ⊢
  have hl : lv_has ls 4 [(0, .ref (ad 0)), (1, .int t_), (2, .int is_)] := hl
  refine W_gen (fun R Z H locs hR hZ hH hlo => ?_)
  have hRf : R.frames = 2 := by rw [hR]; rfl
  have hRl : R.locals = 46 := by rw [hR]; rfl
  have hRc : R.cells = 0 := by rw [hR]; rfl
  have hRs : R.slots = 0 := by rw [hR]; rfl
  have hS : va_S A s.heap H locs := by rw [hH, hlo]; exact va_S.rf
  rw [← hH] at hP
  obtain ⟨Q, hQ⟩ : ∃ q : Int32 → S_ → Prop, q = (post_X9_parody t_ is_ ag σ0) := ⟨_, rfl⟩
  rw [← hQ] at hv
  have hinX9 : ∀ w ∈ wsX90, w ∈ wsX9_parody := by decide +kernel
  refine lv_aload_n hx hb dX9_parody_0 rfl (lv_at hl 0 rfl) ?_
  refine lv_iload_n hx hb dX9_parody_1 rfl (lv_at hl 1 rfl) ?_
  have hp := True.intro
  refine k_read_i (w := wR cy ad) (va_runV (As := [.int t_]) (rest := []) ⟨hx, hb, hml, hown, hts⟩ (h_X9_noTale D cy ad A t_ σ0 hp) (cwV 1 hts gX9_parody_X9_noTale rfl rfl rfl (by decide +kernel) ⟨le_R hRf (Nat.le_of_ble_eq_true rfl), le_R hRl (Nat.le_of_ble_eq_true rfl)⟩) ⟨(fun a U g mk q => ⟨q.1, q.2.blind⟩), va_recv hK hP (ci := 9) (q0 := 0) rfl (wR_0 cy ad σ0), (fun U hU hW => ⟨rfl, WdR.pre hP hK hD hN hU hW⟩)⟩ rfl rfl hl.1 rfl (lv_room (Nat.le_of_ble_eq_true rfl)) dX9_parody_2 ⟨le_R hRc (Nat.le_refl 0), le_R hRs (Nat.le_refl 0)⟩) hS (fun r H locs hr1 hP hS => ?_)
  subst hr1
  refine lv_if_eq (tgt := 10) hx hb dX9_parody_5 (by decide) (fun c4 => ?_) (fun c4 => ?_)
  · have hv := hv.1 c4
    refine lv_aload_n hx hb dX9_parody_10 rfl (lv_at hl 0 rfl) ?_
    refine va_get (ci := 9) (v := .ref (ad (10))) (C := RX9) (T := TX9) (N := 38) hx hb hts hinX9 hown hK hP 0 (wR_0 cy ad σ0) rfl 16 (by decide) (hts (.fieldLink RX9 37 "TaleBansModel" "isParody" "[Z") (List.mem_of_getElem? (i := 1) rfl)) (fun x h => h) rfl dX9_parody_11 ?_
    refine lv_iload_n hx hb dX9_parody_14 rfl (lv_at hl 1 rfl) ?_
    obtain ⟨hi, hv⟩ := hv
    refine va_zald hx hb hK hP 10 1 (wR_10 cy ad σ0) rfl hi dX9_parody_15 ?_
    refine lv_istore_n (lv' := [(3, .int (rdA σ0 10 (Int32.toNatClampNeg t_))), (0, .ref (ad 0)), (1, .int t_), (2, .int is_)]) hx hb dX9_parody_16 rfl hl (by decide) rfl (fun ls hl => ?_)
    refine lv_aload_n hx hb dX9_parody_17 rfl (lv_at hl 1 rfl) ?_
    refine va_get (ci := 9) (v := .ref (ad (10))) (C := RX9) (T := TX9) (N := 38) hx hb hts hinX9 hown hK hP 0 (wR_0 cy ad σ0) rfl 16 (by decide) (hts (.fieldLink RX9 37 "TaleBansModel" "isParody" "[Z") (List.mem_of_getElem? (i := 1) rfl)) (fun x h => h) rfl dX9_parody_18 ?_
    refine lv_iload_n hx hb dX9_parody_21 rfl (lv_at hl 2 rfl) ?_
    refine lv_iload_n hx hb dX9_parody_22 rfl (lv_at hl 3 rfl) ?_
    obtain ⟨hi, hv⟩ := hv
    refine va_zast hx hb hK hP hD hS 10 1 (wR_10 cy ad σ0) rfl hi dX9_parody_23 (fun H locs hP hD hS => ?_)
    obtain ⟨σ1, e2⟩ : ∃ y : S_, y = wr2 σ0 10 (Int32.toNatClampNeg t_) (vp_nar .boolean is_) := ⟨_, rfl⟩
    have hP : va_P D vwCl (wR cy ad σ1) H := by rw [e2]; exact hP
    have hD : va_D A (wR cy ad σ1) := by rw [e2]; exact hD
    have hv := hv σ1 e2
    refine lv_iload_n hx hb dX9_parody_24 rfl (lv_at hl 0 rfl) ?_
    refine lv_iload_n hx hb dX9_parody_25 rfl (lv_at hl 3 rfl) ?_
    refine lv_icmp_ne (tgt := 33) hx hb dX9_parody_26 (by decide) (fun c3 => ?_) (fun c3 => ?_)
    · have hv := hv.1 c3
      refine lv_iconst (v := 1) hx hb dX9_parody_33 (by decide) ?_
      rw [hZ]; rw [hQ] at hv
      exact W.iret (v := 1) hx hb hr (fun t ht hW => ⟨⟨1, σ1, rfl, hv, ⟨P_of ht hP, hD⟩⟩, hS.F ht⟩) hS.2.2 dX9_parody_34
    · have hv := hv.2 c3
      refine lv_iconst (v := 0) hx hb dX9_parody_29 (by decide) ?_
      refine lv_goto (tgt := 34) hx hb dX9_parody_30 (by decide) ?_
      rw [hZ]; rw [hQ] at hv
      exact W.iret (v := 0) hx hb hr (fun t ht hW => ⟨⟨0, σ1, rfl, hv, ⟨P_of ht hP, hD⟩⟩, hS.F ht⟩) hS.2.2 dX9_parody_34
  · have hv := hv.2 c4
    refine lv_iconst (v := (-1)) hx hb dX9_parody_8 (by decide) ?_
    rw [hZ]; rw [hQ] at hv
    exact W.iret (v := (-1)) hx hb hr (fun t ht hW => ⟨⟨(-1), σ0, rfl, hv, ⟨P_of ht hP, hD⟩⟩, hS.F ht⟩) hS.2.2 dX9_parody_9
set_option maxHeartbeats 4000000 in
set_option maxRecDepth 100000 in
theorem wk_X9_remembers (l : Launch) (h_X9_doesRemember : Ct_X9_doesRemember l) (h_X9_goTo : Ct_X9_goTo l) (h_X9_isSeason : Ct_X9_isSeason l) (h_X9_noPerson : Ct_X9_noPerson l) (sp : Sp_X9_remembers) : Ct_X9_remembers l := by
  intro D cy ad A p_ season_ ag σ0  hpre
  refine Met.ofW (cc := cX9_remembers) (maxL := 5) (ret := (some .int)) (by decide) rfl ?_
  intro p e s m args below meth c s₁ B hml hv0
  obtain ⟨rfl, hP, hK, hD, hN⟩ := hv0
  have hx := B.exec
  have hb := B.bytes
  have hr := B.returns
  have hts := atoms_spec (ws := wsX9_remembers) B.pre
  have hown : s.vm.findClass RX9 = some m.cls := findClass_of_methodNamed B.named
  have hlocks := B.notSynchronized
  have hv := sp p_ season_ ag σ0 hpre
  have hl := lv_entry ([.ref (ad 0), .int p_, .int season_]) (n := 5) (Nat.le_of_ble_eq_true rfl)
  rw [lg_entry_eq]
  generalize (lg_sl ([.ref (ad 0), .int p_, .int season_]) ++ List.replicate (5 - (lg_sl ([.ref (ad 0), .int p_, .int season_])).length) Slot.unset).toArray = ls at hl ⊢
  have hl : lv_has ls 5 [(0, .ref (ad 0)), (1, .int p_), (2, .int season_)] := hl
  refine W_gen (fun R Z H locs hR hZ hH hlo => ?_)
  have hRf : R.frames = 6 := by rw [hR]; rfl
  have hRl : R.locals = 139 := by rw [hR]; rfl
  have hRc : R.cells = 0 := by rw [hR]; rfl
  have hRs : R.slots = 0 := by rw [hR]; rfl
  have hS : va_S A s.heap H locs := by rw [hH, hlo]; exact va_S.rf
  rw [← hH] at hP
  obtain ⟨Q, hQ⟩ : ∃ q : Int32 → S_ → Prop, q = (post_X9_remembers p_ season_ ag σ0) := ⟨_, rfl⟩
  rw [← hQ] at hv
  have hinX9 : ∀ w ∈ wsX90, w ∈ wsX9_remembers := by decide +kernel
  refine lv_aload_n hx hb dX9_remembers_0 rfl (lv_at hl 0 rfl) ?_
  refine lv_iload_n hx hb dX9_remembers_1 rfl (lv_at hl 1 rfl) ?_
  have hp := True.intro
  refine k_read_i (w := wR cy ad) (va_runV (As := [.int p_]) (rest := []) ⟨hx, hb, hml, hown, hts⟩ (h_X9_noPerson D cy ad A p_ σ0 hp) (cwV 1 hts gX9_remembers_X9_noPerson rfl rfl rfl (by decide +kernel) ⟨le_R hRf (Nat.le_of_ble_eq_true rfl), le_R hRl (Nat.le_of_ble_eq_true rfl)⟩) ⟨(fun a U g mk q => ⟨q.1, q.2.blind⟩), va_recv hK hP (ci := 9) (q0 := 0) rfl (wR_0 cy ad σ0), (fun U hU hW => ⟨rfl, WdR.pre hP hK hD hN hU hW⟩)⟩ rfl rfl hl.1 rfl (lv_room (Nat.le_of_ble_eq_true rfl)) dX9_remembers_2 ⟨le_R hRc (Nat.le_refl 0), le_R hRs (Nat.le_refl 0)⟩) hS (fun r H locs hr1 hP hS => ?_)
  subst hr1
  refine lv_if_eq (tgt := 10) hx hb dX9_remembers_5 (by decide) (fun c18 => ?_) (fun c18 => ?_)
  · have hv := hv.1 c18
    refine lv_iload_n hx hb dX9_remembers_10 rfl (lv_at hl 2 rfl) ?_
    refine k_pure_i (va_runS (As := [.int season_]) (rest := []) ⟨hx, hb, hml, hown, hts⟩ (h_X9_isSeason season_) (va_cwS 1 hts gX9_remembers_X9_isSeason rfl rfl rfl (by decide +kernel) ⟨le_R hRf (Nat.le_of_ble_eq_true rfl), le_R hRl (Nat.le_of_ble_eq_true rfl)⟩) ⟨(fun a U g mk q => ⟨q.1, trivial⟩), (fun U hU hW => ⟨rfl, trivial⟩)⟩ rfl rfl hl.1 rfl (lv_room (Nat.le_of_ble_eq_true rfl)) dX9_remembers_11 ⟨le_R hRc (Nat.le_refl 0), le_R hRs (Nat.le_refl 0)⟩) hS hP (fun r H locs hr1 hP hS => ?_)
    subst hr1
    refine lv_if_ne (tgt := 20) hx hb dX9_remembers_14 (by decide) (fun c17 => ?_) (fun c17 => ?_)
    · have hv := hv.1 c17
      refine lv_aload_n hx hb dX9_remembers_20 rfl (lv_at hl 0 rfl) ?_
      refine lv_iload_n hx hb dX9_remembers_21 rfl (lv_at hl 2 rfl) ?_
      obtain ⟨g1, g2, hv⟩ := hv
      obtain ⟨hp, hv⟩ := hv
      refine k_rel_v (w := wR cy ad) (va_runV (As := [.int season_]) (rest := []) ⟨hx, hb, hml, hown, hts⟩ (h_X9_goTo D cy ad A season_ g1 g2 σ0 hp) (cwV 1 hts gX9_remembers_X9_goTo rfl rfl rfl (by decide +kernel) ⟨le_R hRf (Nat.le_of_ble_eq_true rfl), le_R hRl (Nat.le_of_ble_eq_true rfl)⟩) ⟨(fun a U g mk q => ⟨q.1, q.2.blind⟩), va_recv hK hP (ci := 9) (q0 := 0) rfl (wR_0 cy ad σ0), (fun U hU hW => ⟨rfl, WdR.pre hP hK hD hN hU hW⟩)⟩ rfl rfl hl.1 rfl (lv_room (Nat.le_of_ble_eq_true rfl)) dX9_remembers_22 ⟨le_R hRc (Nat.le_refl 0), le_R hRs (Nat.le_refl 0)⟩) hS (fun σ3 H locs hr1 hP hD hS => ?_)
      have hv := hv σ3 hr1
      refine lv_iconst (v := 0) hx hb dX9_remembers_25 (by decide) ?_
      refine lv_istore_n (lv' := [(3, .int 0), (0, .ref (ad 0)), (1, .int p_), (2, .int season_)]) hx hb dX9_remembers_26 rfl hl (by decide) rfl (fun ls hl => ?_)
      refine lv_iconst (v := 0) hx hb dX9_remembers_27 (by decide) ?_
      refine lv_istore (lv' := [(4, .int 0), (3, .int 0), (0, .ref (ad 0)), (1, .int p_), (2, .int season_)]) hx hb dX9_remembers_28 hl (by decide) rfl (fun ls hl => ?_)
      obtain ⟨n30, hv⟩ := hv
      have lp30 : ∀ (nn30 : Nat) (x4 : Int32) (x5 : Int32) (H : Heap) (locs : List Loc) (ls : Array Slot), vl_X9_remembers_30 p_ season_ σ3 Q nn30 x4 x5 → va_P D vwCl (wR cy ad σ3) H → va_D A (wR cy ad σ3) → va_S A s.heap H locs → lv_has ls 5 [(0, .ref (ad 0)), (1, .int p_), (2, .int season_), (3, .int x4), (4, .int x5)] → W p l e R s m ([.ref (ad 0), .int p_, .int season_] : List Value).toArray  below meth c H locs 0 0 Z (F0 m 30 ls []) := by
        intro nn30
        induction nn30 with
        | zero => intro x4 x5 H locs ls hv; exact absurd hv id
        | succ mm30 ih30 =>
          intro x4 x5 H locs ls hv hP hD hS hl
          refine lv_iload hx hb dX9_remembers_30 (lv_at hl 4 rfl) ?_
          refine lv_aload_n hx hb dX9_remembers_32 rfl (lv_at hl 0 rfl) ?_
          refine va_get (ci := 9) (v := .int (rdI σ3 6)) (C := RX9) (T := TX9) (N := 38) hx hb hts hinX9 hown hK hP 0 (wR_0 cy ad σ3) rfl 12 (by decide) (hts (.fieldLink RX9 109 "TaleBansModel" "tales" "I") (List.mem_of_getElem? (i := 1) rfl)) (fun x h => h) rfl dX9_remembers_33 ?_
          refine lv_icmp_ge (tgt := 67) hx hb dX9_remembers_36 (by decide) (fun c16 => ?_) (fun c16 => ?_)
          · have hv := hv.1 c16
            refine lv_iload_n hx hb dX9_remembers_67 rfl (lv_at hl 3 rfl) ?_
            rw [hZ]; rw [hQ] at hv
            exact W.iret (v := x4) hx hb hr (fun t ht hW => ⟨⟨x4, σ3, rfl, hv, ⟨P_of ht hP, hD⟩⟩, hS.F ht⟩) hS.2.2 dX9_remembers_68
          · have hv := hv.2 c16
            refine lv_iload_n hx hb dX9_remembers_39 rfl (lv_at hl 3 rfl) ?_
            refine lv_aload_n hx hb dX9_remembers_40 rfl (lv_at hl 0 rfl) ?_
            refine lv_iload_n hx hb dX9_remembers_41 rfl (lv_at hl 1 rfl) ?_
            refine lv_iload hx hb dX9_remembers_42 (lv_at hl 4 rfl) ?_
            refine lv_iload_n hx hb dX9_remembers_44 rfl (lv_at hl 2 rfl) ?_
            obtain ⟨g6, g7, g8, g9, g10, hv⟩ := hv
            obtain ⟨hp, hv⟩ := hv
            refine k_read_i (w := wR cy ad) (va_runV (As := [.int p_, .int x5, .int season_]) (rest := [.int x4]) ⟨hx, hb, hml, hown, hts⟩ (h_X9_doesRemember D cy ad A p_ x5 season_ g6 g7 g8 g9 g10 σ3 hp) (cwV 3 hts gX9_remembers_X9_doesRemember rfl rfl rfl (by decide +kernel) ⟨le_R hRf (Nat.le_of_ble_eq_true rfl), le_R hRl (Nat.le_of_ble_eq_true rfl)⟩) ⟨(fun a U g mk q => ⟨q.1, q.2.blind⟩), va_recv hK hP (ci := 9) (q0 := 0) rfl (wR_0 cy ad σ3), (fun U hU hW => ⟨rfl, WdR.pre hP hK hD hN hU hW⟩)⟩ rfl rfl hl.1 rfl (lv_room (Nat.le_of_ble_eq_true rfl)) dX9_remembers_45 ⟨le_R hRc (Nat.le_refl 0), le_R hRs (Nat.le_refl 0)⟩) hS (fun r11 H locs hr1 hP hS => ?_)
            have hv := hv r11 hr1
            obtain ⟨P12, hv, hvr⟩ := hv
            have jn13 : ∀ (b14 : Int32) (H : Heap) (locs : List Loc) (ls : Array Slot), P12 b14 → va_P D vwCl (wR cy ad σ3) H → va_S A s.heap H locs → lv_has ls 5 [(0, .ref (ad 0)), (1, .int p_), (2, .int season_), (3, .int x4), (4, .int x5)] → W p l e R s m ([.ref (ad 0), .int p_, .int season_] : List Value).toArray below meth c H locs 0 0 Z (F0 m 59 ls [.int b14, .int x4]) := by
              intro b14 H locs ls hv hP hS hl
              have hv := hvr b14 hv
              refine lv_ior hx hb dX9_remembers_59 ?_
              refine lv_istore_n (lv' := [(3, .int (x4 ||| b14)), (0, .ref (ad 0)), (1, .int p_), (2, .int season_), (4, .int x5)]) hx hb dX9_remembers_60 rfl hl (by decide) rfl (fun ls hl => ?_)
              refine lv_iinc (v := (x5 + 1)) (lv' := [(4, .int (x5 + 1)), (3, .int (x4 ||| b14)), (0, .ref (ad 0)), (1, .int p_), (2, .int season_)]) hx hb dX9_remembers_61 hl (k := 4) rfl rfl (by decide) rfl (fun ls hl => ?_)
              refine lv_goto (tgt := 30) hx hb dX9_remembers_64 (by decide) ?_
              exact ih30 (x4 ||| b14) (x5 + 1) _ _ _ hv hP hD hS (lv_sub hl [2, 3, 4, 1, 0] rfl)
            refine lv_if_eq (tgt := 58) hx hb dX9_remembers_48 (by decide) (fun c15 => ?_) (fun c15 => ?_)
            · have hv := hv.1 c15
              refine lv_iconst (v := 0) hx hb dX9_remembers_58 (by decide) ?_
              exact jn13 0 _ _ _ hv hP hS hl
            · have hv := hv.2 c15
              refine lv_iconst (v := 1) hx hb dX9_remembers_51 (by decide) ?_
              refine lv_iload hx hb dX9_remembers_52 (lv_at hl 4 rfl) ?_
              refine lv_ishl hx hb dX9_remembers_54 ?_
              refine lv_goto (tgt := 59) hx hb dX9_remembers_55 (by decide) ?_
              exact jn13 (1 <<< (x5 &&& 31)) _ _ _ hv hP hS hl
      exact lp30 n30 0 0 _ _ _ hv hP hD hS (lv_sub hl [2, 3, 4, 1, 0] rfl)
    · have hv := hv.2 c17
      refine lv_bipush (v := (-2)) hx hb dX9_remembers_17 (by decide) ?_
      rw [hZ]; rw [hQ] at hv
      exact W.iret (v := (-2)) hx hb hr (fun t ht hW => ⟨⟨(-2), σ0, rfl, hv, ⟨P_of ht hP, hD⟩⟩, hS.F ht⟩) hS.2.2 dX9_remembers_19
  · have hv := hv.2 c18
    refine lv_iconst (v := (-1)) hx hb dX9_remembers_8 (by decide) ?_
    rw [hZ]; rw [hQ] at hv
    exact W.iret (v := (-1)) hx hb hr (fun t ht hW => ⟨⟨(-1), σ0, rfl, hv, ⟨P_of ht hP, hD⟩⟩, hS.F ht⟩) hS.2.2 dX9_remembers_9
set_option maxHeartbeats 4000000 in
set_option maxRecDepth 100000 in
theorem wk_X9_hearth (l : Launch) (h_X9_goTo : Ct_X9_goTo l) (h_X9_isSeason : Ct_X9_isSeason l) (h_X9_noPerson : Ct_X9_noPerson l) (sp : Sp_X9_hearth) : Ct_X9_hearth l := by
  intro D cy ad A p_ season_ ag σ0  hpre
  refine Met.ofW (cc := cX9_hearth) (maxL := 3) (ret := (some .int)) (by decide) rfl ?_
  intro p e s m args below meth c s₁ B hml hv0
  obtain ⟨rfl, hP, hK, hD, hN⟩ := hv0
  have hx := B.exec
  have hb := B.bytes
  have hr := B.returns
  have hts := atoms_spec (ws := wsX9_hearth) B.pre
  have hown : s.vm.findClass RX9 = some m.cls := findClass_of_methodNamed B.named
  have hlocks := B.notSynchronized
  have hv := sp p_ season_ ag σ0 hpre
  have hl := lv_entry ([.ref (ad 0), .int p_, .int season_]) (n := 3) (Nat.le_of_ble_eq_true rfl)
  rw [lg_entry_eq]
  generalize (lg_sl ([.ref (ad 0), .int p_, .int season_]) ++ List.replicate (3 - (lg_sl ([.ref (ad 0), .int p_, .int season_])).length) Slot.unset).toArray = ls at hl ⊢
  have hl : lv_has ls 3 [(0, .ref (ad 0)), (1, .int p_), (2, .int season_)] := hl
  refine W_gen (fun R Z H locs hR hZ hH hlo => ?_)
  have hRf : R.frames = 6 := by rw [hR]; rfl
  have hRl : R.locals = 139 := by rw [hR]; rfl
  have hRc : R.cells = 0 := by rw [hR]; rfl
  have hRs : R.slots = 0 := by rw [hR]; rfl
  have hS : va_S A s.heap H locs := by rw [hH, hlo]; exact va_S.rf
  rw [← hH] at hP
  obtain ⟨Q, hQ⟩ : ∃ q : Int32 → S_ → Prop, q = (post_X9_hearth p_ season_ ag σ0) := ⟨_, rfl⟩
  rw [← hQ] at hv
  have hinX9 : ∀ w ∈ wsX90, w ∈ wsX9_hearth := by decide +kernel
  refine lv_aload_n hx hb dX9_hearth_0 rfl (lv_at hl 0 rfl) ?_
  refine lv_iload_n hx hb dX9_hearth_1 rfl (lv_at hl 1 rfl) ?_
  have hp := True.intro
  refine k_read_i (w := wR cy ad) (va_runV (As := [.int p_]) (rest := []) ⟨hx, hb, hml, hown, hts⟩ (h_X9_noPerson D cy ad A p_ σ0 hp) (cwV 1 hts gX9_hearth_X9_noPerson rfl rfl rfl (by decide +kernel) ⟨le_R hRf (Nat.le_of_ble_eq_true rfl), le_R hRl (Nat.le_of_ble_eq_true rfl)⟩) ⟨(fun a U g mk q => ⟨q.1, q.2.blind⟩), va_recv hK hP (ci := 9) (q0 := 0) rfl (wR_0 cy ad σ0), (fun U hU hW => ⟨rfl, WdR.pre hP hK hD hN hU hW⟩)⟩ rfl rfl hl.1 rfl (lv_room (Nat.le_of_ble_eq_true rfl)) dX9_hearth_2 ⟨le_R hRc (Nat.le_refl 0), le_R hRs (Nat.le_refl 0)⟩) hS (fun r H locs hr1 hP hS => ?_)
  subst hr1
  refine lv_if_eq (tgt := 10) hx hb dX9_hearth_5 (by decide) (fun c5 => ?_) (fun c5 => ?_)
  · have hv := hv.1 c5
    refine lv_iload_n hx hb dX9_hearth_10 rfl (lv_at hl 2 rfl) ?_
    refine k_pure_i (va_runS (As := [.int season_]) (rest := []) ⟨hx, hb, hml, hown, hts⟩ (h_X9_isSeason season_) (va_cwS 1 hts gX9_hearth_X9_isSeason rfl rfl rfl (by decide +kernel) ⟨le_R hRf (Nat.le_of_ble_eq_true rfl), le_R hRl (Nat.le_of_ble_eq_true rfl)⟩) ⟨(fun a U g mk q => ⟨q.1, trivial⟩), (fun U hU hW => ⟨rfl, trivial⟩)⟩ rfl rfl hl.1 rfl (lv_room (Nat.le_of_ble_eq_true rfl)) dX9_hearth_11 ⟨le_R hRc (Nat.le_refl 0), le_R hRs (Nat.le_refl 0)⟩) hS hP (fun r H locs hr1 hP hS => ?_)
    subst hr1
    refine lv_if_ne (tgt := 20) hx hb dX9_hearth_14 (by decide) (fun c4 => ?_) (fun c4 => ?_)
    · have hv := hv.1 c4
      refine lv_aload_n hx hb dX9_hearth_20 rfl (lv_at hl 0 rfl) ?_
      refine lv_iload_n hx hb dX9_hearth_21 rfl (lv_at hl 2 rfl) ?_
      obtain ⟨g1, g2, hv⟩ := hv
      obtain ⟨hp, hv⟩ := hv
      refine k_rel_v (w := wR cy ad) (va_runV (As := [.int season_]) (rest := []) ⟨hx, hb, hml, hown, hts⟩ (h_X9_goTo D cy ad A season_ g1 g2 σ0 hp) (cwV 1 hts gX9_hearth_X9_goTo rfl rfl rfl (by decide +kernel) ⟨le_R hRf (Nat.le_of_ble_eq_true rfl), le_R hRl (Nat.le_of_ble_eq_true rfl)⟩) ⟨(fun a U g mk q => ⟨q.1, q.2.blind⟩), va_recv hK hP (ci := 9) (q0 := 0) rfl (wR_0 cy ad σ0), (fun U hU hW => ⟨rfl, WdR.pre hP hK hD hN hU hW⟩)⟩ rfl rfl hl.1 rfl (lv_room (Nat.le_of_ble_eq_true rfl)) dX9_hearth_22 ⟨le_R hRc (Nat.le_refl 0), le_R hRs (Nat.le_refl 0)⟩) hS (fun σ3 H locs hr1 hP hD hS => ?_)
      have hv := hv σ3 hr1
      refine lv_aload_n hx hb dX9_hearth_25 rfl (lv_at hl 0 rfl) ?_
      refine va_get (ci := 9) (v := .ref (ad (14))) (C := RX9) (T := TX9) (N := 38) hx hb hts hinX9 hown hK hP 0 (wR_0 cy ad σ3) rfl 21 (by decide) (hts (.fieldLink RX9 50 "TaleBansModel" "isAt" "[I") (List.mem_of_getElem? (i := 1) rfl)) (fun x h => h) rfl dX9_hearth_26 ?_
      refine lv_iload_n hx hb dX9_hearth_29 rfl (lv_at hl 1 rfl) ?_
      obtain ⟨hi, hv⟩ := hv
      refine va_iald hx hb hK hP 14 0 (wR_14 cy ad σ3) rfl hi dX9_hearth_30 ?_
      rw [hZ]; rw [hQ] at hv
      exact W.iret (v := (rdA σ3 14 (Int32.toNatClampNeg p_))) hx hb hr (fun t ht hW => ⟨⟨(rdA σ3 14 (Int32.toNatClampNeg p_)), σ3, rfl, hv, ⟨P_of ht hP, hD⟩⟩, hS.F ht⟩) hS.2.2 dX9_hearth_31
    · have hv := hv.2 c4
      refine lv_bipush (v := (-2)) hx hb dX9_hearth_17 (by decide) ?_
      rw [hZ]; rw [hQ] at hv
      exact W.iret (v := (-2)) hx hb hr (fun t ht hW => ⟨⟨(-2), σ0, rfl, hv, ⟨P_of ht hP, hD⟩⟩, hS.F ht⟩) hS.2.2 dX9_hearth_19
  · have hv := hv.2 c5
    refine lv_iconst (v := (-1)) hx hb dX9_hearth_8 (by decide) ?_
    rw [hZ]; rw [hQ] at hv
    exact W.iret (v := (-1)) hx hb hr (fun t ht hW => ⟨⟨(-1), σ0, rfl, hv, ⟨P_of ht hP, hD⟩⟩, hS.F ht⟩) hS.2.2 dX9_hearth_9
set_option maxHeartbeats 4000000 in
set_option maxRecDepth 100000 in
theorem wk_X9_told (l : Launch) (h_X9_goTo : Ct_X9_goTo l) (h_X9_isSeason : Ct_X9_isSeason l) (h_X9_noHearth : Ct_X9_noHearth l) (sp : Sp_X9_told) : Ct_X9_told l := by
  intro D cy ad A h_ season_ ag σ0  hpre
  refine Met.ofW (cc := cX9_told) (maxL := 3) (ret := (some .int)) (by decide) rfl ?_
  intro p e s m args below meth c s₁ B hml hv0
  obtain ⟨rfl, hP, hK, hD, hN⟩ := hv0
  have hx := B.exec
  have hb := B.bytes
  have hr := B.returns
  have hts := atoms_spec (ws := wsX9_told) B.pre
  have hown : s.vm.findClass RX9 = some m.cls := findClass_of_methodNamed B.named
  have hlocks := B.notSynchronized
  have hv := sp h_ season_ ag σ0 hpre
  have hl := lv_entry ([.ref (ad 0), .int h_, .int season_]) (n := 3) (Nat.le_of_ble_eq_true rfl)
  rw [lg_entry_eq]
  generalize (lg_sl ([.ref (ad 0), .int h_, .int season_]) ++ List.replicate (3 - (lg_sl ([.ref (ad 0), .int h_, .int season_])).length) Slot.unset).toArray = ls at hl ⊢
  have hl : lv_has ls 3 [(0, .ref (ad 0)), (1, .int h_), (2, .int season_)] := hl
  refine W_gen (fun R Z H locs hR hZ hH hlo => ?_)
  have hRf : R.frames = 6 := by rw [hR]; rfl
  have hRl : R.locals = 139 := by rw [hR]; rfl
  have hRc : R.cells = 0 := by rw [hR]; rfl
  have hRs : R.slots = 0 := by rw [hR]; rfl
  have hS : va_S A s.heap H locs := by rw [hH, hlo]; exact va_S.rf
  rw [← hH] at hP
  obtain ⟨Q, hQ⟩ : ∃ q : Int32 → S_ → Prop, q = (post_X9_told h_ season_ ag σ0) := ⟨_, rfl⟩
  rw [← hQ] at hv
  have hinX9 : ∀ w ∈ wsX90, w ∈ wsX9_told := by decide +kernel
  refine lv_iload_n hx hb dX9_told_0 rfl (lv_at hl 1 rfl) ?_
  refine k_pure_i (va_runS (As := [.int h_]) (rest := []) ⟨hx, hb, hml, hown, hts⟩ (h_X9_noHearth h_) (va_cwS 1 hts gX9_told_X9_noHearth rfl rfl rfl (by decide +kernel) ⟨le_R hRf (Nat.le_of_ble_eq_true rfl), le_R hRl (Nat.le_of_ble_eq_true rfl)⟩) ⟨(fun a U g mk q => ⟨q.1, trivial⟩), (fun U hU hW => ⟨rfl, trivial⟩)⟩ rfl rfl hl.1 rfl (lv_room (Nat.le_of_ble_eq_true rfl)) dX9_told_1 ⟨le_R hRc (Nat.le_refl 0), le_R hRs (Nat.le_refl 0)⟩) hS hP (fun r H locs hr1 hP hS => ?_)
  subst hr1
  refine lv_if_eq (tgt := 9) hx hb dX9_told_4 (by decide) (fun c6 => ?_) (fun c6 => ?_)
  · have hv := hv.1 c6
    refine lv_iload_n hx hb dX9_told_9 rfl (lv_at hl 2 rfl) ?_
    refine k_pure_i (va_runS (As := [.int season_]) (rest := []) ⟨hx, hb, hml, hown, hts⟩ (h_X9_isSeason season_) (va_cwS 1 hts gX9_told_X9_isSeason rfl rfl rfl (by decide +kernel) ⟨le_R hRf (Nat.le_of_ble_eq_true rfl), le_R hRl (Nat.le_of_ble_eq_true rfl)⟩) ⟨(fun a U g mk q => ⟨q.1, trivial⟩), (fun U hU hW => ⟨rfl, trivial⟩)⟩ rfl rfl hl.1 rfl (lv_room (Nat.le_of_ble_eq_true rfl)) dX9_told_10 ⟨le_R hRc (Nat.le_refl 0), le_R hRs (Nat.le_refl 0)⟩) hS hP (fun r H locs hr1 hP hS => ?_)
    subst hr1
    refine lv_if_ne (tgt := 19) hx hb dX9_told_13 (by decide) (fun c5 => ?_) (fun c5 => ?_)
    · have hv := hv.1 c5
      refine lv_aload_n hx hb dX9_told_19 rfl (lv_at hl 0 rfl) ?_
      refine va_get (ci := 9) (v := .int (rdI σ0 1)) (C := RX9) (T := TX9) (N := 38) hx hb hts hinX9 hown hK hP 0 (wR_0 cy ad σ0) rfl 1 (by decide) (hts (.fieldLink RX9 102 "TaleBansModel" "persons" "I") (List.mem_of_getElem? (i := 1) rfl)) (fun x h => h) rfl dX9_told_20 ?_
      refine lv_if_ne (tgt := 29) hx hb dX9_told_23 (by decide) (fun c4 => ?_) (fun c4 => ?_)
      · have hv := hv.1 c4
        refine lv_aload_n hx hb dX9_told_29 rfl (lv_at hl 0 rfl) ?_
        refine lv_iload_n hx hb dX9_told_30 rfl (lv_at hl 2 rfl) ?_
        obtain ⟨g1, g2, hv⟩ := hv
        obtain ⟨hp, hv⟩ := hv
        refine k_rel_v (w := wR cy ad) (va_runV (As := [.int season_]) (rest := []) ⟨hx, hb, hml, hown, hts⟩ (h_X9_goTo D cy ad A season_ g1 g2 σ0 hp) (cwV 1 hts gX9_told_X9_goTo rfl rfl rfl (by decide +kernel) ⟨le_R hRf (Nat.le_of_ble_eq_true rfl), le_R hRl (Nat.le_of_ble_eq_true rfl)⟩) ⟨(fun a U g mk q => ⟨q.1, q.2.blind⟩), va_recv hK hP (ci := 9) (q0 := 0) rfl (wR_0 cy ad σ0), (fun U hU hW => ⟨rfl, WdR.pre hP hK hD hN hU hW⟩)⟩ rfl rfl hl.1 rfl (lv_room (Nat.le_of_ble_eq_true rfl)) dX9_told_31 ⟨le_R hRc (Nat.le_refl 0), le_R hRs (Nat.le_refl 0)⟩) hS (fun σ3 H locs hr1 hP hD hS => ?_)
        have hv := hv σ3 hr1
        refine lv_aload_n hx hb dX9_told_34 rfl (lv_at hl 0 rfl) ?_
        refine va_get (ci := 9) (v := .ref (ad (17))) (C := RX9) (T := TX9) (N := 38) hx hb hts hinX9 hown hK hP 0 (wR_0 cy ad σ3) rfl 24 (by decide) (hts (.fieldLink RX9 59 "TaleBansModel" "toldNow" "[I") (List.mem_of_getElem? (i := 2) rfl)) (fun x h => h) rfl dX9_told_35 ?_
        refine lv_iload_n hx hb dX9_told_38 rfl (lv_at hl 1 rfl) ?_
        obtain ⟨hi, hv⟩ := hv
        refine va_iald hx hb hK hP 17 0 (wR_17 cy ad σ3) rfl hi dX9_told_39 ?_
        rw [hZ]; rw [hQ] at hv
        exact W.iret (v := (rdA σ3 17 (Int32.toNatClampNeg h_))) hx hb hr (fun t ht hW => ⟨⟨(rdA σ3 17 (Int32.toNatClampNeg h_)), σ3, rfl, hv, ⟨P_of ht hP, hD⟩⟩, hS.F ht⟩) hS.2.2 dX9_told_40
      · have hv := hv.2 c4
        refine lv_bipush (v := (-3)) hx hb dX9_told_26 (by decide) ?_
        rw [hZ]; rw [hQ] at hv
        exact W.iret (v := (-3)) hx hb hr (fun t ht hW => ⟨⟨(-3), σ0, rfl, hv, ⟨P_of ht hP, hD⟩⟩, hS.F ht⟩) hS.2.2 dX9_told_28
    · have hv := hv.2 c5
      refine lv_bipush (v := (-2)) hx hb dX9_told_16 (by decide) ?_
      rw [hZ]; rw [hQ] at hv
      exact W.iret (v := (-2)) hx hb hr (fun t ht hW => ⟨⟨(-2), σ0, rfl, hv, ⟨P_of ht hP, hD⟩⟩, hS.F ht⟩) hS.2.2 dX9_told_18
  · have hv := hv.2 c6
    refine lv_iconst (v := (-1)) hx hb dX9_told_7 (by decide) ?_
    rw [hZ]; rw [hQ] at hv
    exact W.iret (v := (-1)) hx hb hr (fun t ht hW => ⟨⟨(-1), σ0, rfl, hv, ⟨P_of ht hP, hD⟩⟩, hS.F ht⟩) hS.2.2 dX9_told_8
set_option maxHeartbeats 4000000 in
set_option maxRecDepth 100000 in
theorem wk_X9_forbidden (l : Launch) (h_X9_forbiddenIn : Ct_X9_forbiddenIn l) (h_X9_goTo : Ct_X9_goTo l) (h_X9_isSeason : Ct_X9_isSeason l) (sp : Sp_X9_forbidden) : Ct_X9_forbidden l := by
  intro D cy ad A season_ ag σ0  hpre
  refine Met.ofW (cc := cX9_forbidden) (maxL := 2) (ret := (some .int)) (by decide) rfl ?_
  intro p e s m args below meth c s₁ B hml hv0
  obtain ⟨rfl, hP, hK, hD, hN⟩ := hv0
  have hx := B.exec
  have hb := B.bytes
  have hr := B.returns
  have hts := atoms_spec (ws := wsX9_forbidden) B.pre
  have hown : s.vm.findClass RX9 = some m.cls := findClass_of_methodNamed B.named
  have hlocks := B.notSynchronized
  have hv := sp season_ ag σ0 hpre
  have hl := lv_entry ([.ref (ad 0), .int season_]) (n := 2) (Nat.le_of_ble_eq_true rfl)
  rw [lg_entry_eq]
  generalize (lg_sl ([.ref (ad 0), .int season_]) ++ List.replicate (2 - (lg_sl ([.ref (ad 0), .int season_])).length) Slot.unset).toArray = ls at hl ⊢
  have hl : lv_has ls 2 [(0, .ref (ad 0)), (1, .int season_)] := hl
  refine W_gen (fun R Z H locs hR hZ hH hlo => ?_)
  have hRf : R.frames = 6 := by rw [hR]; rfl
  have hRl : R.locals = 139 := by rw [hR]; rfl
  have hRc : R.cells = 0 := by rw [hR]; rfl
  have hRs : R.slots = 0 := by rw [hR]; rfl
  have hS : va_S A s.heap H locs := by rw [hH, hlo]; exact va_S.rf
  rw [← hH] at hP
  obtain ⟨Q, hQ⟩ : ∃ q : Int32 → S_ → Prop, q = (post_X9_forbidden season_ ag σ0) := ⟨_, rfl⟩
  rw [← hQ] at hv
  have hinX9 : ∀ w ∈ wsX90, w ∈ wsX9_forbidden := by decide +kernel
  refine lv_iload_n hx hb dX9_forbidden_0 rfl (lv_at hl 1 rfl) ?_
  refine k_pure_i (va_runS (As := [.int season_]) (rest := []) ⟨hx, hb, hml, hown, hts⟩ (h_X9_isSeason season_) (va_cwS 1 hts gX9_forbidden_X9_isSeason rfl rfl rfl (by decide +kernel) ⟨le_R hRf (Nat.le_of_ble_eq_true rfl), le_R hRl (Nat.le_of_ble_eq_true rfl)⟩) ⟨(fun a U g mk q => ⟨q.1, trivial⟩), (fun U hU hW => ⟨rfl, trivial⟩)⟩ rfl rfl hl.1 rfl (lv_room (Nat.le_of_ble_eq_true rfl)) dX9_forbidden_1 ⟨le_R hRc (Nat.le_refl 0), le_R hRs (Nat.le_refl 0)⟩) hS hP (fun r H locs hr1 hP hS => ?_)
  subst hr1
  refine lv_if_ne (tgt := 10) hx hb dX9_forbidden_4 (by decide) (fun c9 => ?_) (fun c9 => ?_)
  · have hv := hv.1 c9
    refine lv_aload_n hx hb dX9_forbidden_10 rfl (lv_at hl 0 rfl) ?_
    refine va_get (ci := 9) (v := .int (rdI σ0 1)) (C := RX9) (T := TX9) (N := 38) hx hb hts hinX9 hown hK hP 0 (wR_0 cy ad σ0) rfl 1 (by decide) (hts (.fieldLink RX9 102 "TaleBansModel" "persons" "I") (List.mem_of_getElem? (i := 1) rfl)) (fun x h => h) rfl dX9_forbidden_11 ?_
    refine lv_if_ne (tgt := 20) hx hb dX9_forbidden_14 (by decide) (fun c8 => ?_) (fun c8 => ?_)
    · have hv := hv.1 c8
      refine lv_aload_n hx hb dX9_forbidden_20 rfl (lv_at hl 0 rfl) ?_
      refine lv_iload_n hx hb dX9_forbidden_21 rfl (lv_at hl 1 rfl) ?_
      obtain ⟨g1, g2, hv⟩ := hv
      obtain ⟨hp, hv⟩ := hv
      refine k_rel_v (w := wR cy ad) (va_runV (As := [.int season_]) (rest := []) ⟨hx, hb, hml, hown, hts⟩ (h_X9_goTo D cy ad A season_ g1 g2 σ0 hp) (cwV 1 hts gX9_forbidden_X9_goTo rfl rfl rfl (by decide +kernel) ⟨le_R hRf (Nat.le_of_ble_eq_true rfl), le_R hRl (Nat.le_of_ble_eq_true rfl)⟩) ⟨(fun a U g mk q => ⟨q.1, q.2.blind⟩), va_recv hK hP (ci := 9) (q0 := 0) rfl (wR_0 cy ad σ0), (fun U hU hW => ⟨rfl, WdR.pre hP hK hD hN hU hW⟩)⟩ rfl rfl hl.1 rfl (lv_room (Nat.le_of_ble_eq_true rfl)) dX9_forbidden_22 ⟨le_R hRc (Nat.le_refl 0), le_R hRs (Nat.le_refl 0)⟩) hS (fun σ3 H locs hr1 hP hD hS => ?_)
      have hv := hv σ3 hr1
      refine lv_aload_n hx hb dX9_forbidden_25 rfl (lv_at hl 0 rfl) ?_
      refine lv_iload_n hx hb dX9_forbidden_26 rfl (lv_at hl 1 rfl) ?_
      obtain ⟨g4, g5, g6, hv⟩ := hv
      obtain ⟨hp, hv⟩ := hv
      refine k_read_i (w := wR cy ad) (va_runV (As := [.int season_]) (rest := []) ⟨hx, hb, hml, hown, hts⟩ (h_X9_forbiddenIn D cy ad A season_ g4 g5 g6 σ3 hp) (cwV 1 hts gX9_forbidden_X9_forbiddenIn rfl rfl rfl (by decide +kernel) ⟨le_R hRf (Nat.le_of_ble_eq_true rfl), le_R hRl (Nat.le_of_ble_eq_true rfl)⟩) ⟨(fun a U g mk q => ⟨q.1, q.2.blind⟩), va_recv hK hP (ci := 9) (q0 := 0) rfl (wR_0 cy ad σ3), (fun U hU hW => ⟨rfl, WdR.pre hP hK hD hN hU hW⟩)⟩ rfl rfl hl.1 rfl (lv_room (Nat.le_of_ble_eq_true rfl)) dX9_forbidden_27 ⟨le_R hRc (Nat.le_refl 0), le_R hRs (Nat.le_refl 0)⟩) hS (fun r7 H locs hr1 hP hS => ?_)
      have hv := hv r7 hr1
      rw [hZ]; rw [hQ] at hv
      exact W.iret (v := r7) hx hb hr (fun t ht hW => ⟨⟨r7, σ3, rfl, hv, ⟨P_of ht hP, hD⟩⟩, hS.F ht⟩) hS.2.2 dX9_forbidden_30
    · have hv := hv.2 c8
      refine lv_bipush (v := (-3)) hx hb dX9_forbidden_17 (by decide) ?_
      rw [hZ]; rw [hQ] at hv
      exact W.iret (v := (-3)) hx hb hr (fun t ht hW => ⟨⟨(-3), σ0, rfl, hv, ⟨P_of ht hP, hD⟩⟩, hS.F ht⟩) hS.2.2 dX9_forbidden_19
  · have hv := hv.2 c9
    refine lv_bipush (v := (-2)) hx hb dX9_forbidden_7 (by decide) ?_
    rw [hZ]; rw [hQ] at hv
    exact W.iret (v := (-2)) hx hb hr (fun t ht hW => ⟨⟨(-2), σ0, rfl, hv, ⟨P_of ht hP, hD⟩⟩, hS.F ht⟩) hS.2.2 dX9_forbidden_9
set_option maxHeartbeats 4000000 in
set_option maxRecDepth 100000 in
theorem wk_X9_dies (l : Launch) (h_X9_endOf : Ct_X9_endOf l) (h_X9_noTale : Ct_X9_noTale l) (sp : Sp_X9_dies) : Ct_X9_dies l := by
  intro D cy ad A t_ ag σ0  hpre
  refine Met.ofW (cc := cX9_dies) (maxL := 3) (ret := (some .int)) (by decide) rfl ?_
  intro p e s m args below meth c s₁ B hml hv0
  obtain ⟨rfl, hP, hK, hD, hN⟩ := hv0
  have hx := B.exec
  have hb := B.bytes
  have hr := B.returns
  have hts := atoms_spec (ws := wsX9_dies) B.pre
  have hown : s.vm.findClass RX9 = some m.cls := findClass_of_methodNamed B.named
  have hlocks := B.notSynchronized
  have hv := sp t_ ag σ0 hpre
  have hl := lv_entry ([.ref (ad 0), .int t_]) (n := 3) (Nat.le_of_ble_eq_true rfl)
  rw [lg_entry_eq]
  generalize (lg_sl ([.ref (ad 0), .int t_]) ++ List.replicate (3 - (lg_sl ([.ref (ad 0), .int t_])).length) Slot.unset).toArray = ls at hl ⊢
  have hl : lv_has ls 3 [(0, .ref (ad 0)), (1, .int t_)] := hl
  refine W_gen (fun R Z H locs hR hZ hH hlo => ?_)
  have hRf : R.frames = 6 := by rw [hR]; rfl
  have hRl : R.locals = 139 := by rw [hR]; rfl
  have hRc : R.cells = 0 := by rw [hR]; rfl
  have hRs : R.slots = 0 := by rw [hR]; rfl
  have hS : va_S A s.heap H locs := by rw [hH, hlo]; exact va_S.rf
  rw [← hH] at hP
  obtain ⟨Q, hQ⟩ : ∃ q : Int32 → S_ → Prop, q = (post_X9_dies t_ ag σ0) := ⟨_, rfl⟩
  rw [← hQ] at hv
  refine lv_aload_n hx hb dX9_dies_0 rfl (lv_at hl 0 rfl) ?_
  refine lv_iload_n hx hb dX9_dies_1 rfl (lv_at hl 1 rfl) ?_
  have hp := True.intro
  refine k_read_i (w := wR cy ad) (va_runV (As := [.int t_]) (rest := []) ⟨hx, hb, hml, hown, hts⟩ (h_X9_noTale D cy ad A t_ σ0 hp) (cwV 1 hts gX9_dies_X9_noTale rfl rfl rfl (by decide +kernel) ⟨le_R hRf (Nat.le_of_ble_eq_true rfl), le_R hRl (Nat.le_of_ble_eq_true rfl)⟩) ⟨(fun a U g mk q => ⟨q.1, q.2.blind⟩), va_recv hK hP (ci := 9) (q0 := 0) rfl (wR_0 cy ad σ0), (fun U hU hW => ⟨rfl, WdR.pre hP hK hD hN hU hW⟩)⟩ rfl rfl hl.1 rfl (lv_room (Nat.le_of_ble_eq_true rfl)) dX9_dies_2 ⟨le_R hRc (Nat.le_refl 0), le_R hRs (Nat.le_refl 0)⟩) hS (fun r H locs hr1 hP hS => ?_)
  subst hr1
  refine lv_if_eq (tgt := 10) hx hb dX9_dies_5 (by decide) (fun c6 => ?_) (fun c6 => ?_)
  · have hv := hv.1 c6
    refine lv_aload_n hx hb dX9_dies_10 rfl (lv_at hl 0 rfl) ?_
    refine lv_iload_n hx hb dX9_dies_11 rfl (lv_at hl 1 rfl) ?_
    obtain ⟨g1, g2, hv⟩ := hv
    obtain ⟨hp, hv⟩ := hv
    refine k_rel_i (w := wR cy ad) (va_runV (As := [.int t_]) (rest := []) ⟨hx, hb, hml, hown, hts⟩ (h_X9_endOf D cy ad A t_ g1 g2 σ0 hp) (cwV 1 hts gX9_dies_X9_endOf rfl rfl rfl (by decide +kernel) ⟨le_R hRf (Nat.le_of_ble_eq_true rfl), le_R hRl (Nat.le_of_ble_eq_true rfl)⟩) ⟨(fun a U g mk q => ⟨q.1, q.2.blind⟩), va_recv hK hP (ci := 9) (q0 := 0) rfl (wR_0 cy ad σ0), (fun U hU hW => ⟨rfl, WdR.pre hP hK hD hN hU hW⟩)⟩ rfl rfl hl.1 rfl (lv_room (Nat.le_of_ble_eq_true rfl)) dX9_dies_12 ⟨le_R hRc (Nat.le_refl 0), le_R hRs (Nat.le_refl 0)⟩) hS (fun r4 σ3 H locs hr1 hP hD hS => ?_)
    have hv := hv r4 σ3 hr1
    refine lv_istore_n (lv' := [(2, .int r4), (0, .ref (ad 0)), (1, .int t_)]) hx hb dX9_dies_15 rfl hl (by decide) rfl (fun ls hl => ?_)
    refine lv_iload_n hx hb dX9_dies_16 rfl (lv_at hl 0 rfl) ?_
    refine lv_bipush (v := 99) hx hb dX9_dies_17 (by decide) ?_
    refine lv_icmp_ne (tgt := 27) hx hb dX9_dies_19 (by decide) (fun c5 => ?_) (fun c5 => ?_)
    · have hv := hv.1 c5
      refine lv_iload_n hx hb dX9_dies_27 rfl (lv_at hl 0 rfl) ?_
      rw [hZ]; rw [hQ] at hv
      exact W.iret (v := r4) hx hb hr (fun t ht hW => ⟨⟨r4, σ3, rfl, hv, ⟨P_of ht hP, hD⟩⟩, hS.F ht⟩) hS.2.2 dX9_dies_28
    · have hv := hv.2 c5
      refine lv_bipush (v := (-9)) hx hb dX9_dies_22 (by decide) ?_
      refine lv_goto (tgt := 28) hx hb dX9_dies_24 (by decide) ?_
      rw [hZ]; rw [hQ] at hv
      exact W.iret (v := (-9)) hx hb hr (fun t ht hW => ⟨⟨(-9), σ3, rfl, hv, ⟨P_of ht hP, hD⟩⟩, hS.F ht⟩) hS.2.2 dX9_dies_28
  · have hv := hv.2 c6
    refine lv_iconst (v := (-1)) hx hb dX9_dies_8 (by decide) ?_
    rw [hZ]; rw [hQ] at hv
    exact W.iret (v := (-1)) hx hb hr (fun t ht hW => ⟨⟨(-1), σ0, rfl, hv, ⟨P_of ht hP, hD⟩⟩, hS.F ht⟩) hS.2.2 dX9_dies_9
set_option maxHeartbeats 4000000 in
set_option maxRecDepth 100000 in
theorem wk_X9_free (l : Launch) (h_X9_begin : Ct_X9_begin l) (h_X9_forbiddenIn : Ct_X9_forbiddenIn l) (h_X9_goSeason : Ct_X9_goSeason l) (h_X9_isIn : Ct_X9_isIn l) (h_X9_refusedFor : Ct_X9_refusedFor l) (sp : Sp_X9_free) : Ct_X9_free l := by
  intro D cy ad A deed_ season_ ag σ0  hpre
  refine Met.ofW (cc := cX9_free) (maxL := 5) (ret := (some .int)) (by decide) rfl ?_
  intro p e s m args below meth c s₁ B hml hv0
  obtain ⟨rfl, hP, hK, hD, hN⟩ := hv0
  have hx := B.exec
  have hb := B.bytes
  have hr := B.returns
  have hts := atoms_spec (ws := wsX9_free) B.pre
  have hown : s.vm.findClass RX9 = some m.cls := findClass_of_methodNamed B.named
  have hlocks := B.notSynchronized
  have hv := sp deed_ season_ ag σ0 hpre
  have hl := lv_entry ([.ref (ad 0), .int deed_, .int season_]) (n := 5) (Nat.le_of_ble_eq_true rfl)
  rw [lg_entry_eq]
  generalize (lg_sl ([.ref (ad 0), .int deed_, .int season_]) ++ List.replicate (5 - (lg_sl ([.ref (ad 0), .int deed_, .int season_])).length) Slot.unset).toArray = ls at hl ⊢
  have hl : lv_has ls 5 [(0, .ref (ad 0)), (1, .int deed_), (2, .int season_)] := hl
  refine W_gen (fun R Z H locs hR hZ hH hlo => ?_)
  have hRf : R.frames = 5 := by rw [hR]; rfl
  have hRl : R.locals = 117 := by rw [hR]; rfl
  have hRc : R.cells = 0 := by rw [hR]; rfl
  have hRs : R.slots = 0 := by rw [hR]; rfl
  have hS : va_S A s.heap H locs := by rw [hH, hlo]; exact va_S.rf
  rw [← hH] at hP
  obtain ⟨Q, hQ⟩ : ∃ q : Int32 → S_ → Prop, q = (post_X9_free deed_ season_ ag σ0) := ⟨_, rfl⟩
  rw [← hQ] at hv
  refine lv_aload_n hx hb dX9_free_0 rfl (lv_at hl 0 rfl) ?_
  refine lv_iload_n hx hb dX9_free_1 rfl (lv_at hl 1 rfl) ?_
  refine lv_iload_n hx hb dX9_free_2 rfl (lv_at hl 2 rfl) ?_
  have hp := True.intro
  refine k_read_i (w := wR cy ad) (va_runV (As := [.int deed_, .int season_]) (rest := []) ⟨hx, hb, hml, hown, hts⟩ (h_X9_refusedFor D cy ad A deed_ season_ σ0 hp) (cwV 2 hts gX9_free_X9_refusedFor rfl rfl rfl (by decide +kernel) ⟨le_R hRf (Nat.le_of_ble_eq_true rfl), le_R hRl (Nat.le_of_ble_eq_true rfl)⟩) ⟨(fun a U g mk q => ⟨q.1, q.2.blind⟩), va_recv hK hP (ci := 9) (q0 := 0) rfl (wR_0 cy ad σ0), (fun U hU hW => ⟨rfl, WdR.pre hP hK hD hN hU hW⟩)⟩ rfl rfl hl.1 rfl (lv_room (Nat.le_of_ble_eq_true rfl)) dX9_free_3 ⟨le_R hRc (Nat.le_refl 0), le_R hRs (Nat.le_refl 0)⟩) hS (fun r H locs hr1 hP hS => ?_)
  subst hr1
  refine lv_istore_n (lv' := [(3, .int (fn_X9_refusedFor deed_ season_ σ0)), (0, .ref (ad 0)), (1, .int deed_), (2, .int season_)]) hx hb dX9_free_6 rfl hl (by decide) rfl (fun ls hl => ?_)
  refine lv_iload_n hx hb dX9_free_7 rfl (lv_at hl 0 rfl) ?_
  refine lv_if_ge (tgt := 13) hx hb dX9_free_8 (by decide) (fun c16 => ?_) (fun c16 => ?_)
  · have hv := hv.1 c16
    refine lv_aload_n hx hb dX9_free_13 rfl (lv_at hl 1 rfl) ?_
    obtain ⟨g1, hv⟩ := hv
    obtain ⟨hp, hv⟩ := hv
    refine k_rel_v (w := wR cy ad) (va_runV (As := []) (rest := []) ⟨hx, hb, hml, hown, hts⟩ (h_X9_begin D cy ad A g1 σ0 hp) (cwV 0 hts gX9_free_X9_begin rfl rfl rfl (by decide +kernel) ⟨le_R hRf (Nat.le_of_ble_eq_true rfl), le_R hRl (Nat.le_of_ble_eq_true rfl)⟩) ⟨(fun a U g mk q => ⟨q.1, q.2.blind⟩), va_recv hK hP (ci := 9) (q0 := 0) rfl (wR_0 cy ad σ0), (fun U hU hW => ⟨rfl, WdR.pre hP hK hD hN hU hW⟩)⟩ rfl rfl hl.1 rfl (lv_room (Nat.le_of_ble_eq_true rfl)) dX9_free_14 ⟨le_R hRc (Nat.le_refl 0), le_R hRs (Nat.le_refl 0)⟩) hS (fun σ2 H locs hr1 hP hD hS => ?_)
    have hv := hv σ2 hr1
    refine lv_iconst (v := 0) hx hb dX9_free_17 (by decide) ?_
    refine lv_istore (lv' := [(4, .int 0), (3, .int (fn_X9_refusedFor deed_ season_ σ0)), (0, .ref (ad 0)), (1, .int deed_), (2, .int season_)]) hx hb dX9_free_18 hl (by decide) rfl (fun ls hl => ?_)
    obtain ⟨n20, hv⟩ := hv
    have lp20 : ∀ (nn20 : Nat) (x3 : Int32) (σ4 : S_) (H : Heap) (locs : List Loc) (ls : Array Slot), vl_X9_free_20 deed_ season_ Q nn20 x3 σ4 → va_P D vwCl (wR cy ad σ4) H → va_D A (wR cy ad σ4) → va_S A s.heap H locs → lv_has ls 5 [(0, .ref (ad 0)), (1, .int deed_), (2, .int season_), (4, .int x3)] → W p l e R s m ([.ref (ad 0), .int deed_, .int season_] : List Value).toArray  below meth c H locs 0 0 Z (F0 m 20 ls []) := by
      intro nn20
      induction nn20 with
      | zero => intro x3 σ4 H locs ls hv; exact absurd hv id
      | succ mm20 ih20 =>
        intro x3 σ4 H locs ls hv hP hD hS hl
        refine lv_iload hx hb dX9_free_20 (lv_at hl 3 rfl) ?_
        refine lv_bipush (v := 40) hx hb dX9_free_22 (by decide) ?_
        refine lv_icmp_ge (tgt := 61) hx hb dX9_free_24 (by decide) (fun c15 => ?_) (fun c15 => ?_)
        · have hv := hv.1 c15
          refine lv_bipush (v := (-9)) hx hb dX9_free_61 (by decide) ?_
          rw [hZ]; rw [hQ] at hv
          exact W.iret (v := (-9)) hx hb hr (fun t ht hW => ⟨⟨(-9), σ4, rfl, hv, ⟨P_of ht hP, hD⟩⟩, hS.F ht⟩) hS.2.2 dX9_free_63
        · have hv := hv.2 c15
          refine lv_aload_n hx hb dX9_free_27 rfl (lv_at hl 0 rfl) ?_
          refine lv_iload hx hb dX9_free_28 (lv_at hl 3 rfl) ?_
          obtain ⟨g5, g6, g7, hv⟩ := hv
          obtain ⟨hp, hv⟩ := hv
          refine k_rel_v (w := wR cy ad) (va_runV (As := [.int x3]) (rest := []) ⟨hx, hb, hml, hown, hts⟩ (h_X9_goSeason D cy ad A x3 g5 g6 g7 σ4 hp) (cwV 1 hts gX9_free_X9_goSeason rfl rfl rfl (by decide +kernel) ⟨le_R hRf (Nat.le_of_ble_eq_true rfl), le_R hRl (Nat.le_of_ble_eq_true rfl)⟩) ⟨(fun a U g mk q => ⟨q.1, q.2.blind⟩), va_recv hK hP (ci := 9) (q0 := 0) rfl (wR_0 cy ad σ4), (fun U hU hW => ⟨rfl, WdR.pre hP hK hD hN hU hW⟩)⟩ rfl rfl hl.1 rfl (lv_room (Nat.le_of_ble_eq_true rfl)) dX9_free_30 ⟨le_R hRc (Nat.le_refl 0), le_R hRs (Nat.le_refl 0)⟩) hS (fun σ8 H locs hr1 hP hD hS => ?_)
          have hv := hv σ8 hr1
          refine lv_iload hx hb dX9_free_33 (lv_at hl 3 rfl) ?_
          refine lv_iload_n hx hb dX9_free_35 rfl (lv_at hl 2 rfl) ?_
          refine lv_icmp_lt (tgt := 55) hx hb dX9_free_36 (by decide) (fun c14 => ?_) (fun c14 => ?_)
          · have hv := hv.1 c14
            refine lv_iinc (v := (x3 + 1)) (lv' := [(4, .int (x3 + 1)), (0, .ref (ad 0)), (1, .int deed_), (2, .int season_)]) hx hb dX9_free_55 hl (k := 3) rfl rfl (by decide) rfl (fun ls hl => ?_)
            refine lv_goto (tgt := 20) hx hb dX9_free_58 (by decide) ?_
            exact ih20 (x3 + 1) σ8 _ _ _ hv hP hD hS (lv_sub hl [1, 2, 3, 0] rfl)
          · have hv := hv.2 c14
            refine lv_aload_n hx hb dX9_free_39 rfl (lv_at hl 0 rfl) ?_
            refine lv_iload hx hb dX9_free_40 (lv_at hl 3 rfl) ?_
            obtain ⟨g9, g10, g11, hv⟩ := hv
            obtain ⟨hp, hv⟩ := hv
            refine k_read_i (w := wR cy ad) (va_runV (As := [.int x3]) (rest := []) ⟨hx, hb, hml, hown, hts⟩ (h_X9_forbiddenIn D cy ad A x3 g9 g10 g11 σ8 hp) (cwV 1 hts gX9_free_X9_forbiddenIn rfl rfl rfl (by decide +kernel) ⟨le_R hRf (Nat.le_of_ble_eq_true rfl), le_R hRl (Nat.le_of_ble_eq_true rfl)⟩) ⟨(fun a U g mk q => ⟨q.1, q.2.blind⟩), va_recv hK hP (ci := 9) (q0 := 0) rfl (wR_0 cy ad σ8), (fun U hU hW => ⟨rfl, WdR.pre hP hK hD hN hU hW⟩)⟩ rfl rfl hl.1 rfl (lv_room (Nat.le_of_ble_eq_true rfl)) dX9_free_42 ⟨le_R hRc (Nat.le_refl 0), le_R hRs (Nat.le_refl 0)⟩) hS (fun r12 H locs hr1 hP hS => ?_)
            have hv := hv r12 hr1
            refine lv_iload_n hx hb dX9_free_45 rfl (lv_at hl 1 rfl) ?_
            refine k_pure_i (va_runS (As := [.int r12, .int deed_]) (rest := []) ⟨hx, hb, hml, hown, hts⟩ (h_X9_isIn r12 deed_) (va_cwS 2 hts gX9_free_X9_isIn rfl rfl rfl (by decide +kernel) ⟨le_R hRf (Nat.le_of_ble_eq_true rfl), le_R hRl (Nat.le_of_ble_eq_true rfl)⟩) ⟨(fun a U g mk q => ⟨q.1, trivial⟩), (fun U hU hW => ⟨rfl, trivial⟩)⟩ rfl rfl hl.1 rfl (lv_room (Nat.le_of_ble_eq_true rfl)) dX9_free_46 ⟨le_R hRc (Nat.le_refl 0), le_R hRs (Nat.le_refl 0)⟩) hS hP (fun r H locs hr1 hP hS => ?_)
            subst hr1
            refine lv_if_ne (tgt := 55) hx hb dX9_free_49 (by decide) (fun c13 => ?_) (fun c13 => ?_)
            · have hv := hv.1 c13
              refine lv_iinc (v := (x3 + 1)) (lv' := [(4, .int (x3 + 1)), (0, .ref (ad 0)), (1, .int deed_), (2, .int season_)]) hx hb dX9_free_55 hl (k := 3) rfl rfl (by decide) rfl (fun ls hl => ?_)
              refine lv_goto (tgt := 20) hx hb dX9_free_58 (by decide) ?_
              exact ih20 (x3 + 1) σ8 _ _ _ hv hP hD hS (lv_sub hl [1, 2, 3, 0] rfl)
            · have hv := hv.2 c13
              refine lv_iload hx hb dX9_free_52 (lv_at hl 3 rfl) ?_
              rw [hZ]; rw [hQ] at hv
              exact W.iret (v := x3) hx hb hr (fun t ht hW => ⟨⟨x3, σ8, rfl, hv, ⟨P_of ht hP, hD⟩⟩, hS.F ht⟩) hS.2.2 dX9_free_54
    exact lp20 n20 0 σ2 _ _ _ hv hP hD hS (lv_sub hl [2, 3, 4, 0] rfl)
  · have hv := hv.2 c16
    refine lv_iload_n hx hb dX9_free_11 rfl (lv_at hl 0 rfl) ?_
    rw [hZ]; rw [hQ] at hv
    exact W.iret (v := (fn_X9_refusedFor deed_ season_ σ0)) hx hb hr (fun t ht hW => ⟨⟨(fn_X9_refusedFor deed_ season_ σ0), σ0, rfl, hv, ⟨P_of ht hP, hD⟩⟩, hS.F ht⟩) hS.2.2 dX9_free_12
set_option maxHeartbeats 4000000 in
set_option maxRecDepth 100000 in
theorem wk_X9_fewest (l : Launch) (h_X9_all : Ct_X9_all l) (h_X9_bits : Ct_X9_bits l) (h_X9_isForbidden : Ct_X9_isForbidden l) (h_X9_refusedFor : Ct_X9_refusedFor l) (sp : Sp_X9_fewest) : Ct_X9_fewest l := by
  intro D cy ad A deed_ season_ ag σ0  hpre
  refine Met.ofW (cc := cX9_fewest) (maxL := 7) (ret := (some .int)) (by decide) rfl ?_
  intro p e s m args below meth c s₁ B hml hv0
  obtain ⟨rfl, hP, hK, hD, hN⟩ := hv0
  have hx := B.exec
  have hb := B.bytes
  have hr := B.returns
  have hts := atoms_spec (ws := wsX9_fewest) B.pre
  have hown : s.vm.findClass RX9 = some m.cls := findClass_of_methodNamed B.named
  have hlocks := B.notSynchronized
  have hv := sp deed_ season_ ag σ0 hpre
  have hl := lv_entry ([.ref (ad 0), .int deed_, .int season_]) (n := 7) (Nat.le_of_ble_eq_true rfl)
  rw [lg_entry_eq]
  generalize (lg_sl ([.ref (ad 0), .int deed_, .int season_]) ++ List.replicate (7 - (lg_sl ([.ref (ad 0), .int deed_, .int season_])).length) Slot.unset).toArray = ls at hl ⊢
  have hl : lv_has ls 7 [(0, .ref (ad 0)), (1, .int deed_), (2, .int season_)] := hl
  refine W_gen (fun R Z H locs hR hZ hH hlo => ?_)
  have hRf : R.frames = 7 := by rw [hR]; rfl
  have hRl : R.locals = 161 := by rw [hR]; rfl
  have hRc : R.cells = 0 := by rw [hR]; rfl
  have hRs : R.slots = 0 := by rw [hR]; rfl
  have hS : va_S A s.heap H locs := by rw [hH, hlo]; exact va_S.rf
  rw [← hH] at hP
  obtain ⟨Q, hQ⟩ : ∃ q : Int32 → S_ → Prop, q = (post_X9_fewest deed_ season_ ag σ0) := ⟨_, rfl⟩
  rw [← hQ] at hv
  have hinX9 : ∀ w ∈ wsX90, w ∈ wsX9_fewest := by decide +kernel
  refine lv_aload_n hx hb dX9_fewest_0 rfl (lv_at hl 0 rfl) ?_
  refine lv_iload_n hx hb dX9_fewest_1 rfl (lv_at hl 1 rfl) ?_
  refine lv_iload_n hx hb dX9_fewest_2 rfl (lv_at hl 2 rfl) ?_
  have hp := True.intro
  refine k_read_i (w := wR cy ad) (va_runV (As := [.int deed_, .int season_]) (rest := []) ⟨hx, hb, hml, hown, hts⟩ (h_X9_refusedFor D cy ad A deed_ season_ σ0 hp) (cwV 2 hts gX9_fewest_X9_refusedFor rfl rfl rfl (by decide +kernel) ⟨le_R hRf (Nat.le_of_ble_eq_true rfl), le_R hRl (Nat.le_of_ble_eq_true rfl)⟩) ⟨(fun a U g mk q => ⟨q.1, q.2.blind⟩), va_recv hK hP (ci := 9) (q0 := 0) rfl (wR_0 cy ad σ0), (fun U hU hW => ⟨rfl, WdR.pre hP hK hD hN hU hW⟩)⟩ rfl rfl hl.1 rfl (lv_room (Nat.le_of_ble_eq_true rfl)) dX9_fewest_3 ⟨le_R hRc (Nat.le_refl 0), le_R hRs (Nat.le_refl 0)⟩) hS (fun r H locs hr1 hP hS => ?_)
  subst hr1
  refine lv_istore_n (lv' := [(3, .int (fn_X9_refusedFor deed_ season_ σ0)), (0, .ref (ad 0)), (1, .int deed_), (2, .int season_)]) hx hb dX9_fewest_6 rfl hl (by decide) rfl (fun ls hl => ?_)
  refine lv_iload_n hx hb dX9_fewest_7 rfl (lv_at hl 0 rfl) ?_
  refine lv_if_ge (tgt := 13) hx hb dX9_fewest_8 (by decide) (fun c32 => ?_) (fun c32 => ?_)
  · have hv := hv.1 c32
    refine lv_aload_n hx hb dX9_fewest_13 rfl (lv_at hl 1 rfl) ?_
    refine va_get (ci := 9) (v := .int (rdI σ0 2)) (C := RX9) (T := TX9) (N := 38) hx hb hts hinX9 hown hK hP 0 (wR_0 cy ad σ0) rfl 5 (by decide) (hts (.fieldLink RX9 158 "TaleBansModel" "paidNow" "I") (List.mem_of_getElem? (i := 1) rfl)) (fun x h => h) rfl dX9_fewest_14 ?_
    refine lv_istore (lv' := [(4, .int (rdI σ0 2)), (3, .int (fn_X9_refusedFor deed_ season_ σ0)), (0, .ref (ad 0)), (1, .int deed_), (2, .int season_)]) hx hb dX9_fewest_17 hl (by decide) rfl (fun ls hl => ?_)
    refine lv_bipush (v := (-9)) hx hb dX9_fewest_19 (by decide) ?_
    refine lv_istore (lv' := [(5, .int (-9)), (4, .int (rdI σ0 2)), (3, .int (fn_X9_refusedFor deed_ season_ σ0)), (0, .ref (ad 0)), (1, .int deed_), (2, .int season_)]) hx hb dX9_fewest_21 hl (by decide) rfl (fun ls hl => ?_)
    refine lv_iconst (v := 0) hx hb dX9_fewest_23 (by decide) ?_
    refine lv_istore (lv' := [(6, .int 0), (5, .int (-9)), (4, .int (rdI σ0 2)), (3, .int (fn_X9_refusedFor deed_ season_ σ0)), (0, .ref (ad 0)), (1, .int deed_), (2, .int season_)]) hx hb dX9_fewest_24 hl (by decide) rfl (fun ls hl => ?_)
    obtain ⟨n26, hv⟩ := hv
    have lp26 : ∀ (nn26 : Nat) (x1 : Int32) (x2 : Int32) (σ3 : S_) (H : Heap) (locs : List Loc) (ls : Array Slot), vl_X9_fewest_26 deed_ season_ σ0 Q nn26 x1 x2 σ3 → va_P D vwCl (wR cy ad σ3) H → va_D A (wR cy ad σ3) → va_S A s.heap H locs → lv_has ls 7 [(0, .ref (ad 0)), (1, .int deed_), (2, .int season_), (4, .int (rdI σ0 2)), (5, .int x1), (6, .int x2)] → W p l e R s m ([.ref (ad 0), .int deed_, .int season_] : List Value).toArray  below meth c H locs 0 0 Z (F0 m 26 ls []) := by
      intro nn26
      induction nn26 with
      | zero => intro x1 x2 σ3 H locs ls hv; exact absurd hv id
      | succ mm26 ih26 =>
        intro x1 x2 σ3 H locs ls hv hP hD hS hl
        refine lv_iload hx hb dX9_fewest_26 (lv_at hl 5 rfl) ?_
        refine lv_aload_n hx hb dX9_fewest_28 rfl (lv_at hl 0 rfl) ?_
        have hp := True.intro
        refine k_read_i (w := wR cy ad) (va_runV (As := []) (rest := [.int x2]) ⟨hx, hb, hml, hown, hts⟩ (h_X9_all D cy ad A σ3 hp) (cwV 0 hts gX9_fewest_X9_all rfl rfl rfl (by decide +kernel) ⟨le_R hRf (Nat.le_of_ble_eq_true rfl), le_R hRl (Nat.le_of_ble_eq_true rfl)⟩) ⟨(fun a U g mk q => ⟨q.1, q.2.blind⟩), va_recv hK hP (ci := 9) (q0 := 0) rfl (wR_0 cy ad σ3), (fun U hU hW => ⟨rfl, WdR.pre hP hK hD hN hU hW⟩)⟩ rfl rfl hl.1 rfl (lv_room (Nat.le_of_ble_eq_true rfl)) dX9_fewest_29 ⟨le_R hRc (Nat.le_refl 0), le_R hRs (Nat.le_refl 0)⟩) hS (fun r H locs hr1 hP hS => ?_)
        subst hr1
        refine lv_icmp_gt (tgt := 94) hx hb dX9_fewest_32 (by decide) (fun c31 => ?_) (fun c31 => ?_)
        · have hv := hv.1 c31
          refine lv_aload_n hx hb dX9_fewest_94 rfl (lv_at hl 0 rfl) ?_
          refine lv_iload hx hb dX9_fewest_95 (lv_at hl 3 rfl) ?_
          refine va_put (ci := 9) (v := .int (rdI σ0 2)) (ty := .int) (C := RX9) (T := TX9) (N := 38) hx hb hts hinX9 tyX9 tyX9_ok nmX9 hown hK hP hD hS 0 (wR_0 cy ad σ3) rfl 5 (by decide) (hts (.fieldLink RX9 158 "TaleBansModel" "paidNow" "I") (List.mem_of_getElem? (i := 1) rfl)) (fun x h => h) rfl (by decide +kernel) rfl rfl (Nat.le_of_ble_eq_true rfl) dX9_fewest_97 (fun H locs hP hD hS => ?_)
          obtain ⟨σ4, e5⟩ : ∃ y : S_, y = wrI σ3 2 (rdI σ0 2) := ⟨_, rfl⟩
          have hP : va_P D vwCl (wR cy ad σ4) H := by rw [e5]; exact hP
          have hD : va_D A (wR cy ad σ4) := by rw [e5]; exact hD
          have hv := hv σ4 e5
          refine lv_iload hx hb dX9_fewest_100 (lv_at hl 4 rfl) ?_
          rw [hZ]; rw [hQ] at hv
          exact W.iret (v := x1) hx hb hr (fun t ht hW => ⟨⟨x1, σ4, rfl, hv, ⟨P_of ht hP, hD⟩⟩, hS.F ht⟩) hS.2.2 dX9_fewest_102
        · have hv := hv.2 c31
          refine lv_iload hx hb dX9_fewest_35 (lv_at hl 5 rfl) ?_
          refine lv_iload hx hb dX9_fewest_37 (lv_at hl 3 rfl) ?_
          refine lv_iand hx hb dX9_fewest_39 ?_
          refine lv_if_ne (tgt := 88) hx hb dX9_fewest_40 (by decide) (fun c30 => ?_) (fun c30 => ?_)
          · have hv := hv.1 c30
            refine lv_iinc (v := (x2 + 1)) (lv' := [(6, .int (x2 + 1)), (0, .ref (ad 0)), (1, .int deed_), (2, .int season_), (4, .int (rdI σ0 2)), (5, .int x1)]) hx hb dX9_fewest_88 hl (k := 5) rfl rfl (by decide) rfl (fun ls hl => ?_)
            refine lv_goto (tgt := 26) hx hb dX9_fewest_91 (by decide) ?_
            exact ih26 x1 (x2 + 1) σ3 _ _ _ hv hP hD hS (lv_sub hl [1, 2, 3, 4, 5, 0] rfl)
          · have hv := hv.2 c30
            refine lv_iload hx hb dX9_fewest_43 (lv_at hl 4 rfl) ?_
            refine lv_if_lt (tgt := 61) hx hb dX9_fewest_45 (by decide) (fun c29 => ?_) (fun c29 => ?_)
            · have hv := hv.1 c29
              refine lv_aload_n hx hb dX9_fewest_61 rfl (lv_at hl 0 rfl) ?_
              refine lv_iload hx hb dX9_fewest_62 (lv_at hl 3 rfl) ?_
              refine lv_iload hx hb dX9_fewest_64 (lv_at hl 5 rfl) ?_
              refine lv_ior hx hb dX9_fewest_66 ?_
              refine va_put (ci := 9) (v := .int ((rdI σ0 2) ||| x2)) (ty := .int) (C := RX9) (T := TX9) (N := 38) hx hb hts hinX9 tyX9 tyX9_ok nmX9 hown hK hP hD hS 0 (wR_0 cy ad σ3) rfl 5 (by decide) (hts (.fieldLink RX9 158 "TaleBansModel" "paidNow" "I") (List.mem_of_getElem? (i := 1) rfl)) (fun x h => h) rfl (by decide +kernel) rfl rfl (Nat.le_of_ble_eq_true rfl) dX9_fewest_67 (fun H locs hP hD hS => ?_)
              obtain ⟨σ6, e7⟩ : ∃ y : S_, y = wrI σ3 2 ((rdI σ0 2) ||| x2) := ⟨_, rfl⟩
              have hP : va_P D vwCl (wR cy ad σ6) H := by rw [e7]; exact hP
              have hD : va_D A (wR cy ad σ6) := by rw [e7]; exact hD
              have hv := hv σ6 e7
              refine lv_aload_n hx hb dX9_fewest_70 rfl (lv_at hl 0 rfl) ?_
              refine lv_iload_n hx hb dX9_fewest_71 rfl (lv_at hl 1 rfl) ?_
              refine lv_iload_n hx hb dX9_fewest_72 rfl (lv_at hl 2 rfl) ?_
              obtain ⟨g8, g9, g10, hv⟩ := hv
              obtain ⟨hp, hv⟩ := hv
              refine k_rel_i (w := wR cy ad) (va_runV (As := [.int deed_, .int season_]) (rest := []) ⟨hx, hb, hml, hown, hts⟩ (h_X9_isForbidden D cy ad A deed_ season_ g8 g9 g10 σ6 hp) (cwV 2 hts gX9_fewest_X9_isForbidden rfl rfl rfl (by decide +kernel) ⟨le_R hRf (Nat.le_of_ble_eq_true rfl), le_R hRl (Nat.le_of_ble_eq_true rfl)⟩) ⟨(fun a U g mk q => ⟨q.1, q.2.blind⟩), va_recv hK hP (ci := 9) (q0 := 0) rfl (wR_0 cy ad σ6), (fun U hU hW => ⟨rfl, WdR.pre hP hK hD hN hU hW⟩)⟩ rfl rfl hl.1 rfl (lv_room (Nat.le_of_ble_eq_true rfl)) dX9_fewest_73 ⟨le_R hRc (Nat.le_refl 0), le_R hRs (Nat.le_refl 0)⟩) hS (fun r12 σ11 H locs hr1 hP hD hS => ?_)
              have hv := hv r12 σ11 hr1
              obtain ⟨P13, hv, hvr⟩ := hv
              have jn14 : ∀ (b15 : Int32) (H : Heap) (locs : List Loc) (ls : Array Slot), P13 b15 → va_P D vwCl (wR cy ad σ11) H → va_S A s.heap H locs → lv_has ls 7 [(0, .ref (ad 0)), (1, .int deed_), (2, .int season_), (4, .int (rdI σ0 2)), (5, .int x1), (6, .int x2)] → W p l e R s m ([.ref (ad 0), .int deed_, .int season_] : List Value).toArray below meth c H locs 0 0 Z (F0 m 86 ls [.int b15]) := by
                intro b15 H locs ls hv hP hS hl
                have hv := hvr b15 hv
                refine lv_istore (lv' := [(5, .int b15), (0, .ref (ad 0)), (1, .int deed_), (2, .int season_), (4, .int (rdI σ0 2)), (6, .int x2)]) hx hb dX9_fewest_86 hl (by decide) rfl (fun ls hl => ?_)
                refine lv_iinc (v := (x2 + 1)) (lv' := [(6, .int (x2 + 1)), (5, .int b15), (0, .ref (ad 0)), (1, .int deed_), (2, .int season_), (4, .int (rdI σ0 2))]) hx hb dX9_fewest_88 hl (k := 5) rfl rfl (by decide) rfl (fun ls hl => ?_)
                refine lv_goto (tgt := 26) hx hb dX9_fewest_91 (by decide) ?_
                exact ih26 b15 (x2 + 1) σ11 _ _ _ hv hP hD hS (lv_sub hl [2, 3, 4, 5, 1, 0] rfl)
              refine lv_if_eq (tgt := 84) hx hb dX9_fewest_76 (by decide) (fun c16 => ?_) (fun c16 => ?_)
              · have hv := hv.1 c16
                refine lv_iload hx hb dX9_fewest_84 (lv_at hl 5 rfl) ?_
                exact jn14 x2 _ _ _ hv hP hS hl
              · have hv := hv.2 c16
                refine lv_iload hx hb dX9_fewest_79 (lv_at hl 4 rfl) ?_
                refine lv_goto (tgt := 86) hx hb dX9_fewest_81 (by decide) ?_
                exact jn14 x1 _ _ _ hv hP hS hl
            · have hv := hv.2 c29
              refine lv_iload hx hb dX9_fewest_48 (lv_at hl 5 rfl) ?_
              refine k_pure_i (va_runS (As := [.int x2]) (rest := []) ⟨hx, hb, hml, hown, hts⟩ (h_X9_bits x2) (va_cwS 1 hts gX9_fewest_X9_bits rfl rfl rfl (by decide +kernel) ⟨le_R hRf (Nat.le_of_ble_eq_true rfl), le_R hRl (Nat.le_of_ble_eq_true rfl)⟩) ⟨(fun a U g mk q => ⟨q.1, trivial⟩), (fun U hU hW => ⟨rfl, trivial⟩)⟩ rfl rfl hl.1 rfl (lv_room (Nat.le_of_ble_eq_true rfl)) dX9_fewest_50 ⟨le_R hRc (Nat.le_refl 0), le_R hRs (Nat.le_refl 0)⟩) hS hP (fun r H locs hr1 hP hS => ?_)
              subst hr1
              refine lv_iload hx hb dX9_fewest_53 (lv_at hl 4 rfl) ?_
              refine k_pure_i (va_runS (As := [.int x1]) (rest := [.int (fn_X9_bits x2)]) ⟨hx, hb, hml, hown, hts⟩ (h_X9_bits x1) (va_cwS 1 hts gX9_fewest_X9_bits rfl rfl rfl (by decide +kernel) ⟨le_R hRf (Nat.le_of_ble_eq_true rfl), le_R hRl (Nat.le_of_ble_eq_true rfl)⟩) ⟨(fun a U g mk q => ⟨q.1, trivial⟩), (fun U hU hW => ⟨rfl, trivial⟩)⟩ rfl rfl hl.1 rfl (lv_room (Nat.le_of_ble_eq_true rfl)) dX9_fewest_55 ⟨le_R hRc (Nat.le_refl 0), le_R hRs (Nat.le_refl 0)⟩) hS hP (fun r H locs hr1 hP hS => ?_)
              subst hr1
              refine lv_icmp_ge (tgt := 88) hx hb dX9_fewest_58 (by decide) (fun c28 => ?_) (fun c28 => ?_)
              · have hv := hv.1 c28
                refine lv_iinc (v := (x2 + 1)) (lv' := [(6, .int (x2 + 1)), (0, .ref (ad 0)), (1, .int deed_), (2, .int season_), (4, .int (rdI σ0 2)), (5, .int x1)]) hx hb dX9_fewest_88 hl (k := 5) rfl rfl (by decide) rfl (fun ls hl => ?_)
                refine lv_goto (tgt := 26) hx hb dX9_fewest_91 (by decide) ?_
                exact ih26 x1 (x2 + 1) σ3 _ _ _ hv hP hD hS (lv_sub hl [1, 2, 3, 4, 5, 0] rfl)
              · have hv := hv.2 c28
                refine lv_aload_n hx hb dX9_fewest_61 rfl (lv_at hl 0 rfl) ?_
                refine lv_iload hx hb dX9_fewest_62 (lv_at hl 3 rfl) ?_
                refine lv_iload hx hb dX9_fewest_64 (lv_at hl 5 rfl) ?_
                refine lv_ior hx hb dX9_fewest_66 ?_
                refine va_put (ci := 9) (v := .int ((rdI σ0 2) ||| x2)) (ty := .int) (C := RX9) (T := TX9) (N := 38) hx hb hts hinX9 tyX9 tyX9_ok nmX9 hown hK hP hD hS 0 (wR_0 cy ad σ3) rfl 5 (by decide) (hts (.fieldLink RX9 158 "TaleBansModel" "paidNow" "I") (List.mem_of_getElem? (i := 1) rfl)) (fun x h => h) rfl (by decide +kernel) rfl rfl (Nat.le_of_ble_eq_true rfl) dX9_fewest_67 (fun H locs hP hD hS => ?_)
                obtain ⟨σ17, e18⟩ : ∃ y : S_, y = wrI σ3 2 ((rdI σ0 2) ||| x2) := ⟨_, rfl⟩
                have hP : va_P D vwCl (wR cy ad σ17) H := by rw [e18]; exact hP
                have hD : va_D A (wR cy ad σ17) := by rw [e18]; exact hD
                have hv := hv σ17 e18
                refine lv_aload_n hx hb dX9_fewest_70 rfl (lv_at hl 0 rfl) ?_
                refine lv_iload_n hx hb dX9_fewest_71 rfl (lv_at hl 1 rfl) ?_
                refine lv_iload_n hx hb dX9_fewest_72 rfl (lv_at hl 2 rfl) ?_
                obtain ⟨g19, g20, g21, hv⟩ := hv
                obtain ⟨hp, hv⟩ := hv
                refine k_rel_i (w := wR cy ad) (va_runV (As := [.int deed_, .int season_]) (rest := []) ⟨hx, hb, hml, hown, hts⟩ (h_X9_isForbidden D cy ad A deed_ season_ g19 g20 g21 σ17 hp) (cwV 2 hts gX9_fewest_X9_isForbidden rfl rfl rfl (by decide +kernel) ⟨le_R hRf (Nat.le_of_ble_eq_true rfl), le_R hRl (Nat.le_of_ble_eq_true rfl)⟩) ⟨(fun a U g mk q => ⟨q.1, q.2.blind⟩), va_recv hK hP (ci := 9) (q0 := 0) rfl (wR_0 cy ad σ17), (fun U hU hW => ⟨rfl, WdR.pre hP hK hD hN hU hW⟩)⟩ rfl rfl hl.1 rfl (lv_room (Nat.le_of_ble_eq_true rfl)) dX9_fewest_73 ⟨le_R hRc (Nat.le_refl 0), le_R hRs (Nat.le_refl 0)⟩) hS (fun r23 σ22 H locs hr1 hP hD hS => ?_)
                have hv := hv r23 σ22 hr1
                obtain ⟨P24, hv, hvr⟩ := hv
                have jn25 : ∀ (b26 : Int32) (H : Heap) (locs : List Loc) (ls : Array Slot), P24 b26 → va_P D vwCl (wR cy ad σ22) H → va_S A s.heap H locs → lv_has ls 7 [(0, .ref (ad 0)), (1, .int deed_), (2, .int season_), (4, .int (rdI σ0 2)), (5, .int x1), (6, .int x2)] → W p l e R s m ([.ref (ad 0), .int deed_, .int season_] : List Value).toArray below meth c H locs 0 0 Z (F0 m 86 ls [.int b26]) := by
                  intro b26 H locs ls hv hP hS hl
                  have hv := hvr b26 hv
                  refine lv_istore (lv' := [(5, .int b26), (0, .ref (ad 0)), (1, .int deed_), (2, .int season_), (4, .int (rdI σ0 2)), (6, .int x2)]) hx hb dX9_fewest_86 hl (by decide) rfl (fun ls hl => ?_)
                  refine lv_iinc (v := (x2 + 1)) (lv' := [(6, .int (x2 + 1)), (5, .int b26), (0, .ref (ad 0)), (1, .int deed_), (2, .int season_), (4, .int (rdI σ0 2))]) hx hb dX9_fewest_88 hl (k := 5) rfl rfl (by decide) rfl (fun ls hl => ?_)
                  refine lv_goto (tgt := 26) hx hb dX9_fewest_91 (by decide) ?_
                  exact ih26 b26 (x2 + 1) σ22 _ _ _ hv hP hD hS (lv_sub hl [2, 3, 4, 5, 1, 0] rfl)
                refine lv_if_eq (tgt := 84) hx hb dX9_fewest_76 (by decide) (fun c27 => ?_) (fun c27 => ?_)
                · have hv := hv.1 c27
                  refine lv_iload hx hb dX9_fewest_84 (lv_at hl 5 rfl) ?_
                  exact jn25 x2 _ _ _ hv hP hS hl
                · have hv := hv.2 c27
                  refine lv_iload hx hb dX9_fewest_79 (lv_at hl 4 rfl) ?_
                  refine lv_goto (tgt := 86) hx hb dX9_fewest_81 (by decide) ?_
                  exact jn25 x1 _ _ _ hv hP hS hl
    exact lp26 n26 (-9) 0 σ0 _ _ _ hv hP hD hS (lv_sub hl [4, 5, 6, 2, 1, 0] rfl)
  · have hv := hv.2 c32
    refine lv_iload_n hx hb dX9_fewest_11 rfl (lv_at hl 0 rfl) ?_
    rw [hZ]; rw [hQ] at hv
    exact W.iret (v := (fn_X9_refusedFor deed_ season_ σ0)) hx hb hr (fun t ht hW => ⟨⟨(fn_X9_refusedFor deed_ season_ σ0), σ0, rfl, hv, ⟨P_of ht hP, hD⟩⟩, hS.F ht⟩) hS.2.2 dX9_fewest_12
set_option maxHeartbeats 4000000 in
set_option maxRecDepth 100000 in
theorem wk_X9_longest (l : Launch) (h_X9_endOf : Ct_X9_endOf l) (h_X9_in : Ct_X9_in l) (h_X9_isSeason : Ct_X9_isSeason l) (sp : Sp_X9_longest) : Ct_X9_longest l := by
  intro D cy ad A season_ what_ ag σ0  hpre
  refine Met.ofW (cc := cX9_longest) (maxL := 7) (ret := (some .int)) (by decide) rfl ?_
  intro p e s m args below meth c s₁ B hml hv0
  obtain ⟨rfl, hP, hK, hD, hN⟩ := hv0
  have hx := B.exec
  have hb := B.bytes
  have hr := B.returns
  have hts := atoms_spec (ws := wsX9_longest) B.pre
  have hown : s.vm.findClass RX9 = some m.cls := findClass_of_methodNamed B.named
  have hlocks := B.notSynchronized
  have hv := sp season_ what_ ag σ0 hpre
  have hl := lv_entry ([.ref (ad 0), .int season_, .int what_]) (n := 7) (Nat.le_of_ble_eq_true rfl)
  rw [lg_entry_eq]
  generalize (lg_sl ([.ref (ad 0), .int season_, .int what_]) ++ List.replicate (7 - (lg_sl ([.ref (ad 0), .int season_, .int what_])).length) Slot.unset).toArray = ls at hl ⊢
  have hl : lv_has ls 7 [(0, .ref (ad 0)), (1, .int season_), (2, .int what_)] := hl
  refine W_gen (fun R Z H locs hR hZ hH hlo => ?_)
  have hRf : R.frames = 6 := by rw [hR]; rfl
  have hRl : R.locals = 139 := by rw [hR]; rfl
  have hRc : R.cells = 0 := by rw [hR]; rfl
  have hRs : R.slots = 0 := by rw [hR]; rfl
  have hS : va_S A s.heap H locs := by rw [hH, hlo]; exact va_S.rf
  rw [← hH] at hP
  obtain ⟨Q, hQ⟩ : ∃ q : Int32 → S_ → Prop, q = (post_X9_longest season_ what_ ag σ0) := ⟨_, rfl⟩
  rw [← hQ] at hv
  have hinX9 : ∀ w ∈ wsX90, w ∈ wsX9_longest := by decide +kernel
  refine lv_iload_n hx hb dX9_longest_0 rfl (lv_at hl 1 rfl) ?_
  refine k_pure_i (va_runS (As := [.int season_]) (rest := []) ⟨hx, hb, hml, hown, hts⟩ (h_X9_isSeason season_) (va_cwS 1 hts gX9_longest_X9_isSeason rfl rfl rfl (by decide +kernel) ⟨le_R hRf (Nat.le_of_ble_eq_true rfl), le_R hRl (Nat.le_of_ble_eq_true rfl)⟩) ⟨(fun a U g mk q => ⟨q.1, trivial⟩), (fun U hU hW => ⟨rfl, trivial⟩)⟩ rfl rfl hl.1 rfl (lv_room (Nat.le_of_ble_eq_true rfl)) dX9_longest_1 ⟨le_R hRc (Nat.le_refl 0), le_R hRs (Nat.le_refl 0)⟩) hS hP (fun r H locs hr1 hP hS => ?_)
  subst hr1
  refine lv_if_eq (tgt := 17) hx hb dX9_longest_4 (by decide) (fun c35 => ?_) (fun c35 => ?_)
  · have hv := hv.1 c35
    refine lv_bipush (v := (-2)) hx hb dX9_longest_17 (by decide) ?_
    rw [hZ]; rw [hQ] at hv
    exact W.iret (v := (-2)) hx hb hr (fun t ht hW => ⟨⟨(-2), σ0, rfl, hv, ⟨P_of ht hP, hD⟩⟩, hS.F ht⟩) hS.2.2 dX9_longest_19
  · have hv := hv.2 c35
    refine lv_iload_n hx hb dX9_longest_7 rfl (lv_at hl 2 rfl) ?_
    refine lv_i2l hx hb dX9_longest_8 rfl ?_
    refine lv_lconst (v := 0) hx hb dX9_longest_9 rfl ?_
    refine lv_lconst (v := 1) hx hb dX9_longest_10 rfl ?_
    refine k_pure_i (va_runS (As := [.long (Int32.toInt64 what_), .long 0, .long 1]) (rest := []) ⟨hx, hb, hml, hown, hts⟩ (h_X9_in (Int32.toInt64 what_) 0 1) (va_cwS 3 hts gX9_longest_X9_in rfl rfl rfl (by decide +kernel) ⟨le_R hRf (Nat.le_of_ble_eq_true rfl), le_R hRl (Nat.le_of_ble_eq_true rfl)⟩) ⟨(fun a U g mk q => ⟨q.1, trivial⟩), (fun U hU hW => ⟨rfl, trivial⟩)⟩ rfl rfl hl.1 rfl (lv_room (Nat.le_of_ble_eq_true rfl)) dX9_longest_11 ⟨le_R hRc (Nat.le_refl 0), le_R hRs (Nat.le_refl 0)⟩) hS hP (fun r H locs hr1 hP hS => ?_)
    subst hr1
    refine lv_if_ne (tgt := 20) hx hb dX9_longest_14 (by decide) (fun c34 => ?_) (fun c34 => ?_)
    · have hv := hv.1 c34
      refine lv_aload_n hx hb dX9_longest_20 rfl (lv_at hl 0 rfl) ?_
      refine va_get (ci := 9) (v := .int (rdI σ0 1)) (C := RX9) (T := TX9) (N := 38) hx hb hts hinX9 hown hK hP 0 (wR_0 cy ad σ0) rfl 1 (by decide) (hts (.fieldLink RX9 102 "TaleBansModel" "persons" "I") (List.mem_of_getElem? (i := 1) rfl)) (fun x h => h) rfl dX9_longest_21 ?_
      refine lv_if_ne (tgt := 30) hx hb dX9_longest_24 (by decide) (fun c33 => ?_) (fun c33 => ?_)
      · have hv := hv.1 c33
        refine lv_aload_n hx hb dX9_longest_30 rfl (lv_at hl 0 rfl) ?_
        refine va_get (ci := 9) (v := .int (rdI σ0 6)) (C := RX9) (T := TX9) (N := 38) hx hb hts hinX9 hown hK hP 0 (wR_0 cy ad σ0) rfl 12 (by decide) (hts (.fieldLink RX9 109 "TaleBansModel" "tales" "I") (List.mem_of_getElem? (i := 2) rfl)) (fun x h => h) rfl dX9_longest_31 ?_
        refine lv_bipush (v := 6) hx hb dX9_longest_34 (by decide) ?_
        refine lv_icmp_ne (tgt := 42) hx hb dX9_longest_36 (by decide) (fun c32 => ?_) (fun c32 => ?_)
        · have hv := hv.1 c32
          refine lv_bipush (v := (-9)) hx hb dX9_longest_42 (by decide) ?_
          refine lv_istore_n (lv' := [(3, .int (-9)), (0, .ref (ad 0)), (1, .int season_), (2, .int what_)]) hx hb dX9_longest_44 rfl hl (by decide) rfl (fun ls hl => ?_)
          refine lv_iconst (v := (-1)) hx hb dX9_longest_45 (by decide) ?_
          refine lv_istore (lv' := [(4, .int (-1)), (3, .int (-9)), (0, .ref (ad 0)), (1, .int season_), (2, .int what_)]) hx hb dX9_longest_46 hl (by decide) rfl (fun ls hl => ?_)
          refine lv_aload_n hx hb dX9_longest_48 rfl (lv_at hl 2 rfl) ?_
          refine lv_dup hx hb dX9_longest_49 rfl ?_
          refine va_get (ci := 9) (v := .int (rdI σ0 6)) (C := RX9) (T := TX9) (N := 38) hx hb hts hinX9 hown hK hP 0 (wR_0 cy ad σ0) rfl 12 (by decide) (hts (.fieldLink RX9 109 "TaleBansModel" "tales" "I") (List.mem_of_getElem? (i := 2) rfl)) (fun x h => h) rfl dX9_longest_50 ?_
          refine lv_iconst (v := 1) hx hb dX9_longest_53 (by decide) ?_
          refine lv_iadd hx hb dX9_longest_54 ?_
          refine va_put (ci := 9) (v := .int ((rdI σ0 6) + 1)) (ty := .int) (C := RX9) (T := TX9) (N := 38) hx hb hts hinX9 tyX9 tyX9_ok nmX9 hown hK hP hD hS 0 (wR_0 cy ad σ0) rfl 12 (by decide) (hts (.fieldLink RX9 109 "TaleBansModel" "tales" "I") (List.mem_of_getElem? (i := 2) rfl)) (fun x h => h) rfl (by decide +kernel) rfl rfl (Nat.le_of_ble_eq_true rfl) dX9_longest_55 (fun H locs hP hD hS => ?_)
          obtain ⟨σ1, e2⟩ : ∃ y : S_, y = wrI σ0 6 ((rdI σ0 6) + 1) := ⟨_, rfl⟩
          have hP : va_P D vwCl (wR cy ad σ1) H := by rw [e2]; exact hP
          have hD : va_D A (wR cy ad σ1) := by rw [e2]; exact hD
          have hv := hv σ1 e2
          refine lv_aload_n hx hb dX9_longest_58 rfl (lv_at hl 2 rfl) ?_
          refine va_get (ci := 9) (v := .ref (ad (7))) (C := RX9) (T := TX9) (N := 38) hx hb hts hinX9 hown hK hP 0 (wR_0 cy ad σ1) rfl 13 (by decide) (hts (.fieldLink RX9 28 "TaleBansModel" "taleDeed" "[I") (List.mem_of_getElem? (i := 3) rfl)) (fun x h => h) rfl dX9_longest_59 ?_
          refine lv_aload_n hx hb dX9_longest_62 rfl (lv_at hl 2 rfl) ?_
          refine va_get (ci := 9) (v := .int (rdI σ1 6)) (C := RX9) (T := TX9) (N := 38) hx hb hts hinX9 hown hK hP 0 (wR_0 cy ad σ1) rfl 12 (by decide) (hts (.fieldLink RX9 109 "TaleBansModel" "tales" "I") (List.mem_of_getElem? (i := 2) rfl)) (fun x h => h) rfl dX9_longest_63 ?_
          refine lv_iconst (v := 1) hx hb dX9_longest_66 (by decide) ?_
          refine lv_isub hx hb dX9_longest_67 ?_
          refine lv_iconst (v := 0) hx hb dX9_longest_68 (by decide) ?_
          obtain ⟨hi, hv⟩ := hv
          refine va_iast hx hb hK hP hD hS 7 0 (wR_7 cy ad σ1) rfl hi dX9_longest_69 (fun H locs hP hD hS => ?_)
          obtain ⟨σ3, e4⟩ : ∃ y : S_, y = wr2 σ1 7 (Int32.toNatClampNeg ((rdI σ1 6) - 1)) 0 := ⟨_, rfl⟩
          have hP : va_P D vwCl (wR cy ad σ3) H := by rw [e4]; exact hP
          have hD : va_D A (wR cy ad σ3) := by rw [e4]; exact hD
          have hv := hv σ3 e4
          refine lv_aload_n hx hb dX9_longest_70 rfl (lv_at hl 2 rfl) ?_
          refine va_get (ci := 9) (v := .ref (ad (9))) (C := RX9) (T := TX9) (N := 38) hx hb hts hinX9 hown hK hP 0 (wR_0 cy ad σ3) rfl 15 (by decide) (hts (.fieldLink RX9 34 "TaleBansModel" "taleIn" "[I") (List.mem_of_getElem? (i := 4) rfl)) (fun x h => h) rfl dX9_longest_71 ?_
          refine lv_aload_n hx hb dX9_longest_74 rfl (lv_at hl 2 rfl) ?_
          refine va_get (ci := 9) (v := .int (rdI σ3 6)) (C := RX9) (T := TX9) (N := 38) hx hb hts hinX9 hown hK hP 0 (wR_0 cy ad σ3) rfl 12 (by decide) (hts (.fieldLink RX9 109 "TaleBansModel" "tales" "I") (List.mem_of_getElem? (i := 2) rfl)) (fun x h => h) rfl dX9_longest_75 ?_
          refine lv_iconst (v := 1) hx hb dX9_longest_78 (by decide) ?_
          refine lv_isub hx hb dX9_longest_79 ?_
          refine lv_iload_n hx hb dX9_longest_80 rfl (lv_at hl 3 rfl) ?_
          obtain ⟨hi, hv⟩ := hv
          refine va_iast hx hb hK hP hD hS 9 0 (wR_9 cy ad σ3) rfl hi dX9_longest_81 (fun H locs hP hD hS => ?_)
          obtain ⟨σ5, e6⟩ : ∃ y : S_, y = wr2 σ3 9 (Int32.toNatClampNeg ((rdI σ3 6) - 1)) season_ := ⟨_, rfl⟩
          have hP : va_P D vwCl (wR cy ad σ5) H := by rw [e6]; exact hP
          have hD : va_D A (wR cy ad σ5) := by rw [e6]; exact hD
          have hv := hv σ5 e6
          refine lv_aload_n hx hb dX9_longest_82 rfl (lv_at hl 2 rfl) ?_
          refine va_get (ci := 9) (v := .ref (ad (10))) (C := RX9) (T := TX9) (N := 38) hx hb hts hinX9 hown hK hP 0 (wR_0 cy ad σ5) rfl 16 (by decide) (hts (.fieldLink RX9 37 "TaleBansModel" "isParody" "[Z") (List.mem_of_getElem? (i := 5) rfl)) (fun x h => h) rfl dX9_longest_83 ?_
          refine lv_aload_n hx hb dX9_longest_86 rfl (lv_at hl 2 rfl) ?_
          refine va_get (ci := 9) (v := .int (rdI σ5 6)) (C := RX9) (T := TX9) (N := 38) hx hb hts hinX9 hown hK hP 0 (wR_0 cy ad σ5) rfl 12 (by decide) (hts (.fieldLink RX9 109 "TaleBansModel" "tales" "I") (List.mem_of_getElem? (i := 2) rfl)) (fun x h => h) rfl dX9_longest_87 ?_
          refine lv_iconst (v := 1) hx hb dX9_longest_90 (by decide) ?_
          refine lv_isub hx hb dX9_longest_91 ?_
          refine lv_iconst (v := 0) hx hb dX9_longest_92 (by decide) ?_
          obtain ⟨hi, hv⟩ := hv
          refine va_zast hx hb hK hP hD hS 10 1 (wR_10 cy ad σ5) rfl hi dX9_longest_93 (fun H locs hP hD hS => ?_)
          obtain ⟨σ7, e8⟩ : ∃ y : S_, y = wr2 σ5 10 (Int32.toNatClampNeg ((rdI σ5 6) - 1)) (vp_nar .boolean 0) := ⟨_, rfl⟩
          have hP : va_P D vwCl (wR cy ad σ7) H := by rw [e8]; exact hP
          have hD : va_D A (wR cy ad σ7) := by rw [e8]; exact hD
          have hv := hv σ7 e8
          refine lv_iconst (v := 0) hx hb dX9_longest_94 (by decide) ?_
          refine lv_istore (lv' := [(5, .int 0), (4, .int (-1)), (3, .int (-9)), (0, .ref (ad 0)), (1, .int season_), (2, .int what_)]) hx hb dX9_longest_95 hl (by decide) rfl (fun ls hl => ?_)
          obtain ⟨n97, hv⟩ := hv
          have lp97 : ∀ (nn97 : Nat) (x9 : Int32) (x10 : Int32) (x11 : Int32) (σ12 : S_) (H : Heap) (locs : List Loc) (ls : Array Slot), vl_X9_longest_97 what_ Q nn97 x9 x10 x11 σ12 → va_P D vwCl (wR cy ad σ12) H → va_D A (wR cy ad σ12) → va_S A s.heap H locs → lv_has ls 7 [(0, .ref (ad 0)), (2, .int what_), (3, .int x9), (4, .int x10), (5, .int x11)] → W p l e R s m ([.ref (ad 0), .int season_, .int what_] : List Value).toArray  below meth c H locs 0 0 Z (F0 m 97 ls []) := by
            intro nn97
            induction nn97 with
            | zero => intro x9 x10 x11 σ12 H locs ls hv; exact absurd hv id
            | succ mm97 ih97 =>
              intro x9 x10 x11 σ12 H locs ls hv hP hD hS hl
              refine lv_iload hx hb dX9_longest_97 (lv_at hl 4 rfl) ?_
              refine lv_aload_n hx hb dX9_longest_99 rfl (lv_at hl 0 rfl) ?_
              refine va_get (ci := 9) (v := .int (rdI σ12 1)) (C := RX9) (T := TX9) (N := 38) hx hb hts hinX9 hown hK hP 0 (wR_0 cy ad σ12) rfl 1 (by decide) (hts (.fieldLink RX9 102 "TaleBansModel" "persons" "I") (List.mem_of_getElem? (i := 1) rfl)) (fun x h => h) rfl dX9_longest_100 ?_
              refine lv_icmp_ge (tgt := 167) hx hb dX9_longest_103 (by decide) (fun c31 => ?_) (fun c31 => ?_)
              · have hv := hv.1 c31
                refine lv_aload_n hx hb dX9_longest_167 rfl (lv_at hl 0 rfl) ?_
                refine lv_dup hx hb dX9_longest_168 rfl ?_
                refine va_get (ci := 9) (v := .int (rdI σ12 6)) (C := RX9) (T := TX9) (N := 38) hx hb hts hinX9 hown hK hP 0 (wR_0 cy ad σ12) rfl 12 (by decide) (hts (.fieldLink RX9 109 "TaleBansModel" "tales" "I") (List.mem_of_getElem? (i := 2) rfl)) (fun x h => h) rfl dX9_longest_169 ?_
                refine lv_iconst (v := 1) hx hb dX9_longest_172 (by decide) ?_
                refine lv_isub hx hb dX9_longest_173 ?_
                refine va_put (ci := 9) (v := .int ((rdI σ12 6) - 1)) (ty := .int) (C := RX9) (T := TX9) (N := 38) hx hb hts hinX9 tyX9 tyX9_ok nmX9 hown hK hP hD hS 0 (wR_0 cy ad σ12) rfl 12 (by decide) (hts (.fieldLink RX9 109 "TaleBansModel" "tales" "I") (List.mem_of_getElem? (i := 2) rfl)) (fun x h => h) rfl (by decide +kernel) rfl rfl (Nat.le_of_ble_eq_true rfl) dX9_longest_174 (fun H locs hP hD hS => ?_)
                obtain ⟨σ13, e14⟩ : ∃ y : S_, y = wrI σ12 6 ((rdI σ12 6) - 1) := ⟨_, rfl⟩
                have hP : va_P D vwCl (wR cy ad σ13) H := by rw [e14]; exact hP
                have hD : va_D A (wR cy ad σ13) := by rw [e14]; exact hD
                have hv := hv σ13 e14
                refine lv_iload_n hx hb dX9_longest_177 rfl (lv_at hl 1 rfl) ?_
                refine lv_if_ne (tgt := 185) hx hb dX9_longest_178 (by decide) (fun c16 => ?_) (fun c16 => ?_)
                · have hv := hv.1 c16
                  refine lv_iload hx hb dX9_longest_185 (lv_at hl 3 rfl) ?_
                  refine lv_bipush (v := 99) hx hb dX9_longest_187 (by decide) ?_
                  refine lv_icmp_ne (tgt := 197) hx hb dX9_longest_189 (by decide) (fun c15 => ?_) (fun c15 => ?_)
                  · have hv := hv.1 c15
                    refine lv_iload hx hb dX9_longest_197 (lv_at hl 3 rfl) ?_
                    rw [hZ]; rw [hQ] at hv
                    exact W.iret (v := x10) hx hb hr (fun t ht hW => ⟨⟨x10, σ13, rfl, hv, ⟨P_of ht hP, hD⟩⟩, hS.F ht⟩) hS.2.2 dX9_longest_199
                  · have hv := hv.2 c15
                    refine lv_bipush (v := (-9)) hx hb dX9_longest_192 (by decide) ?_
                    refine lv_goto (tgt := 199) hx hb dX9_longest_194 (by decide) ?_
                    rw [hZ]; rw [hQ] at hv
                    exact W.iret (v := (-9)) hx hb hr (fun t ht hW => ⟨⟨(-9), σ13, rfl, hv, ⟨P_of ht hP, hD⟩⟩, hS.F ht⟩) hS.2.2 dX9_longest_199
                · have hv := hv.2 c16
                  refine lv_iload_n hx hb dX9_longest_181 rfl (lv_at hl 2 rfl) ?_
                  refine lv_goto (tgt := 199) hx hb dX9_longest_182 (by decide) ?_
                  rw [hZ]; rw [hQ] at hv
                  exact W.iret (v := x9) hx hb hr (fun t ht hW => ⟨⟨x9, σ13, rfl, hv, ⟨P_of ht hP, hD⟩⟩, hS.F ht⟩) hS.2.2 dX9_longest_199
              · have hv := hv.2 c31
                refine lv_aload_n hx hb dX9_longest_106 rfl (lv_at hl 0 rfl) ?_
                refine va_get (ci := 9) (v := .ref (ad (8))) (C := RX9) (T := TX9) (N := 38) hx hb hts hinX9 hown hK hP 0 (wR_0 cy ad σ12) rfl 14 (by decide) (hts (.fieldLink RX9 31 "TaleBansModel" "taleTo" "[I") (List.mem_of_getElem? (i := 6) rfl)) (fun x h => h) rfl dX9_longest_107 ?_
                refine lv_aload_n hx hb dX9_longest_110 rfl (lv_at hl 0 rfl) ?_
                refine va_get (ci := 9) (v := .int (rdI σ12 6)) (C := RX9) (T := TX9) (N := 38) hx hb hts hinX9 hown hK hP 0 (wR_0 cy ad σ12) rfl 12 (by decide) (hts (.fieldLink RX9 109 "TaleBansModel" "tales" "I") (List.mem_of_getElem? (i := 2) rfl)) (fun x h => h) rfl dX9_longest_111 ?_
                refine lv_iconst (v := 1) hx hb dX9_longest_114 (by decide) ?_
                refine lv_isub hx hb dX9_longest_115 ?_
                refine lv_iload hx hb dX9_longest_116 (lv_at hl 4 rfl) ?_
                obtain ⟨hi, hv⟩ := hv
                refine va_iast hx hb hK hP hD hS 8 0 (wR_8 cy ad σ12) rfl hi dX9_longest_118 (fun H locs hP hD hS => ?_)
                obtain ⟨σ17, e18⟩ : ∃ y : S_, y = wr2 σ12 8 (Int32.toNatClampNeg ((rdI σ12 6) - 1)) x11 := ⟨_, rfl⟩
                have hP : va_P D vwCl (wR cy ad σ17) H := by rw [e18]; exact hP
                have hD : va_D A (wR cy ad σ17) := by rw [e18]; exact hD
                have hv := hv σ17 e18
                refine lv_aload_n hx hb dX9_longest_119 rfl (lv_at hl 0 rfl) ?_
                refine lv_aload_n hx hb dX9_longest_120 rfl (lv_at hl 0 rfl) ?_
                refine va_get (ci := 9) (v := .int (rdI σ17 6)) (C := RX9) (T := TX9) (N := 38) hx hb hts hinX9 hown hK hP 0 (wR_0 cy ad σ17) rfl 12 (by decide) (hts (.fieldLink RX9 109 "TaleBansModel" "tales" "I") (List.mem_of_getElem? (i := 2) rfl)) (fun x h => h) rfl dX9_longest_121 ?_
                refine lv_iconst (v := 1) hx hb dX9_longest_124 (by decide) ?_
                refine lv_isub hx hb dX9_longest_125 ?_
                obtain ⟨g19, g20, hv⟩ := hv
                obtain ⟨hp, hv⟩ := hv
                refine k_rel_i (w := wR cy ad) (va_runV (As := [.int ((rdI σ17 6) - 1)]) (rest := []) ⟨hx, hb, hml, hown, hts⟩ (h_X9_endOf D cy ad A ((rdI σ17 6) - 1) g19 g20 σ17 hp) (cwV 1 hts gX9_longest_X9_endOf rfl rfl rfl (by decide +kernel) ⟨le_R hRf (Nat.le_of_ble_eq_true rfl), le_R hRl (Nat.le_of_ble_eq_true rfl)⟩) ⟨(fun a U g mk q => ⟨q.1, q.2.blind⟩), va_recv hK hP (ci := 9) (q0 := 0) rfl (wR_0 cy ad σ17), (fun U hU hW => ⟨rfl, WdR.pre hP hK hD hN hU hW⟩)⟩ rfl rfl hl.1 rfl (lv_room (Nat.le_of_ble_eq_true rfl)) dX9_longest_126 ⟨le_R hRc (Nat.le_refl 0), le_R hRs (Nat.le_refl 0)⟩) hS (fun r22 σ21 H locs hr1 hP hD hS => ?_)
                have hv := hv r22 σ21 hr1
                refine lv_istore (lv' := [(6, .int r22), (0, .ref (ad 0)), (2, .int what_), (3, .int x9), (4, .int x10), (5, .int x11)]) hx hb dX9_longest_129 hl (by decide) rfl (fun ls hl => ?_)
                refine lv_iload hx hb dX9_longest_131 (lv_at hl 0 rfl) ?_
                refine lv_iload hx hb dX9_longest_133 (lv_at hl 4 rfl) ?_
                obtain ⟨P23, hv, hvr⟩ := hv
                have jn24 : ∀ (b25 : Int32) (H : Heap) (locs : List Loc) (ls : Array Slot), P23 b25 → va_P D vwCl (wR cy ad σ21) H → va_S A s.heap H locs → lv_has ls 7 [(6, .int r22), (0, .ref (ad 0)), (2, .int what_), (3, .int x9), (4, .int x10), (5, .int x11)] → W p l e R s m ([.ref (ad 0), .int season_, .int what_] : List Value).toArray below meth c H locs 0 0 Z (F0 m 144 ls [.int b25]) := by
                  intro b25 H locs ls hv hP hS hl
                  have hv := hvr b25 hv
                  refine lv_istore_n (lv' := [(3, .int b25), (6, .int r22), (0, .ref (ad 0)), (2, .int what_), (4, .int x10), (5, .int x11)]) hx hb dX9_longest_144 rfl hl (by decide) rfl (fun ls hl => ?_)
                  refine lv_iload hx hb dX9_longest_145 (lv_at hl 1 rfl) ?_
                  refine lv_iload hx hb dX9_longest_147 (lv_at hl 4 rfl) ?_
                  obtain ⟨P27, hv, hvr⟩ := hv
                  have jn28 : ∀ (b29 : Int32) (H : Heap) (locs : List Loc) (ls : Array Slot), P27 b29 → va_P D vwCl (wR cy ad σ21) H → va_S A s.heap H locs → lv_has ls 7 [(3, .int b25), (6, .int r22), (0, .ref (ad 0)), (2, .int what_), (4, .int x10), (5, .int x11)] → W p l e R s m ([.ref (ad 0), .int season_, .int what_] : List Value).toArray below meth c H locs 0 0 Z (F0 m 159 ls [.int b29]) := by
                    intro b29 H locs ls hv hP hS hl
                    have hv := hvr b29 hv
                    refine lv_istore (lv' := [(4, .int b29), (3, .int b25), (6, .int r22), (0, .ref (ad 0)), (2, .int what_), (5, .int x11)]) hx hb dX9_longest_159 hl (by decide) rfl (fun ls hl => ?_)
                    refine lv_iinc (v := (x11 + 1)) (lv' := [(5, .int (x11 + 1)), (4, .int b29), (3, .int b25), (6, .int r22), (0, .ref (ad 0)), (2, .int what_)]) hx hb dX9_longest_161 hl (k := 5) rfl rfl (by decide) rfl (fun ls hl => ?_)
                    refine lv_goto (tgt := 97) hx hb dX9_longest_164 (by decide) ?_
                    exact ih97 b25 b29 (x11 + 1) σ21 _ _ _ hv hP hD hS (lv_sub hl [4, 5, 2, 1, 0] rfl)
                  refine lv_icmp_le (tgt := 157) hx hb dX9_longest_149 (by decide) (fun c30 => ?_) (fun c30 => ?_)
                  · have hv := hv.1 c30
                    refine lv_iload hx hb dX9_longest_157 (lv_at hl 4 rfl) ?_
                    exact jn28 x10 _ _ _ hv hP hS hl
                  · have hv := hv.2 c30
                    refine lv_iload hx hb dX9_longest_152 (lv_at hl 1 rfl) ?_
                    refine lv_goto (tgt := 159) hx hb dX9_longest_154 (by decide) ?_
                    exact jn28 r22 _ _ _ hv hP hS hl
                refine lv_icmp_le (tgt := 143) hx hb dX9_longest_135 (by decide) (fun c26 => ?_) (fun c26 => ?_)
                · have hv := hv.1 c26
                  refine lv_iload_n hx hb dX9_longest_143 rfl (lv_at hl 3 rfl) ?_
                  exact jn24 x9 _ _ _ hv hP hS hl
                · have hv := hv.2 c26
                  refine lv_iload hx hb dX9_longest_138 (lv_at hl 5 rfl) ?_
                  refine lv_goto (tgt := 144) hx hb dX9_longest_140 (by decide) ?_
                  exact jn24 x11 _ _ _ hv hP hS hl
          exact lp97 n97 (-9) (-1) 0 σ7 _ _ _ hv hP hD hS (lv_sub hl [3, 5, 2, 1, 0] rfl)
        · have hv := hv.2 c32
          refine lv_bipush (v := (-4)) hx hb dX9_longest_39 (by decide) ?_
          rw [hZ]; rw [hQ] at hv
          exact W.iret (v := (-4)) hx hb hr (fun t ht hW => ⟨⟨(-4), σ0, rfl, hv, ⟨P_of ht hP, hD⟩⟩, hS.F ht⟩) hS.2.2 dX9_longest_41
      · have hv := hv.2 c33
        refine lv_bipush (v := (-3)) hx hb dX9_longest_27 (by decide) ?_
        rw [hZ]; rw [hQ] at hv
        exact W.iret (v := (-3)) hx hb hr (fun t ht hW => ⟨⟨(-3), σ0, rfl, hv, ⟨P_of ht hP, hD⟩⟩, hS.F ht⟩) hS.2.2 dX9_longest_29
    · have hv := hv.2 c34
      refine lv_bipush (v := (-2)) hx hb dX9_longest_17 (by decide) ?_
      rw [hZ]; rw [hQ] at hv
      exact W.iret (v := (-2)) hx hb hr (fun t ht hW => ⟨⟨(-2), σ0, rfl, hv, ⟨P_of ht hP, hD⟩⟩, hS.F ht⟩) hS.2.2 dX9_longest_19
