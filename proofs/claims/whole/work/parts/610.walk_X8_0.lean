set_option maxHeartbeats 4000000 in
set_option maxRecDepth 100000 in
theorem wk_X8_isOneOf (l : Launch) (sp : Sp_X8_isOneOf) : Ct_X8_isOneOf l := by
  intro x_ n_
  refine Met.ofW (cc := cX8_isOneOf) (maxL := 2) (ret := (some .boolean)) (by decide) rfl ?_
  intro p e s m args below meth c s₁ B hml hv0
  obtain ⟨rfl, -⟩ := hv0
  have hx := B.exec
  have hb := B.bytes
  have hr := B.returns
  have hts := atoms_spec (ws := wsX8_isOneOf) B.pre
  have hown : s.vm.findClass RX8 = some m.cls := findClass_of_methodNamed B.named
  have hlocks := B.notSynchronized
  have hv := sp x_ n_
  have hl := lv_entry ([.int x_, .int n_]) (n := 2) (Nat.le_of_ble_eq_true rfl)
  rw [lg_entry_eq]
  generalize (lg_sl ([.int x_, .int n_]) ++ List.replicate (2 - (lg_sl ([.int x_, .int n_])).length) Slot.unset).toArray = ls at hl ⊢
  have hl : lv_has ls 2 [(0, .int x_), (1, .int n_)] := hl
  refine W_gen (fun R Z H locs hR hZ hH hlo => ?_)
  have hRf : R.frames = 0 := by rw [hR]; rfl
  have hRl : R.locals = 0 := by rw [hR]; rfl
  have hRc : R.cells = 0 := by rw [hR]; rfl
  have hRs : R.slots = 0 := by rw [hR]; rfl
  have hS : va_S (fun _ => False) s.heap H locs := by rw [hH, hlo]; exact va_S.rf
  obtain ⟨Q, hQ⟩ : ∃ q : Int32 → Prop, q = (fun r => r = fn_X8_isOneOf x_ n_) := ⟨_, rfl⟩
  rw [← hQ] at hv
  refine lv_iload_n hx hb dX8_isOneOf_0 rfl (lv_at hl 0 rfl) ?_
  refine lv_if_lt (tgt := 13) hx hb dX8_isOneOf_1 (by decide) (fun c2 => ?_) (fun c2 => ?_)
  · have hv := hv.1 c2
    refine lv_iconst (v := 0) hx hb dX8_isOneOf_13 (by decide) ?_
    rw [hZ]; rw [hQ] at hv
    exact W.zret (v := 0) hx hb hr rfl (fun t ht hW => ⟨⟨0, (), rfl, hv, trivial⟩, hS.F ht⟩) hS.2.2 dX8_isOneOf_14
  · have hv := hv.2 c2
    refine lv_iload_n hx hb dX8_isOneOf_4 rfl (lv_at hl 0 rfl) ?_
    refine lv_iload_n hx hb dX8_isOneOf_5 rfl (lv_at hl 1 rfl) ?_
    refine lv_icmp_ge (tgt := 13) hx hb dX8_isOneOf_6 (by decide) (fun c1 => ?_) (fun c1 => ?_)
    · have hv := hv.1 c1
      refine lv_iconst (v := 0) hx hb dX8_isOneOf_13 (by decide) ?_
      rw [hZ]; rw [hQ] at hv
      exact W.zret (v := 0) hx hb hr rfl (fun t ht hW => ⟨⟨0, (), rfl, hv, trivial⟩, hS.F ht⟩) hS.2.2 dX8_isOneOf_14
    · have hv := hv.2 c1
      refine lv_iconst (v := 1) hx hb dX8_isOneOf_9 (by decide) ?_
      refine lv_goto (tgt := 14) hx hb dX8_isOneOf_10 (by decide) ?_
      rw [hZ]; rw [hQ] at hv
      exact W.zret (v := 1) hx hb hr rfl (fun t ht hW => ⟨⟨1, (), rfl, hv, trivial⟩, hS.F ht⟩) hS.2.2 dX8_isOneOf_14
set_option maxHeartbeats 4000000 in
set_option maxRecDepth 100000 in
theorem wk_X8_isIn (l : Launch) (sp : Sp_X8_isIn) : Ct_X8_isIn l := by
  intro k_ set_
  refine Met.ofW (cc := cX8_isIn) (maxL := 2) (ret := (some .boolean)) (by decide) rfl ?_
  intro p e s m args below meth c s₁ B hml hv0
  obtain ⟨rfl, -⟩ := hv0
  have hx := B.exec
  have hb := B.bytes
  have hr := B.returns
  have hts := atoms_spec (ws := wsX8_isIn) B.pre
  have hown : s.vm.findClass RX8 = some m.cls := findClass_of_methodNamed B.named
  have hlocks := B.notSynchronized
  have hv := sp k_ set_
  have hl := lv_entry ([.int k_, .int set_]) (n := 2) (Nat.le_of_ble_eq_true rfl)
  rw [lg_entry_eq]
  generalize (lg_sl ([.int k_, .int set_]) ++ List.replicate (2 - (lg_sl ([.int k_, .int set_])).length) Slot.unset).toArray = ls at hl ⊢
  have hl : lv_has ls 2 [(0, .int k_), (1, .int set_)] := hl
  refine W_gen (fun R Z H locs hR hZ hH hlo => ?_)
  have hRf : R.frames = 0 := by rw [hR]; rfl
  have hRl : R.locals = 0 := by rw [hR]; rfl
  have hRc : R.cells = 0 := by rw [hR]; rfl
  have hRs : R.slots = 0 := by rw [hR]; rfl
  have hS : va_S (fun _ => False) s.heap H locs := by rw [hH, hlo]; exact va_S.rf
  obtain ⟨Q, hQ⟩ : ∃ q : Int32 → Prop, q = (fun r => r = fn_X8_isIn k_ set_) := ⟨_, rfl⟩
  rw [← hQ] at hv
  refine lv_iload_n hx hb dX8_isIn_0 rfl (lv_at hl 1 rfl) ?_
  refine lv_iload_n hx hb dX8_isIn_1 rfl (lv_at hl 0 rfl) ?_
  refine lv_ishr hx hb dX8_isIn_2 ?_
  refine lv_iconst (v := 1) hx hb dX8_isIn_3 (by decide) ?_
  refine lv_iand hx hb dX8_isIn_4 ?_
  refine lv_iconst (v := 1) hx hb dX8_isIn_5 (by decide) ?_
  refine lv_icmp_ne (tgt := 13) hx hb dX8_isIn_6 (by decide) (fun c1 => ?_) (fun c1 => ?_)
  · have hv := hv.1 c1
    refine lv_iconst (v := 0) hx hb dX8_isIn_13 (by decide) ?_
    rw [hZ]; rw [hQ] at hv
    exact W.zret (v := 0) hx hb hr rfl (fun t ht hW => ⟨⟨0, (), rfl, hv, trivial⟩, hS.F ht⟩) hS.2.2 dX8_isIn_14
  · have hv := hv.2 c1
    refine lv_iconst (v := 1) hx hb dX8_isIn_9 (by decide) ?_
    refine lv_goto (tgt := 14) hx hb dX8_isIn_10 (by decide) ?_
    rw [hZ]; rw [hQ] at hv
    exact W.zret (v := 1) hx hb hr rfl (fun t ht hW => ⟨⟨1, (), rfl, hv, trivial⟩, hS.F ht⟩) hS.2.2 dX8_isIn_14
set_option maxHeartbeats 4000000 in
set_option maxRecDepth 100000 in
theorem wk_X8_refusal (l : Launch) (h_X6_isEmpty : Ct_X6_isEmpty l) (sp : Sp_X8_refusal) : Ct_X8_refusal l := by
  intro D cy ad A known_ inside_  σ0  hpre
  refine Met.ofW (cc := cX8_refusal) (maxL := 3) (ret := (some .int)) (by decide) rfl ?_
  intro p e s m args below meth c s₁ B hml hv0
  obtain ⟨rfl, hP, hK, hD, hN⟩ := hv0
  have hx := B.exec
  have hb := B.bytes
  have hr := B.returns
  have hts := atoms_spec (ws := wsX8_refusal) B.pre
  have hown : s.vm.findClass RX8 = some m.cls := findClass_of_methodNamed B.named
  have hlocks := B.notSynchronized
  have hv := sp known_ inside_  σ0 hpre
  have hl := lv_entry ([.ref (ad 0), .int known_, .int inside_]) (n := 3) (Nat.le_of_ble_eq_true rfl)
  rw [lg_entry_eq]
  generalize (lg_sl ([.ref (ad 0), .int known_, .int inside_]) ++ List.replicate (3 - (lg_sl ([.ref (ad 0), .int known_, .int inside_])).length) Slot.unset).toArray = ls at hl ⊢
  have hl : lv_has ls 3 [(0, .ref (ad 0)), (1, .int known_), (2, .int inside_)] := hl
  refine W_gen (fun R Z H locs hR hZ hH hlo => ?_)
  have hRf : R.frames = 1 := by rw [hR]; rfl
  have hRl : R.locals = 20 := by rw [hR]; rfl
  have hRc : R.cells = 0 := by rw [hR]; rfl
  have hRs : R.slots = 0 := by rw [hR]; rfl
  have hS : va_S A s.heap H locs := by rw [hH, hlo]; exact va_S.rf
  rw [← hH] at hP
  obtain ⟨Q, hQ⟩ : ∃ q : Int32 → Prop, q = (fun r => r = fn_X8_refusal known_ inside_ σ0) := ⟨_, rfl⟩
  rw [← hQ] at hv
  have hinX8 : ∀ w ∈ wsX80, w ∈ wsX8_refusal := by decide +kernel
  refine lv_iload_n hx hb dX8_refusal_0 rfl (lv_at hl 1 rfl) ?_
  refine lv_if_ne (tgt := 6) hx hb dX8_refusal_1 (by decide) (fun c3 => ?_) (fun c3 => ?_)
  · have hv := hv.1 c3
    refine lv_iload_n hx hb dX8_refusal_6 rfl (lv_at hl 2 rfl) ?_
    refine lv_if_ne (tgt := 13) hx hb dX8_refusal_7 (by decide) (fun c2 => ?_) (fun c2 => ?_)
    · have hv := hv.1 c2
      refine lv_aload_n hx hb dX8_refusal_13 rfl (lv_at hl 0 rfl) ?_
      refine va_get (ci := 8) (v := .ref (ad 11)) (C := RX8) (T := TX8) (N := 5) hx hb hts hinX8 hown hK hP 0 (wC_0 cy ad σ0) rfl 2 (by decide) (hts (.fieldLink RX8 27 "TaleBans" "land" "LTaleBans$Steppe;") (List.mem_of_getElem? (i := 1) rfl)) (fun x h => h) rfl dX8_refusal_14 ?_
      have hp := True.intro
      refine k_read_i (w := wC cy ad) (va_runVN (As := []) (rest := []) ⟨hx, hb, hml, hown, hts⟩ (h_X6_isEmpty D cy ad A σ0 hp) ⟨va_cnB 0 hts gX8_refusal_X6_isEmpty_n124 rfl rfl rfl (nwm_37 hN) (hts (.initialized RX6) (List.mem_of_getElem? (i := 3) rfl)) (by decide +kernel) ⟨le_R hRf (Nat.le_of_ble_eq_true rfl), le_R hRl (Nat.le_of_ble_eq_true rfl)⟩, (hts (.instanceMethod yX6_isEmpty) (List.mem_of_getElem? (i := 2) rfl)), (hts (.selects RX6 yX6_isEmpty yX6_isEmpty) (List.mem_of_getElem? (i := 4) rfl))⟩ ⟨(fun a U g mk q => ⟨q.1, q.2.blind⟩), va_recv hK hP (ci := 6) (q0 := 11) rfl (wC_11 cy ad σ0), (fun U hU hW => ⟨rfl, WdC.pre hP hK hD hN hU hW⟩)⟩ rfl rfl hl.1 rfl (lv_room (Nat.le_of_ble_eq_true rfl)) dX8_refusal_17 ⟨le_R hRc (Nat.le_refl 0), le_R hRs (Nat.le_refl 0)⟩) hS (fun r H locs hr1 hP hS => ?_)
      subst hr1
      refine lv_if_eq (tgt := 28) hx hb dX8_refusal_20 (by decide) (fun c1 => ?_) (fun c1 => ?_)
      · have hv := hv.1 c1
        refine lv_iconst (v := 0) hx hb dX8_refusal_28 (by decide) ?_
        rw [hZ]; rw [hQ] at hv
        exact W.iret (v := 0) hx hb hr (fun t ht hW => ⟨⟨0, (), rfl, hv, (P_of ht hP)⟩, hS.F ht⟩) hS.2.2 dX8_refusal_29
      · have hv := hv.2 c1
        refine lv_bipush (v := (-3)) hx hb dX8_refusal_23 (by decide) ?_
        refine lv_goto (tgt := 29) hx hb dX8_refusal_25 (by decide) ?_
        rw [hZ]; rw [hQ] at hv
        exact W.iret (v := (-3)) hx hb hr (fun t ht hW => ⟨⟨(-3), (), rfl, hv, (P_of ht hP)⟩, hS.F ht⟩) hS.2.2 dX8_refusal_29
    · have hv := hv.2 c2
      refine lv_bipush (v := (-2)) hx hb dX8_refusal_10 (by decide) ?_
      rw [hZ]; rw [hQ] at hv
      exact W.iret (v := (-2)) hx hb hr (fun t ht hW => ⟨⟨(-2), (), rfl, hv, (P_of ht hP)⟩, hS.F ht⟩) hS.2.2 dX8_refusal_12
  · have hv := hv.2 c3
    refine lv_iconst (v := (-1)) hx hb dX8_refusal_4 (by decide) ?_
    rw [hZ]; rw [hQ] at hv
    exact W.iret (v := (-1)) hx hb hr (fun t ht hW => ⟨⟨(-1), (), rfl, hv, (P_of ht hP)⟩, hS.F ht⟩) hS.2.2 dX8_refusal_5
set_option maxHeartbeats 4000000 in
set_option maxRecDepth 100000 in
theorem wk_X8_sheetAt (l : Launch) (h_X8_isOneOf : Ct_X8_isOneOf l) (sp : Sp_X8_sheetAt) : Ct_X8_sheetAt l := by
  intro D cy ad A k_  σ0  hpre
  refine Met.ofW (cc := cX8_sheetAt) (maxL := 2) (ret := (some (.object "TaleBans$Sheet"))) (by decide) rfl ?_
  intro p e s m args below meth c s₁ B hml hv0
  obtain ⟨rfl, hP, hK, hD, hN⟩ := hv0
  have hx := B.exec
  have hb := B.bytes
  have hr := B.returns
  have hts := atoms_spec (ws := wsX8_sheetAt) B.pre
  have hown : s.vm.findClass RX8 = some m.cls := findClass_of_methodNamed B.named
  have hlocks := B.notSynchronized
  have hv := sp k_  σ0 hpre
  have hl := lv_entry ([.ref (ad 0), .int k_]) (n := 2) (Nat.le_of_ble_eq_true rfl)
  rw [lg_entry_eq]
  generalize (lg_sl ([.ref (ad 0), .int k_]) ++ List.replicate (2 - (lg_sl ([.ref (ad 0), .int k_])).length) Slot.unset).toArray = ls at hl ⊢
  have hl : lv_has ls 2 [(0, .ref (ad 0)), (1, .int k_)] := hl
  refine W_gen (fun R Z H locs hR hZ hH hlo => ?_)
  have hRf : R.frames = 1 := by rw [hR]; rfl
  have hRl : R.locals = 21 := by rw [hR]; rfl
  have hRc : R.cells = 0 := by rw [hR]; rfl
  have hRs : R.slots = 0 := by rw [hR]; rfl
  have hS : va_S A s.heap H locs := by rw [hH, hlo]; exact va_S.rf
  rw [← hH] at hP
  obtain ⟨Q, hQ⟩ : ∃ q : Option Nat → Prop, q = (fun r => r = fn_X8_sheetAt k_ σ0) := ⟨_, rfl⟩
  rw [← hQ] at hv
  have hinX8 : ∀ w ∈ wsX80, w ∈ wsX8_sheetAt := by decide +kernel
  refine lv_iload_n hx hb dX8_sheetAt_0 rfl (lv_at hl 1 rfl) ?_
  refine lv_iconst (v := 4) hx hb dX8_sheetAt_1 (by decide) ?_
  refine k_pure_i (va_runS (As := [.int k_, .int 4]) (rest := []) ⟨hx, hb, hml, hown, hts⟩ (h_X8_isOneOf k_ 4) (va_cwS 2 hts gX8_sheetAt_X8_isOneOf rfl rfl rfl (by decide +kernel) ⟨le_R hRf (Nat.le_of_ble_eq_true rfl), le_R hRl (Nat.le_of_ble_eq_true rfl)⟩) ⟨(fun a U g mk q => ⟨q.1, trivial⟩), (fun U hU hW => ⟨rfl, trivial⟩)⟩ rfl rfl hl.1 rfl (lv_room (Nat.le_of_ble_eq_true rfl)) dX8_sheetAt_2 ⟨le_R hRc (Nat.le_refl 0), le_R hRs (Nat.le_refl 0)⟩) hS hP (fun r H locs hr1 hP hS => ?_)
  subst hr1
  refine lv_if_eq (tgt := 17) hx hb dX8_sheetAt_5 (by decide) (fun c1 => ?_) (fun c1 => ?_)
  · have hv := hv.1 c1
    refine lv_null hx hb dX8_sheetAt_17 ?_
    rw [hZ]; rw [hQ] at hv
    exact W.aret (v := .null) hx hb hr (Or.inl ⟨_, rfl⟩) (Or.inl rfl) (fun t ht hW => ⟨⟨none, (), rfl, hv, (P_of ht hP)⟩, hS.F ht⟩) hS.2.2 dX8_sheetAt_18
  · have hv := hv.2 c1
    refine lv_aload_n hx hb dX8_sheetAt_8 rfl (lv_at hl 0 rfl) ?_
    refine va_get (ci := 8) (v := .ref (ad 1)) (C := RX8) (T := TX8) (N := 5) hx hb hts hinX8 hown hK hP 0 (wC_0 cy ad σ0) rfl 0 (by decide) (hts (.fieldLink RX8 13 "TaleBans" "sheets" "[LTaleBans$Sheet;") (List.mem_of_getElem? (i := 1) rfl)) (fun x h => h) rfl dX8_sheetAt_9 ?_
    refine lv_iload_n hx hb dX8_sheetAt_12 rfl (lv_at hl 1 rfl) ?_
    obtain ⟨hi, hv⟩ := hv
    refine va_aldq hx hb hK hP 1 2 (wC_1 cy ad σ0) rfl hi dX8_sheetAt_13 ?_
    refine W_top (v' := .ref (ad (2 + 2 * (Int32.toNatClampNeg k_)))) rfl ?_
    refine lv_goto (tgt := 18) hx hb dX8_sheetAt_14 (by decide) ?_
    rw [hZ]; rw [hQ] at hv
    exact W.aret (v := .ref (ad (2 + 2 * (Int32.toNatClampNeg k_)))) hx hb hr (Or.inl ⟨_, rfl⟩) (Or.inr ⟨_, rfl⟩) (fun t ht hW => ⟨⟨some (Int32.toNatClampNeg k_), (), rfl, hv, (P_of ht hP)⟩, hS.F ht⟩) hS.2.2 dX8_sheetAt_18
set_option maxHeartbeats 4000000 in
set_option maxRecDepth 100000 in
theorem wk_X8_faulted (l : Launch) (sp : Sp_X8_faulted) : Ct_X8_faulted l := by
  intro D cy ad A f_  σ0  hpre
  refine Met.ofW (cc := cX8_faulted) (maxL := 2) (ret := (some .int)) (by decide) rfl ?_
  intro p e s m args below meth c s₁ B hml hv0
  obtain ⟨rfl, hP, hK, hD, hN⟩ := hv0
  have hx := B.exec
  have hb := B.bytes
  have hr := B.returns
  have hts := atoms_spec (ws := wsX8_faulted) B.pre
  have hown : s.vm.findClass RX8 = some m.cls := findClass_of_methodNamed B.named
  have hlocks := B.notSynchronized
  have hv := sp f_  σ0 hpre
  have hl := lv_entry ([.ref (ad 0), .int f_]) (n := 2) (Nat.le_of_ble_eq_true rfl)
  rw [lg_entry_eq]
  generalize (lg_sl ([.ref (ad 0), .int f_]) ++ List.replicate (2 - (lg_sl ([.ref (ad 0), .int f_])).length) Slot.unset).toArray = ls at hl ⊢
  have hl : lv_has ls 2 [(0, .ref (ad 0)), (1, .int f_)] := hl
  refine W_gen (fun R Z H locs hR hZ hH hlo => ?_)
  have hRf : R.frames = 0 := by rw [hR]; rfl
  have hRl : R.locals = 0 := by rw [hR]; rfl
  have hRc : R.cells = 0 := by rw [hR]; rfl
  have hRs : R.slots = 0 := by rw [hR]; rfl
  have hS : va_S A s.heap H locs := by rw [hH, hlo]; exact va_S.rf
  rw [← hH] at hP
  obtain ⟨Q, hQ⟩ : ∃ q : Int32 → S_ → Prop, q = (post_X8_faulted f_  σ0) := ⟨_, rfl⟩
  rw [← hQ] at hv
  have hinX8 : ∀ w ∈ wsX80, w ∈ wsX8_faulted := by decide +kernel
  refine lv_aload_n hx hb dX8_faulted_0 rfl (lv_at hl 0 rfl) ?_
  refine lv_iload_n hx hb dX8_faulted_1 rfl (lv_at hl 1 rfl) ?_
  refine va_put (ci := 8) (v := .int f_) (ty := .int) (C := RX8) (T := TX8) (N := 5) hx hb hts hinX8 tyX8 tyX8_ok nmX8 hown hK hP hD hS 0 (wC_0 cy ad σ0) rfl 4 (by decide) (hts (.fieldLink RX8 41 "TaleBans" "latestFault" "I") (List.mem_of_getElem? (i := 1) rfl)) (fun x h => h) rfl (by decide +kernel) rfl rfl (Nat.le_of_ble_eq_true rfl) dX8_faulted_2 (fun H locs hP hD hS => ?_)
  obtain ⟨σ1, e2⟩ : ∃ y : S_, y = wrI σ0 0 f_ := ⟨_, rfl⟩
  have hP : va_P D vwCl (wC cy ad σ1) H := by rw [e2]; exact hP
  have hD : va_D A (wC cy ad σ1) := by rw [e2]; exact hD
  have hv := hv σ1 e2
  refine lv_bipush (v := (-10)) hx hb dX8_faulted_5 (by decide) ?_
  refine lv_iload_n hx hb dX8_faulted_7 rfl (lv_at hl 1 rfl) ?_
  refine lv_isub hx hb dX8_faulted_8 ?_
  rw [hZ]; rw [hQ] at hv
  exact W.iret (v := ((-10) - f_)) hx hb hr (fun t ht hW => ⟨⟨((-10) - f_), σ1, rfl, hv, ⟨P_of ht hP, hD⟩⟩, hS.F ht⟩) hS.2.2 dX8_faulted_9
set_option maxHeartbeats 4000000 in
set_option maxRecDepth 100000 in
theorem wk_X8_reach (l : Launch) (h_X4_begin : Ct_X4_begin l) (h_X4_pass : Ct_X4_pass l) (sp : Sp_X8_reach) : Ct_X8_reach l := by
  intro D cy ad A season_ paid_ ag s1g σ0  hpre
  refine Met.ofW (cc := cX8_reach) (maxL := 4) (ret := none) (by decide) rfl ?_
  intro p e s m args below meth c s₁ B hml hv0
  obtain ⟨rfl, hP, hK, hD, hN⟩ := hv0
  have hx := B.exec
  have hb := B.bytes
  have hr := B.returns
  have hts := atoms_spec (ws := wsX8_reach) B.pre
  have hown : s.vm.findClass RX8 = some m.cls := findClass_of_methodNamed B.named
  have hlocks := B.notSynchronized
  have hv := sp season_ paid_ ag s1g σ0 hpre
  have hl := lv_entry ([.ref (ad 0), .int season_, .int paid_]) (n := 4) (Nat.le_of_ble_eq_true rfl)
  rw [lg_entry_eq]
  generalize (lg_sl ([.ref (ad 0), .int season_, .int paid_]) ++ List.replicate (4 - (lg_sl ([.ref (ad 0), .int season_, .int paid_])).length) Slot.unset).toArray = ls at hl ⊢
  have hl : lv_has ls 4 [(0, .ref (ad 0)), (1, .int season_), (2, .int paid_)] := hl
  refine W_gen (fun R Z H locs hR hZ hH hlo => ?_)
  have hRf : R.frames = 4 := by rw [hR]; rfl
  have hRl : R.locals = 91 := by rw [hR]; rfl
  have hRc : R.cells = 0 := by rw [hR]; rfl
  have hRs : R.slots = 0 := by rw [hR]; rfl
  have hS : va_S A s.heap H locs := by rw [hH, hlo]; exact va_S.rf
  rw [← hH] at hP
  obtain ⟨Q, hQ⟩ : ∃ q : S_ → Prop, q = (post_X8_reach season_ paid_ ag s1g σ0) := ⟨_, rfl⟩
  rw [← hQ] at hv
  have hinX6 : ∀ w ∈ wsX60, w ∈ wsX8_reach := by decide +kernel
  have hinX8 : ∀ w ∈ wsX80, w ∈ wsX8_reach := by decide +kernel
  refine lv_aload_n hx hb dX8_reach_0 rfl (lv_at hl 0 rfl) ?_
  refine va_get (ci := 8) (v := .ref (ad 21)) (C := RX8) (T := TX8) (N := 5) hx hb hts hinX8 hown hK hP 0 (wC_0 cy ad σ0) rfl 3 (by decide) (hts (.fieldLink RX8 36 "TaleBans" "seasons" "LTaleBans$Seasons;") (List.mem_of_getElem? (i := 1) rfl)) (fun x h => h) rfl dX8_reach_1 ?_
  refine lv_iload_n hx hb dX8_reach_4 rfl (lv_at hl 2 rfl) ?_
  refine lv_aload_n hx hb dX8_reach_5 rfl (lv_at hl 0 rfl) ?_
  refine va_get (ci := 8) (v := .ref (ad 11)) (C := RX8) (T := TX8) (N := 5) hx hb hts hinX8 hown hK hP 0 (wC_0 cy ad σ0) rfl 2 (by decide) (hts (.fieldLink RX8 27 "TaleBans" "land" "LTaleBans$Steppe;") (List.mem_of_getElem? (i := 2) rfl)) (fun x h => h) rfl dX8_reach_6 ?_
  refine va_getN (ci := 6) (v := .int (rdI σ0 4)) (C := RX6) (T := TX6) (N := 8) hx hb hts hinX6 hown hK hP 11 (wC_11 cy ad σ0) rfl 7 (by decide) (nw_13 hN) (fun x h => h) rfl dX8_reach_9 ?_
  obtain ⟨g1, hv⟩ := hv
  obtain ⟨hp, hv⟩ := hv
  refine k_rel_v (w := wC cy ad) (va_runVN (As := [.int paid_, .int (rdI σ0 4)]) (rest := []) ⟨hx, hb, hml, hown, hts⟩ (h_X4_begin D cy ad A paid_ (rdI σ0 4) g1 σ0 hp) ⟨va_cnB 2 hts gX8_reach_X4_begin_n161 rfl rfl rfl (nwm_45 hN) (hts (.initialized RX4) (List.mem_of_getElem? (i := 4) rfl)) (by decide +kernel) ⟨le_R hRf (Nat.le_of_ble_eq_true rfl), le_R hRl (Nat.le_of_ble_eq_true rfl)⟩, (hts (.instanceMethod yX4_begin) (List.mem_of_getElem? (i := 3) rfl)), (hts (.selects RX4 yX4_begin yX4_begin) (List.mem_of_getElem? (i := 5) rfl))⟩ ⟨(fun a U g mk q => ⟨q.1, q.2.blind⟩), va_recv hK hP (ci := 4) (q0 := 21) rfl (wC_21 cy ad σ0), (fun U hU hW => ⟨rfl, WdC.pre hP hK hD hN hU hW⟩)⟩ rfl rfl hl.1 rfl (lv_room (Nat.le_of_ble_eq_true rfl)) dX8_reach_12 ⟨le_R hRc (Nat.le_refl 0), le_R hRs (Nat.le_refl 0)⟩) hS (fun σ2 H locs hr1 hP hD hS => ?_)
  have hv := hv σ2 hr1
  refine lv_iconst (v := 0) hx hb dX8_reach_15 (by decide) ?_
  refine lv_istore_n (lv' := [(3, .int 0), (0, .ref (ad 0)), (1, .int season_), (2, .int paid_)]) hx hb dX8_reach_16 rfl hl (by decide) rfl (fun ls hl => ?_)
  obtain ⟨n17, hv⟩ := hv
  have lp17 : ∀ (nn17 : Nat) (x3 : Int32) (σ4 : S_) (H : Heap) (locs : List Loc) (ls : Array Slot), vl_X8_reach_17 season_ Q nn17 x3 σ4 → va_P D vwCl (wC cy ad σ4) H → va_D A (wC cy ad σ4) → va_S A s.heap H locs → lv_has ls 4 [(0, .ref (ad 0)), (1, .int season_), (3, .int x3)] → W p l e R s m ([.ref (ad 0), .int season_, .int paid_] : List Value).toArray  below meth c H locs 0 0 Z (F0 m 17 ls []) := by
    intro nn17
    induction nn17 with
    | zero => intro x3 σ4 H locs ls hv; exact absurd hv id
    | succ mm17 ih17 =>
      intro x3 σ4 H locs ls hv hP hD hS hl
      refine lv_iload_n hx hb dX8_reach_17 rfl (lv_at hl 2 rfl) ?_
      refine lv_iload_n hx hb dX8_reach_18 rfl (lv_at hl 1 rfl) ?_
      refine lv_icmp_gt (tgt := 35) hx hb dX8_reach_19 (by decide) (fun c9 => ?_) (fun c9 => ?_)
      · have hv := hv.1 c9
        rw [hZ]; rw [hQ] at hv
        exact W.vret hx hb hr (fun t ht hW => ⟨⟨σ4, rfl, hv, ⟨P_of ht hP, hD⟩⟩, hS.F ht⟩) hS.2.2 dX8_reach_35
      · have hv := hv.2 c9
        refine lv_aload_n hx hb dX8_reach_22 rfl (lv_at hl 0 rfl) ?_
        refine va_get (ci := 8) (v := .ref (ad 21)) (C := RX8) (T := TX8) (N := 5) hx hb hts hinX8 hown hK hP 0 (wC_0 cy ad σ4) rfl 3 (by decide) (hts (.fieldLink RX8 36 "TaleBans" "seasons" "LTaleBans$Seasons;") (List.mem_of_getElem? (i := 1) rfl)) (fun x h => h) rfl dX8_reach_23 ?_
        obtain ⟨g5, g6, g7, hv⟩ := hv
        obtain ⟨hp, hv⟩ := hv
        refine k_rel_v (w := wC cy ad) (va_runVN (As := []) (rest := []) ⟨hx, hb, hml, hown, hts⟩ (h_X4_pass D cy ad A g5 g6 g7 σ4 hp) ⟨va_cnB 0 hts gX8_reach_X4_pass_n164 rfl rfl rfl (nwm_47 hN) (hts (.initialized RX4) (List.mem_of_getElem? (i := 4) rfl)) (by decide +kernel) ⟨le_R hRf (Nat.le_of_ble_eq_true rfl), le_R hRl (Nat.le_of_ble_eq_true rfl)⟩, (hts (.instanceMethod yX4_pass) (List.mem_of_getElem? (i := 50) rfl)), (hts (.selects RX4 yX4_pass yX4_pass) (List.mem_of_getElem? (i := 51) rfl))⟩ ⟨(fun a U g mk q => ⟨q.1, q.2.blind⟩), va_recv hK hP (ci := 4) (q0 := 21) rfl (wC_21 cy ad σ4), (fun U hU hW => ⟨rfl, WdC.pre hP hK hD hN hU hW⟩)⟩ rfl rfl hl.1 rfl (lv_room (Nat.le_of_ble_eq_true rfl)) dX8_reach_26 ⟨le_R hRc (Nat.le_refl 0), le_R hRs (Nat.le_refl 0)⟩) hS (fun σ8 H locs hr1 hP hD hS => ?_)
        have hv := hv σ8 hr1
        refine lv_iinc (v := (x3 + 1)) (lv' := [(3, .int (x3 + 1)), (0, .ref (ad 0)), (1, .int season_)]) hx hb dX8_reach_29 hl (k := 2) rfl rfl (by decide) rfl (fun ls hl => ?_)
        refine lv_goto (tgt := 17) hx hb dX8_reach_32 (by decide) ?_
        exact ih17 (x3 + 1) σ8 _ _ _ hv hP hD hS (lv_sub hl [1, 2, 0] rfl)
  exact lp17 n17 0 σ2 _ _ _ hv hP hD hS (lv_sub hl [1, 2, 0] rfl)
set_option maxHeartbeats 4000000 in
set_option maxRecDepth 100000 in
theorem wk_X8_isBannedIfPaid (l : Launch) (h_X4_isBanned : Ct_X4_isBanned l) (h_X8_reach : Ct_X8_reach l) (sp : Sp_X8_isBannedIfPaid) : Ct_X8_isBannedIfPaid l := by
  intro D cy ad A deed_ season_ paid_ ag d1g s1g σ0  hpre
  refine Met.ofW (cc := cX8_isBannedIfPaid) (maxL := 4) (ret := (some .boolean)) (by decide) rfl ?_
  intro p e s m args below meth c s₁ B hml hv0
  obtain ⟨rfl, hP, hK, hD, hN⟩ := hv0
  have hx := B.exec
  have hb := B.bytes
  have hr := B.returns
  have hts := atoms_spec (ws := wsX8_isBannedIfPaid) B.pre
  have hown : s.vm.findClass RX8 = some m.cls := findClass_of_methodNamed B.named
  have hlocks := B.notSynchronized
  have hv := sp deed_ season_ paid_ ag d1g s1g σ0 hpre
  have hl := lv_entry ([.ref (ad 0), .int deed_, .int season_, .int paid_]) (n := 4) (Nat.le_of_ble_eq_true rfl)
  rw [lg_entry_eq]
  generalize (lg_sl ([.ref (ad 0), .int deed_, .int season_, .int paid_]) ++ List.replicate (4 - (lg_sl ([.ref (ad 0), .int deed_, .int season_, .int paid_])).length) Slot.unset).toArray = ls at hl ⊢
  have hl : lv_has ls 4 [(0, .ref (ad 0)), (1, .int deed_), (2, .int season_), (3, .int paid_)] := hl
  refine W_gen (fun R Z H locs hR hZ hH hlo => ?_)
  have hRf : R.frames = 5 := by rw [hR]; rfl
  have hRl : R.locals = 114 := by rw [hR]; rfl
  have hRc : R.cells = 0 := by rw [hR]; rfl
  have hRs : R.slots = 0 := by rw [hR]; rfl
  have hS : va_S A s.heap H locs := by rw [hH, hlo]; exact va_S.rf
  rw [← hH] at hP
  obtain ⟨Q, hQ⟩ : ∃ q : Int32 → S_ → Prop, q = (post_X8_isBannedIfPaid deed_ season_ paid_ ag d1g s1g σ0) := ⟨_, rfl⟩
  rw [← hQ] at hv
  have hinX8 : ∀ w ∈ wsX80, w ∈ wsX8_isBannedIfPaid := by decide +kernel
  refine lv_aload_n hx hb dX8_isBannedIfPaid_0 rfl (lv_at hl 0 rfl) ?_
  refine lv_iload_n hx hb dX8_isBannedIfPaid_1 rfl (lv_at hl 2 rfl) ?_
  refine lv_iload_n hx hb dX8_isBannedIfPaid_2 rfl (lv_at hl 3 rfl) ?_
  obtain ⟨g1, g2, hv⟩ := hv
  obtain ⟨hp, hv⟩ := hv
  refine k_rel_v (w := wC cy ad) (va_runV (As := [.int season_, .int paid_]) (rest := []) ⟨hx, hb, hml, hown, hts⟩ (h_X8_reach D cy ad A season_ paid_ g1 g2 σ0 hp) (cwV 2 hts gX8_isBannedIfPaid_X8_reach rfl rfl rfl (by decide +kernel) ⟨le_R hRf (Nat.le_of_ble_eq_true rfl), le_R hRl (Nat.le_of_ble_eq_true rfl)⟩) ⟨(fun a U g mk q => ⟨q.1, q.2.blind⟩), va_recv hK hP (ci := 8) (q0 := 0) rfl (wC_0 cy ad σ0), (fun U hU hW => ⟨rfl, WdC.pre hP hK hD hN hU hW⟩)⟩ rfl rfl hl.1 rfl (lv_room (Nat.le_of_ble_eq_true rfl)) dX8_isBannedIfPaid_3 ⟨le_R hRc (Nat.le_refl 0), le_R hRs (Nat.le_refl 0)⟩) hS (fun σ3 H locs hr1 hP hD hS => ?_)
  have hv := hv σ3 hr1
  refine lv_aload_n hx hb dX8_isBannedIfPaid_6 rfl (lv_at hl 0 rfl) ?_
  refine va_get (ci := 8) (v := .ref (ad 21)) (C := RX8) (T := TX8) (N := 5) hx hb hts hinX8 hown hK hP 0 (wC_0 cy ad σ3) rfl 3 (by decide) (hts (.fieldLink RX8 36 "TaleBans" "seasons" "LTaleBans$Seasons;") (List.mem_of_getElem? (i := 1) rfl)) (fun x h => h) rfl dX8_isBannedIfPaid_7 ?_
  refine lv_iload_n hx hb dX8_isBannedIfPaid_10 rfl (lv_at hl 1 rfl) ?_
  obtain ⟨g4, g5, g6, g7, hv⟩ := hv
  obtain ⟨hp, hv⟩ := hv
  refine k_read_i (w := wC cy ad) (va_runVN (As := [.int deed_]) (rest := []) ⟨hx, hb, hml, hown, hts⟩ (h_X4_isBanned D cy ad A deed_ g4 g5 g6 g7 σ3 hp) ⟨va_cnB 1 hts gX8_isBannedIfPaid_X4_isBanned_n167 rfl rfl rfl (nwm_56 hN) (hts (.initialized RX4) (List.mem_of_getElem? (i := 9) rfl)) (by decide +kernel) ⟨le_R hRf (Nat.le_of_ble_eq_true rfl), le_R hRl (Nat.le_of_ble_eq_true rfl)⟩, (hts (.instanceMethod yX4_isBanned) (List.mem_of_getElem? (i := 103) rfl)), (hts (.selects RX4 yX4_isBanned yX4_isBanned) (List.mem_of_getElem? (i := 104) rfl))⟩ ⟨(fun a U g mk q => ⟨q.1, q.2.blind⟩), va_recv hK hP (ci := 4) (q0 := 21) rfl (wC_21 cy ad σ3), (fun U hU hW => ⟨rfl, WdC.pre hP hK hD hN hU hW⟩)⟩ rfl rfl hl.1 rfl (lv_room (Nat.le_of_ble_eq_true rfl)) dX8_isBannedIfPaid_11 ⟨le_R hRc (Nat.le_refl 0), le_R hRs (Nat.le_refl 0)⟩) hS (fun r8 H locs hr1 hP hS => ?_)
  have hv := hv r8 hr1
  obtain ⟨h01, hv⟩ := hv
  rw [hZ]; rw [hQ] at hv
  exact W.zret (v := r8) hx hb hr (nar_b h01) (fun t ht hW => ⟨⟨r8, σ3, rfl, hv, ⟨P_of ht hP, hD⟩⟩, hS.F ht⟩) hS.2.2 dX8_isBannedIfPaid_14
set_option maxHeartbeats 4000000 in
set_option maxRecDepth 100000 in
theorem wk_X8_deathOf (l : Launch) (h_X3_at : Ct_X3_at l) (h_X4_begin : Ct_X4_begin l) (h_X4_pass : Ct_X4_pass l) (h_X4_talesOfAll : Ct_X4_talesOfAll l) (h_X8_isIn : Ct_X8_isIn l) (sp : Sp_X8_deathOf) : Ct_X8_deathOf l := by
  intro D cy ad A t_ ag t1g σ0  hpre
  refine Met.ofW (cc := cX8_deathOf) (maxL := 4) (ret := (some .int)) (by decide) rfl ?_
  intro p e s m args below meth c s₁ B hml hv0
  obtain ⟨rfl, hP, hK, hD, hN⟩ := hv0
  have hx := B.exec
  have hb := B.bytes
  have hr := B.returns
  have hts := atoms_spec (ws := wsX8_deathOf) B.pre
  have hown : s.vm.findClass RX8 = some m.cls := findClass_of_methodNamed B.named
  have hlocks := B.notSynchronized
  have hv := sp t_ ag t1g σ0 hpre
  have hl := lv_entry ([.ref (ad 0), .int t_]) (n := 4) (Nat.le_of_ble_eq_true rfl)
  rw [lg_entry_eq]
  generalize (lg_sl ([.ref (ad 0), .int t_]) ++ List.replicate (4 - (lg_sl ([.ref (ad 0), .int t_])).length) Slot.unset).toArray = ls at hl ⊢
  have hl : lv_has ls 4 [(0, .ref (ad 0)), (1, .int t_)] := hl
  refine W_gen (fun R Z H locs hR hZ hH hlo => ?_)
  have hRf : R.frames = 4 := by rw [hR]; rfl
  have hRl : R.locals = 91 := by rw [hR]; rfl
  have hRc : R.cells = 0 := by rw [hR]; rfl
  have hRs : R.slots = 0 := by rw [hR]; rfl
  have hS : va_S A s.heap H locs := by rw [hH, hlo]; exact va_S.rf
  rw [← hH] at hP
  obtain ⟨Q, hQ⟩ : ∃ q : Int32 → S_ → Prop, q = (post_X8_deathOf t_ ag t1g σ0) := ⟨_, rfl⟩
  rw [← hQ] at hv
  have hinX6 : ∀ w ∈ wsX60, w ∈ wsX8_deathOf := by decide +kernel
  have hinX8 : ∀ w ∈ wsX80, w ∈ wsX8_deathOf := by decide +kernel
  refine lv_aload_n hx hb dX8_deathOf_0 rfl (lv_at hl 0 rfl) ?_
  refine va_get (ci := 8) (v := .ref (ad 11)) (C := RX8) (T := TX8) (N := 5) hx hb hts hinX8 hown hK hP 0 (wC_0 cy ad σ0) rfl 2 (by decide) (hts (.fieldLink RX8 27 "TaleBans" "land" "LTaleBans$Steppe;") (List.mem_of_getElem? (i := 1) rfl)) (fun x h => h) rfl dX8_deathOf_1 ?_
  refine va_getN (ci := 6) (v := .ref (ad (13))) (C := RX6) (T := TX6) (N := 8) hx hb hts hinX6 hown hK hP 11 (wC_11 cy ad σ0) rfl 1 (by decide) (nw_5 hN) (fun x h => h) rfl dX8_deathOf_4 ?_
  refine lv_iload_n hx hb dX8_deathOf_7 rfl (lv_at hl 1 rfl) ?_
  refine lv_iconst (v := 1) hx hb dX8_deathOf_8 (by decide) ?_
  obtain ⟨hp, hv⟩ := hv
  refine k_read_i (w := wC cy ad) (va_runVN (As := [.int t_, .int 1]) (rest := []) ⟨hx, hb, hml, hown, hts⟩ (h_X3_at D cy ad A 0 t_ 1 σ0 (show 0 < 4 by decide) hp) ⟨va_cnB 2 hts gX8_deathOf_X3_at_n135 rfl rfl rfl (nwm_43 hN) (hts (.initialized RX3) (List.mem_of_getElem? (i := 4) rfl)) (by decide +kernel) ⟨le_R hRf (Nat.le_of_ble_eq_true rfl), le_R hRl (Nat.le_of_ble_eq_true rfl)⟩, (hts (.instanceMethod yX3_at) (List.mem_of_getElem? (i := 3) rfl)), (hts (.selects RX3 yX3_at yX3_at) (List.mem_of_getElem? (i := 5) rfl))⟩ ⟨(fun a U g mk q => ⟨q.1, q.2.blind⟩), va_recv hK hP (ci := 3) (q0 := 13) rfl (wC_13 cy ad σ0), (fun U hU hW => ⟨rfl, WdC.pre hP hK hD hN hU hW⟩)⟩ rfl rfl hl.1 rfl (lv_room (Nat.le_of_ble_eq_true rfl)) dX8_deathOf_9 ⟨le_R hRc (Nat.le_refl 0), le_R hRs (Nat.le_refl 0)⟩) hS (fun r H locs hr1 hP hS => ?_)
  subst hr1
  refine lv_istore_n (lv' := [(2, .int (fn_X3_at 0 t_ 1 σ0)), (0, .ref (ad 0)), (1, .int t_)]) hx hb dX8_deathOf_12 rfl hl (by decide) rfl (fun ls hl => ?_)
  refine lv_aload_n hx hb dX8_deathOf_13 rfl (lv_at hl 1 rfl) ?_
  refine va_get (ci := 8) (v := .ref (ad 21)) (C := RX8) (T := TX8) (N := 5) hx hb hts hinX8 hown hK hP 0 (wC_0 cy ad σ0) rfl 3 (by decide) (hts (.fieldLink RX8 36 "TaleBans" "seasons" "LTaleBans$Seasons;") (List.mem_of_getElem? (i := 2) rfl)) (fun x h => h) rfl dX8_deathOf_14 ?_
  refine lv_aload_n hx hb dX8_deathOf_17 rfl (lv_at hl 1 rfl) ?_
  refine va_get (ci := 8) (v := .ref (ad 11)) (C := RX8) (T := TX8) (N := 5) hx hb hts hinX8 hown hK hP 0 (wC_0 cy ad σ0) rfl 2 (by decide) (hts (.fieldLink RX8 27 "TaleBans" "land" "LTaleBans$Steppe;") (List.mem_of_getElem? (i := 1) rfl)) (fun x h => h) rfl dX8_deathOf_18 ?_
  refine va_getN (ci := 6) (v := .int (rdI σ0 3)) (C := RX6) (T := TX6) (N := 8) hx hb hts hinX6 hown hK hP 11 (wC_11 cy ad σ0) rfl 6 (by decide) (nw_12 hN) (fun x h => h) rfl dX8_deathOf_21 ?_
  refine lv_aload_n hx hb dX8_deathOf_24 rfl (lv_at hl 1 rfl) ?_
  refine va_get (ci := 8) (v := .ref (ad 11)) (C := RX8) (T := TX8) (N := 5) hx hb hts hinX8 hown hK hP 0 (wC_0 cy ad σ0) rfl 2 (by decide) (hts (.fieldLink RX8 27 "TaleBans" "land" "LTaleBans$Steppe;") (List.mem_of_getElem? (i := 1) rfl)) (fun x h => h) rfl dX8_deathOf_25 ?_
  refine va_getN (ci := 6) (v := .int (rdI σ0 4)) (C := RX6) (T := TX6) (N := 8) hx hb hts hinX6 hown hK hP 11 (wC_11 cy ad σ0) rfl 7 (by decide) (nw_13 hN) (fun x h => h) rfl dX8_deathOf_28 ?_
  obtain ⟨g1, hv⟩ := hv
  obtain ⟨hp, hv⟩ := hv
  refine k_rel_v (w := wC cy ad) (va_runVN (As := [.int (rdI σ0 3), .int (rdI σ0 4)]) (rest := []) ⟨hx, hb, hml, hown, hts⟩ (h_X4_begin D cy ad A (rdI σ0 3) (rdI σ0 4) g1 σ0 hp) ⟨va_cnB 2 hts gX8_deathOf_X4_begin_n161 rfl rfl rfl (nwm_45 hN) (hts (.initialized RX4) (List.mem_of_getElem? (i := 17) rfl)) (by decide +kernel) ⟨le_R hRf (Nat.le_of_ble_eq_true rfl), le_R hRl (Nat.le_of_ble_eq_true rfl)⟩, (hts (.instanceMethod yX4_begin) (List.mem_of_getElem? (i := 16) rfl)), (hts (.selects RX4 yX4_begin yX4_begin) (List.mem_of_getElem? (i := 18) rfl))⟩ ⟨(fun a U g mk q => ⟨q.1, q.2.blind⟩), va_recv hK hP (ci := 4) (q0 := 21) rfl (wC_21 cy ad σ0), (fun U hU hW => ⟨rfl, WdC.pre hP hK hD hN hU hW⟩)⟩ rfl rfl hl.1 rfl (lv_room (Nat.le_of_ble_eq_true rfl)) dX8_deathOf_31 ⟨le_R hRc (Nat.le_refl 0), le_R hRs (Nat.le_refl 0)⟩) hS (fun σ2 H locs hr1 hP hD hS => ?_)
  have hv := hv σ2 hr1
  refine lv_iconst (v := 0) hx hb dX8_deathOf_34 (by decide) ?_
  refine lv_istore_n (lv' := [(3, .int 0), (2, .int (fn_X3_at 0 t_ 1 σ0)), (0, .ref (ad 0)), (1, .int t_)]) hx hb dX8_deathOf_35 rfl hl (by decide) rfl (fun ls hl => ?_)
  obtain ⟨n36, hv⟩ := hv
  have lp36 : ∀ (nn36 : Nat) (x3 : Int32) (σ4 : S_) (H : Heap) (locs : List Loc) (ls : Array Slot), vl_X8_deathOf_36 t_ σ0 Q nn36 x3 σ4 → va_P D vwCl (wC cy ad σ4) H → va_D A (wC cy ad σ4) → va_S A s.heap H locs → lv_has ls 4 [(0, .ref (ad 0)), (1, .int t_), (2, .int (fn_X3_at 0 t_ 1 σ0)), (3, .int x3)] → W p l e R s m ([.ref (ad 0), .int t_] : List Value).toArray  below meth c H locs 0 0 Z (F0 m 36 ls []) := by
    intro nn36
    induction nn36 with
    | zero => intro x3 σ4 H locs ls hv; exact absurd hv id
    | succ mm36 ih36 =>
      intro x3 σ4 H locs ls hv hP hD hS hl
      refine lv_iload_n hx hb dX8_deathOf_36 rfl (lv_at hl 3 rfl) ?_
      refine lv_bipush (v := 40) hx hb dX8_deathOf_37 (by decide) ?_
      refine lv_icmp_ge (tgt := 76) hx hb dX8_deathOf_39 (by decide) (fun c15 => ?_) (fun c15 => ?_)
      · have hv := hv.1 c15
        refine lv_bipush (v := (-9)) hx hb dX8_deathOf_76 (by decide) ?_
        rw [hZ]; rw [hQ] at hv
        exact W.iret (v := (-9)) hx hb hr (fun t ht hW => ⟨⟨(-9), σ4, rfl, hv, ⟨P_of ht hP, hD⟩⟩, hS.F ht⟩) hS.2.2 dX8_deathOf_78
      · have hv := hv.2 c15
        refine lv_aload_n hx hb dX8_deathOf_42 rfl (lv_at hl 0 rfl) ?_
        refine va_get (ci := 8) (v := .ref (ad 21)) (C := RX8) (T := TX8) (N := 5) hx hb hts hinX8 hown hK hP 0 (wC_0 cy ad σ4) rfl 3 (by decide) (hts (.fieldLink RX8 36 "TaleBans" "seasons" "LTaleBans$Seasons;") (List.mem_of_getElem? (i := 2) rfl)) (fun x h => h) rfl dX8_deathOf_43 ?_
        obtain ⟨g5, g6, g7, hv⟩ := hv
        obtain ⟨hp, hv⟩ := hv
        refine k_rel_v (w := wC cy ad) (va_runVN (As := []) (rest := []) ⟨hx, hb, hml, hown, hts⟩ (h_X4_pass D cy ad A g5 g6 g7 σ4 hp) ⟨va_cnB 0 hts gX8_deathOf_X4_pass_n164 rfl rfl rfl (nwm_47 hN) (hts (.initialized RX4) (List.mem_of_getElem? (i := 17) rfl)) (by decide +kernel) ⟨le_R hRf (Nat.le_of_ble_eq_true rfl), le_R hRl (Nat.le_of_ble_eq_true rfl)⟩, (hts (.instanceMethod yX4_pass) (List.mem_of_getElem? (i := 60) rfl)), (hts (.selects RX4 yX4_pass yX4_pass) (List.mem_of_getElem? (i := 61) rfl))⟩ ⟨(fun a U g mk q => ⟨q.1, q.2.blind⟩), va_recv hK hP (ci := 4) (q0 := 21) rfl (wC_21 cy ad σ4), (fun U hU hW => ⟨rfl, WdC.pre hP hK hD hN hU hW⟩)⟩ rfl rfl hl.1 rfl (lv_room (Nat.le_of_ble_eq_true rfl)) dX8_deathOf_46 ⟨le_R hRc (Nat.le_refl 0), le_R hRs (Nat.le_refl 0)⟩) hS (fun σ8 H locs hr1 hP hD hS => ?_)
        have hv := hv σ8 hr1
        refine lv_iload_n hx hb dX8_deathOf_49 rfl (lv_at hl 3 rfl) ?_
        refine lv_iload_n hx hb dX8_deathOf_50 rfl (lv_at hl 2 rfl) ?_
        refine lv_icmp_le (tgt := 70) hx hb dX8_deathOf_51 (by decide) (fun c14 => ?_) (fun c14 => ?_)
        · have hv := hv.1 c14
          refine lv_iinc (v := (x3 + 1)) (lv' := [(3, .int (x3 + 1)), (0, .ref (ad 0)), (1, .int t_), (2, .int (fn_X3_at 0 t_ 1 σ0))]) hx hb dX8_deathOf_70 hl (k := 3) rfl rfl (by decide) rfl (fun ls hl => ?_)
          refine lv_goto (tgt := 36) hx hb dX8_deathOf_73 (by decide) ?_
          exact ih36 (x3 + 1) σ8 _ _ _ hv hP hD hS (lv_sub hl [1, 2, 3, 0] rfl)
        · have hv := hv.2 c14
          refine lv_iload_n hx hb dX8_deathOf_54 rfl (lv_at hl 1 rfl) ?_
          refine lv_aload_n hx hb dX8_deathOf_55 rfl (lv_at hl 0 rfl) ?_
          refine va_get (ci := 8) (v := .ref (ad 21)) (C := RX8) (T := TX8) (N := 5) hx hb hts hinX8 hown hK hP 0 (wC_0 cy ad σ8) rfl 3 (by decide) (hts (.fieldLink RX8 36 "TaleBans" "seasons" "LTaleBans$Seasons;") (List.mem_of_getElem? (i := 2) rfl)) (fun x h => h) rfl dX8_deathOf_56 ?_
          obtain ⟨g9, g10, g11, hv⟩ := hv
          obtain ⟨hp, hv⟩ := hv
          refine k_read_i (w := wC cy ad) (va_runVN (As := []) (rest := [.int t_]) ⟨hx, hb, hml, hown, hts⟩ (h_X4_talesOfAll D cy ad A g9 g10 g11 σ8 hp) ⟨va_cnB 0 hts gX8_deathOf_X4_talesOfAll_n240 rfl rfl rfl (nwm_55 hN) (hts (.initialized RX4) (List.mem_of_getElem? (i := 17) rfl)) (by decide +kernel) ⟨le_R hRf (Nat.le_of_ble_eq_true rfl), le_R hRl (Nat.le_of_ble_eq_true rfl)⟩, (hts (.instanceMethod yX4_talesOfAll) (List.mem_of_getElem? (i := 99) rfl)), (hts (.selects RX4 yX4_talesOfAll yX4_talesOfAll) (List.mem_of_getElem? (i := 100) rfl))⟩ ⟨(fun a U g mk q => ⟨q.1, q.2.blind⟩), va_recv hK hP (ci := 4) (q0 := 21) rfl (wC_21 cy ad σ8), (fun U hU hW => ⟨rfl, WdC.pre hP hK hD hN hU hW⟩)⟩ rfl rfl hl.1 rfl (lv_room (Nat.le_of_ble_eq_true rfl)) dX8_deathOf_59 ⟨le_R hRc (Nat.le_refl 0), le_R hRs (Nat.le_refl 0)⟩) hS (fun r12 H locs hr1 hP hS => ?_)
          have hv := hv r12 hr1
          refine k_pure_i (va_runS (As := [.int t_, .int r12]) (rest := []) ⟨hx, hb, hml, hown, hts⟩ (h_X8_isIn t_ r12) (va_cwS 2 hts gX8_deathOf_X8_isIn rfl rfl rfl (by decide +kernel) ⟨le_R hRf (Nat.le_of_ble_eq_true rfl), le_R hRl (Nat.le_of_ble_eq_true rfl)⟩) ⟨(fun a U g mk q => ⟨q.1, trivial⟩), (fun U hU hW => ⟨rfl, trivial⟩)⟩ rfl rfl hl.1 rfl (lv_room (Nat.le_of_ble_eq_true rfl)) dX8_deathOf_62 ⟨le_R hRc (Nat.le_refl 0), le_R hRs (Nat.le_refl 0)⟩) hS hP (fun r H locs hr1 hP hS => ?_)
          subst hr1
          refine lv_if_ne (tgt := 70) hx hb dX8_deathOf_65 (by decide) (fun c13 => ?_) (fun c13 => ?_)
          · have hv := hv.1 c13
            refine lv_iinc (v := (x3 + 1)) (lv' := [(3, .int (x3 + 1)), (0, .ref (ad 0)), (1, .int t_), (2, .int (fn_X3_at 0 t_ 1 σ0))]) hx hb dX8_deathOf_70 hl (k := 3) rfl rfl (by decide) rfl (fun ls hl => ?_)
            refine lv_goto (tgt := 36) hx hb dX8_deathOf_73 (by decide) ?_
            exact ih36 (x3 + 1) σ8 _ _ _ hv hP hD hS (lv_sub hl [1, 2, 3, 0] rfl)
          · have hv := hv.2 c13
            refine lv_iload_n hx hb dX8_deathOf_68 rfl (lv_at hl 3 rfl) ?_
            rw [hZ]; rw [hQ] at hv
            exact W.iret (v := x3) hx hb hr (fun t ht hW => ⟨⟨x3, σ8, rfl, hv, ⟨P_of ht hP, hD⟩⟩, hS.F ht⟩) hS.2.2 dX8_deathOf_69
  exact lp36 n36 0 σ2 _ _ _ hv hP hD hS (lv_sub hl [2, 3, 1, 0] rfl)
set_option maxHeartbeats 4000000 in
set_option maxRecDepth 100000 in
theorem wk_X8_firstBanned (l : Launch) (h_X4_begin : Ct_X4_begin l) (h_X4_isBanned : Ct_X4_isBanned l) (h_X4_pass : Ct_X4_pass l) (h_X5_at : Ct_X5_at l) (sp : Sp_X8_firstBanned) : Ct_X8_firstBanned l := by
  intro D cy ad A season_ j_ i_ n_ ag s1g Fg Ng σ0 hj_j_ hpre
  refine Met.ofW (cc := cX8_firstBanned) (maxL := 7) (ret := (some .int)) (by decide) rfl ?_
  intro p e s m args below meth c s₁ B hml hv0
  obtain ⟨rfl, hP, hK, hD, hN⟩ := hv0
  have hx := B.exec
  have hb := B.bytes
  have hr := B.returns
  have hts := atoms_spec (ws := wsX8_firstBanned) B.pre
  have hown : s.vm.findClass RX8 = some m.cls := findClass_of_methodNamed B.named
  have hlocks := B.notSynchronized
  have hv := sp season_ j_ i_ n_ ag s1g Fg Ng σ0 hpre
  have hl := lv_entry ([.ref (ad 0), .int season_, .ref (ad (2 + 2 * j_)), .int i_, .int n_]) (n := 7) (Nat.le_of_ble_eq_true rfl)
  rw [lg_entry_eq]
  generalize (lg_sl ([.ref (ad 0), .int season_, .ref (ad (2 + 2 * j_)), .int i_, .int n_]) ++ List.replicate (7 - (lg_sl ([.ref (ad 0), .int season_, .ref (ad (2 + 2 * j_)), .int i_, .int n_])).length) Slot.unset).toArray = ls at hl ⊢
  have hl : lv_has ls 7 [(0, .ref (ad 0)), (1, .int season_), (2, .ref (ad (2 + 2 * j_))), (3, .int i_), (4, .int n_)] := hl
  refine W_gen (fun R Z H locs hR hZ hH hlo => ?_)
  have hRf : R.frames = 5 := by rw [hR]; rfl
  have hRl : R.locals = 108 := by rw [hR]; rfl
  have hRc : R.cells = 0 := by rw [hR]; rfl
  have hRs : R.slots = 0 := by rw [hR]; rfl
  have hS : va_S A s.heap H locs := by rw [hH, hlo]; exact va_S.rf
  rw [← hH] at hP
  obtain ⟨Q, hQ⟩ : ∃ q : Int32 → S_ → Prop, q = (post_X8_firstBanned season_ j_ i_ n_ ag s1g Fg Ng σ0) := ⟨_, rfl⟩
  rw [← hQ] at hv
  have hinX6 : ∀ w ∈ wsX60, w ∈ wsX8_firstBanned := by decide +kernel
  have hinX8 : ∀ w ∈ wsX80, w ∈ wsX8_firstBanned := by decide +kernel
  refine lv_aload_n hx hb dX8_firstBanned_0 rfl (lv_at hl 0 rfl) ?_
  refine va_get (ci := 8) (v := .ref (ad 21)) (C := RX8) (T := TX8) (N := 5) hx hb hts hinX8 hown hK hP 0 (wC_0 cy ad σ0) rfl 3 (by decide) (hts (.fieldLink RX8 36 "TaleBans" "seasons" "LTaleBans$Seasons;") (List.mem_of_getElem? (i := 1) rfl)) (fun x h => h) rfl dX8_firstBanned_1 ?_
  refine lv_aload_n hx hb dX8_firstBanned_4 rfl (lv_at hl 0 rfl) ?_
  refine va_get (ci := 8) (v := .ref (ad 11)) (C := RX8) (T := TX8) (N := 5) hx hb hts hinX8 hown hK hP 0 (wC_0 cy ad σ0) rfl 2 (by decide) (hts (.fieldLink RX8 27 "TaleBans" "land" "LTaleBans$Steppe;") (List.mem_of_getElem? (i := 2) rfl)) (fun x h => h) rfl dX8_firstBanned_5 ?_
  refine va_getN (ci := 6) (v := .int (rdI σ0 3)) (C := RX6) (T := TX6) (N := 8) hx hb hts hinX6 hown hK hP 11 (wC_11 cy ad σ0) rfl 6 (by decide) (nw_12 hN) (fun x h => h) rfl dX8_firstBanned_8 ?_
  refine lv_aload_n hx hb dX8_firstBanned_11 rfl (lv_at hl 0 rfl) ?_
  refine va_get (ci := 8) (v := .ref (ad 11)) (C := RX8) (T := TX8) (N := 5) hx hb hts hinX8 hown hK hP 0 (wC_0 cy ad σ0) rfl 2 (by decide) (hts (.fieldLink RX8 27 "TaleBans" "land" "LTaleBans$Steppe;") (List.mem_of_getElem? (i := 2) rfl)) (fun x h => h) rfl dX8_firstBanned_12 ?_
  refine va_getN (ci := 6) (v := .int (rdI σ0 4)) (C := RX6) (T := TX6) (N := 8) hx hb hts hinX6 hown hK hP 11 (wC_11 cy ad σ0) rfl 7 (by decide) (nw_13 hN) (fun x h => h) rfl dX8_firstBanned_15 ?_
  obtain ⟨g1, hv⟩ := hv
  obtain ⟨hp, hv⟩ := hv
  refine k_rel_v (w := wC cy ad) (va_runVN (As := [.int (rdI σ0 3), .int (rdI σ0 4)]) (rest := []) ⟨hx, hb, hml, hown, hts⟩ (h_X4_begin D cy ad A (rdI σ0 3) (rdI σ0 4) g1 σ0 hp) ⟨va_cnB 2 hts gX8_firstBanned_X4_begin_n161 rfl rfl rfl (nwm_45 hN) (hts (.initialized RX4) (List.mem_of_getElem? (i := 4) rfl)) (by decide +kernel) ⟨le_R hRf (Nat.le_of_ble_eq_true rfl), le_R hRl (Nat.le_of_ble_eq_true rfl)⟩, (hts (.instanceMethod yX4_begin) (List.mem_of_getElem? (i := 3) rfl)), (hts (.selects RX4 yX4_begin yX4_begin) (List.mem_of_getElem? (i := 5) rfl))⟩ ⟨(fun a U g mk q => ⟨q.1, q.2.blind⟩), va_recv hK hP (ci := 4) (q0 := 21) rfl (wC_21 cy ad σ0), (fun U hU hW => ⟨rfl, WdC.pre hP hK hD hN hU hW⟩)⟩ rfl rfl hl.1 rfl (lv_room (Nat.le_of_ble_eq_true rfl)) dX8_firstBanned_18 ⟨le_R hRc (Nat.le_refl 0), le_R hRs (Nat.le_refl 0)⟩) hS (fun σ2 H locs hr1 hP hD hS => ?_)
  have hv := hv σ2 hr1
  refine lv_iconst (v := 0) hx hb dX8_firstBanned_21 (by decide) ?_
  refine lv_istore (lv' := [(5, .int 0), (0, .ref (ad 0)), (1, .int season_), (2, .ref (ad (2 + 2 * j_))), (3, .int i_), (4, .int n_)]) hx hb dX8_firstBanned_22 hl (by decide) rfl (fun ls hl => ?_)
  obtain ⟨n24, hv⟩ := hv
  have lp24 : ∀ (nn24 : Nat) (x3 : Int32) (σ4 : S_) (H : Heap) (locs : List Loc) (ls : Array Slot), vl_X8_firstBanned_24 season_ j_ i_ n_ Q nn24 x3 σ4 → va_P D vwCl (wC cy ad σ4) H → va_D A (wC cy ad σ4) → va_S A s.heap H locs → lv_has ls 7 [(0, .ref (ad 0)), (1, .int season_), (2, .ref (ad (2 + 2 * j_))), (3, .int i_), (4, .int n_), (5, .int x3)] → W p l e R s m ([.ref (ad 0), .int season_, .ref (ad (2 + 2 * j_)), .int i_, .int n_] : List Value).toArray  below meth c H locs 0 0 Z (F0 m 24 ls []) := by
    intro nn24
    induction nn24 with
    | zero => intro x3 σ4 H locs ls hv; exact absurd hv id
    | succ mm24 ih24 =>
      intro x3 σ4 H locs ls hv hP hD hS hl
      refine lv_iload hx hb dX8_firstBanned_24 (lv_at hl 5 rfl) ?_
      refine lv_iload_n hx hb dX8_firstBanned_26 rfl (lv_at hl 1 rfl) ?_
      refine lv_iload hx hb dX8_firstBanned_27 (lv_at hl 4 rfl) ?_
      refine lv_iadd hx hb dX8_firstBanned_29 ?_
      refine lv_icmp_ge (tgt := 78) hx hb dX8_firstBanned_30 (by decide) (fun c16 => ?_) (fun c16 => ?_)
      · have hv := hv.1 c16
        refine lv_bipush (v := (-9)) hx hb dX8_firstBanned_78 (by decide) ?_
        rw [hZ]; rw [hQ] at hv
        exact W.iret (v := (-9)) hx hb hr (fun t ht hW => ⟨⟨(-9), σ4, rfl, hv, ⟨P_of ht hP, hD⟩⟩, hS.F ht⟩) hS.2.2 dX8_firstBanned_80
      · have hv := hv.2 c16
        refine lv_aload_n hx hb dX8_firstBanned_33 rfl (lv_at hl 0 rfl) ?_
        refine va_get (ci := 8) (v := .ref (ad 21)) (C := RX8) (T := TX8) (N := 5) hx hb hts hinX8 hown hK hP 0 (wC_0 cy ad σ4) rfl 3 (by decide) (hts (.fieldLink RX8 36 "TaleBans" "seasons" "LTaleBans$Seasons;") (List.mem_of_getElem? (i := 1) rfl)) (fun x h => h) rfl dX8_firstBanned_34 ?_
        obtain ⟨g5, g6, g7, hv⟩ := hv
        obtain ⟨hp, hv⟩ := hv
        refine k_rel_v (w := wC cy ad) (va_runVN (As := []) (rest := []) ⟨hx, hb, hml, hown, hts⟩ (h_X4_pass D cy ad A g5 g6 g7 σ4 hp) ⟨va_cnB 0 hts gX8_firstBanned_X4_pass_n164 rfl rfl rfl (nwm_47 hN) (hts (.initialized RX4) (List.mem_of_getElem? (i := 4) rfl)) (by decide +kernel) ⟨le_R hRf (Nat.le_of_ble_eq_true rfl), le_R hRl (Nat.le_of_ble_eq_true rfl)⟩, (hts (.instanceMethod yX4_pass) (List.mem_of_getElem? (i := 50) rfl)), (hts (.selects RX4 yX4_pass yX4_pass) (List.mem_of_getElem? (i := 51) rfl))⟩ ⟨(fun a U g mk q => ⟨q.1, q.2.blind⟩), va_recv hK hP (ci := 4) (q0 := 21) rfl (wC_21 cy ad σ4), (fun U hU hW => ⟨rfl, WdC.pre hP hK hD hN hU hW⟩)⟩ rfl rfl hl.1 rfl (lv_room (Nat.le_of_ble_eq_true rfl)) dX8_firstBanned_37 ⟨le_R hRc (Nat.le_refl 0), le_R hRs (Nat.le_refl 0)⟩) hS (fun σ8 H locs hr1 hP hD hS => ?_)
        have hv := hv σ8 hr1
        refine lv_iload hx hb dX8_firstBanned_40 (lv_at hl 5 rfl) ?_
        refine lv_iload_n hx hb dX8_firstBanned_42 rfl (lv_at hl 1 rfl) ?_
        refine lv_isub hx hb dX8_firstBanned_43 ?_
        refine lv_istore (lv' := [(6, .int (x3 - season_)), (0, .ref (ad 0)), (1, .int season_), (2, .ref (ad (2 + 2 * j_))), (3, .int i_), (4, .int n_), (5, .int x3)]) hx hb dX8_firstBanned_44 hl (by decide) rfl (fun ls hl => ?_)
        refine lv_iload hx hb dX8_firstBanned_46 (lv_at hl 0 rfl) ?_
        refine lv_if_lt (tgt := 72) hx hb dX8_firstBanned_48 (by decide) (fun c15 => ?_) (fun c15 => ?_)
        · have hv := hv.1 c15
          refine lv_iinc (v := (x3 + 1)) (lv' := [(5, .int (x3 + 1)), (6, .int (x3 - season_)), (0, .ref (ad 0)), (1, .int season_), (2, .ref (ad (2 + 2 * j_))), (3, .int i_), (4, .int n_)]) hx hb dX8_firstBanned_72 hl (k := 6) rfl rfl (by decide) rfl (fun ls hl => ?_)
          refine lv_goto (tgt := 24) hx hb dX8_firstBanned_75 (by decide) ?_
          exact ih24 (x3 + 1) σ8 _ _ _ hv hP hD hS (lv_sub hl [2, 3, 4, 5, 6, 0] rfl)
        · have hv := hv.2 c15
          refine lv_aload_n hx hb dX8_firstBanned_51 rfl (lv_at hl 1 rfl) ?_
          refine va_get (ci := 8) (v := .ref (ad 21)) (C := RX8) (T := TX8) (N := 5) hx hb hts hinX8 hown hK hP 0 (wC_0 cy ad σ8) rfl 3 (by decide) (hts (.fieldLink RX8 36 "TaleBans" "seasons" "LTaleBans$Seasons;") (List.mem_of_getElem? (i := 1) rfl)) (fun x h => h) rfl dX8_firstBanned_52 ?_
          refine lv_aload_n hx hb dX8_firstBanned_55 rfl (lv_at hl 3 rfl) ?_
          refine lv_iload_n hx hb dX8_firstBanned_56 rfl (lv_at hl 4 rfl) ?_
          refine lv_iload hx hb dX8_firstBanned_57 (lv_at hl 0 rfl) ?_
          refine lv_iadd hx hb dX8_firstBanned_59 ?_
          obtain ⟨hp, hv⟩ := hv
          refine k_read_i (w := wC cy ad) (va_runVN (As := [.int (i_ + (x3 - season_))]) (rest := [.ref (ad 21)]) ⟨hx, hb, hml, hown, hts⟩ (h_X5_at D cy ad A j_ (i_ + (x3 - season_)) σ8 hj_j_ hp) ⟨va_cnB 1 hts gX8_firstBanned_X5_at_n209 rfl rfl rfl (nwm_61 hN) (hts (.initialized RX5) (List.mem_of_getElem? (i := 100) rfl)) (by decide +kernel) ⟨le_R hRf (Nat.le_of_ble_eq_true rfl), le_R hRl (Nat.le_of_ble_eq_true rfl)⟩, (hts (.instanceMethod yX5_at) (List.mem_of_getElem? (i := 99) rfl)), (hts (.selects RX5 yX5_at yX5_at) (List.mem_of_getElem? (i := 101) rfl))⟩ ⟨(fun a U g mk q => ⟨q.1, q.2.blind⟩), va_recv hK hP (ci := 5) (q0 := (2 + 2 * j_)) rfl (wC_sh cy ad σ8 hj_j_), (fun U hU hW => ⟨rfl, WdC.pre hP hK hD hN hU hW⟩)⟩ rfl rfl hl.1 rfl (lv_room (Nat.le_of_ble_eq_true rfl)) dX8_firstBanned_60 ⟨le_R hRc (Nat.le_refl 0), le_R hRs (Nat.le_refl 0)⟩) hS (fun r H locs hr1 hP hS => ?_)
          subst hr1
          obtain ⟨g9, g10, g11, g12, hv⟩ := hv
          obtain ⟨hp, hv⟩ := hv
          refine k_read_i (w := wC cy ad) (va_runVN (As := [.int (fn_X5_at j_ (i_ + (x3 - season_)) σ8)]) (rest := []) ⟨hx, hb, hml, hown, hts⟩ (h_X4_isBanned D cy ad A (fn_X5_at j_ (i_ + (x3 - season_)) σ8) g9 g10 g11 g12 σ8 hp) ⟨va_cnB 1 hts gX8_firstBanned_X4_isBanned_n167 rfl rfl rfl (nwm_56 hN) (hts (.initialized RX4) (List.mem_of_getElem? (i := 4) rfl)) (by decide +kernel) ⟨le_R hRf (Nat.le_of_ble_eq_true rfl), le_R hRl (Nat.le_of_ble_eq_true rfl)⟩, (hts (.instanceMethod yX4_isBanned) (List.mem_of_getElem? (i := 109) rfl)), (hts (.selects RX4 yX4_isBanned yX4_isBanned) (List.mem_of_getElem? (i := 110) rfl))⟩ ⟨(fun a U g mk q => ⟨q.1, q.2.blind⟩), va_recv hK hP (ci := 4) (q0 := 21) rfl (wC_21 cy ad σ8), (fun U hU hW => ⟨rfl, WdC.pre hP hK hD hN hU hW⟩)⟩ rfl rfl hl.1 rfl (lv_room (Nat.le_of_ble_eq_true rfl)) dX8_firstBanned_63 ⟨le_R hRc (Nat.le_refl 0), le_R hRs (Nat.le_refl 0)⟩) hS (fun r13 H locs hr1 hP hS => ?_)
          have hv := hv r13 hr1
          refine lv_if_eq (tgt := 72) hx hb dX8_firstBanned_66 (by decide) (fun c14 => ?_) (fun c14 => ?_)
          · have hv := hv.1 c14
            refine lv_iinc (v := (x3 + 1)) (lv' := [(5, .int (x3 + 1)), (6, .int (x3 - season_)), (0, .ref (ad 0)), (1, .int season_), (2, .ref (ad (2 + 2 * j_))), (3, .int i_), (4, .int n_)]) hx hb dX8_firstBanned_72 hl (k := 6) rfl rfl (by decide) rfl (fun ls hl => ?_)
            refine lv_goto (tgt := 24) hx hb dX8_firstBanned_75 (by decide) ?_
            exact ih24 (x3 + 1) σ8 _ _ _ hv hP hD hS (lv_sub hl [2, 3, 4, 5, 6, 0] rfl)
          · have hv := hv.2 c14
            refine lv_iload hx hb dX8_firstBanned_69 (lv_at hl 0 rfl) ?_
            rw [hZ]; rw [hQ] at hv
            exact W.iret (v := (x3 - season_)) hx hb hr (fun t ht hW => ⟨⟨(x3 - season_), σ8, rfl, hv, ⟨P_of ht hP, hD⟩⟩, hS.F ht⟩) hS.2.2 dX8_firstBanned_71
  exact lp24 n24 0 σ2 _ _ _ hv hP hD hS (lv_sub hl [1, 2, 3, 4, 5, 0] rfl)
set_option maxHeartbeats 4000000 in
set_option maxRecDepth 100000 in
theorem wk_X8_areReadingsSo (l : Launch) (h_X4_begin : Ct_X4_begin l) (h_X4_pass : Ct_X4_pass l) (h_X8_areReadingsSoIn : Ct_X8_areReadingsSoIn l) (sp : Sp_X8_areReadingsSo) : Ct_X8_areReadingsSo l := by
  intro D cy ad A paid_ law_ ag σ0  hpre
  refine Met.ofW (cc := cX8_areReadingsSo) (maxL := 4) (ret := (some .boolean)) (by decide) rfl ?_
  intro p e s m args below meth c s₁ B hml hv0
  obtain ⟨rfl, hP, hK, hD, hN⟩ := hv0
  have hx := B.exec
  have hb := B.bytes
  have hr := B.returns
  have hts := atoms_spec (ws := wsX8_areReadingsSo) B.pre
  have hown : s.vm.findClass RX8 = some m.cls := findClass_of_methodNamed B.named
  have hlocks := B.notSynchronized
  have hv := sp paid_ law_ ag σ0 hpre
  have hl := lv_entry ([.ref (ad 0), .int paid_, .int law_]) (n := 4) (Nat.le_of_ble_eq_true rfl)
  rw [lg_entry_eq]
  generalize (lg_sl ([.ref (ad 0), .int paid_, .int law_]) ++ List.replicate (4 - (lg_sl ([.ref (ad 0), .int paid_, .int law_])).length) Slot.unset).toArray = ls at hl ⊢
  have hl : lv_has ls 4 [(0, .ref (ad 0)), (1, .int paid_), (2, .int law_)] := hl
  refine W_gen (fun R Z H locs hR hZ hH hlo => ?_)
  have hRf : R.frames = 4 := by rw [hR]; rfl
  have hRl : R.locals = 91 := by rw [hR]; rfl
  have hRc : R.cells = 0 := by rw [hR]; rfl
  have hRs : R.slots = 0 := by rw [hR]; rfl
  have hS : va_S A s.heap H locs := by rw [hH, hlo]; exact va_S.rf
  rw [← hH] at hP
  obtain ⟨Q, hQ⟩ : ∃ q : Int32 → S_ → Prop, q = (post_X8_areReadingsSo paid_ law_ ag σ0) := ⟨_, rfl⟩
  rw [← hQ] at hv
  have hinX8 : ∀ w ∈ wsX80, w ∈ wsX8_areReadingsSo := by decide +kernel
  refine lv_aload_n hx hb dX8_areReadingsSo_0 rfl (lv_at hl 0 rfl) ?_
  refine va_get (ci := 8) (v := .ref (ad 21)) (C := RX8) (T := TX8) (N := 5) hx hb hts hinX8 hown hK hP 0 (wC_0 cy ad σ0) rfl 3 (by decide) (hts (.fieldLink RX8 36 "TaleBans" "seasons" "LTaleBans$Seasons;") (List.mem_of_getElem? (i := 1) rfl)) (fun x h => h) rfl dX8_areReadingsSo_1 ?_
  refine lv_iload_n hx hb dX8_areReadingsSo_4 rfl (lv_at hl 1 rfl) ?_
  refine lv_iload_n hx hb dX8_areReadingsSo_5 rfl (lv_at hl 2 rfl) ?_
  obtain ⟨g1, hv⟩ := hv
  obtain ⟨hp, hv⟩ := hv
  refine k_rel_v (w := wC cy ad) (va_runVN (As := [.int paid_, .int law_]) (rest := []) ⟨hx, hb, hml, hown, hts⟩ (h_X4_begin D cy ad A paid_ law_ g1 σ0 hp) ⟨va_cnB 2 hts gX8_areReadingsSo_X4_begin_n161 rfl rfl rfl (nwm_45 hN) (hts (.initialized RX4) (List.mem_of_getElem? (i := 3) rfl)) (by decide +kernel) ⟨le_R hRf (Nat.le_of_ble_eq_true rfl), le_R hRl (Nat.le_of_ble_eq_true rfl)⟩, (hts (.instanceMethod yX4_begin) (List.mem_of_getElem? (i := 2) rfl)), (hts (.selects RX4 yX4_begin yX4_begin) (List.mem_of_getElem? (i := 4) rfl))⟩ ⟨(fun a U g mk q => ⟨q.1, q.2.blind⟩), va_recv hK hP (ci := 4) (q0 := 21) rfl (wC_21 cy ad σ0), (fun U hU hW => ⟨rfl, WdC.pre hP hK hD hN hU hW⟩)⟩ rfl rfl hl.1 rfl (lv_room (Nat.le_of_ble_eq_true rfl)) dX8_areReadingsSo_6 ⟨le_R hRc (Nat.le_refl 0), le_R hRs (Nat.le_refl 0)⟩) hS (fun σ2 H locs hr1 hP hD hS => ?_)
  have hv := hv σ2 hr1
  refine lv_iconst (v := 0) hx hb dX8_areReadingsSo_9 (by decide) ?_
  refine lv_istore_n (lv' := [(3, .int 0), (0, .ref (ad 0)), (1, .int paid_), (2, .int law_)]) hx hb dX8_areReadingsSo_10 rfl hl (by decide) rfl (fun ls hl => ?_)
  obtain ⟨n11, hv⟩ := hv
  have lp11 : ∀ (nn11 : Nat) (x3 : Int32) (σ4 : S_) (H : Heap) (locs : List Loc) (ls : Array Slot), vl_X8_areReadingsSo_11 Q nn11 x3 σ4 → va_P D vwCl (wC cy ad σ4) H → va_D A (wC cy ad σ4) → va_S A s.heap H locs → lv_has ls 4 [(0, .ref (ad 0)), (3, .int x3)] → W p l e R s m ([.ref (ad 0), .int paid_, .int law_] : List Value).toArray  below meth c H locs 0 0 Z (F0 m 11 ls []) := by
    intro nn11
    induction nn11 with
    | zero => intro x3 σ4 H locs ls hv; exact absurd hv id
    | succ mm11 ih11 =>
      intro x3 σ4 H locs ls hv hP hD hS hl
      refine lv_iload_n hx hb dX8_areReadingsSo_11 rfl (lv_at hl 1 rfl) ?_
      refine lv_bipush (v := 40) hx hb dX8_areReadingsSo_12 (by decide) ?_
      refine lv_icmp_ge (tgt := 40) hx hb dX8_areReadingsSo_14 (by decide) (fun c13 => ?_) (fun c13 => ?_)
      · have hv := hv.1 c13
        refine lv_iconst (v := 1) hx hb dX8_areReadingsSo_40 (by decide) ?_
        rw [hZ]; rw [hQ] at hv
        exact W.zret (v := 1) hx hb hr rfl (fun t ht hW => ⟨⟨1, σ4, rfl, hv, ⟨P_of ht hP, hD⟩⟩, hS.F ht⟩) hS.2.2 dX8_areReadingsSo_41
      · have hv := hv.2 c13
        refine lv_aload_n hx hb dX8_areReadingsSo_17 rfl (lv_at hl 0 rfl) ?_
        refine va_get (ci := 8) (v := .ref (ad 21)) (C := RX8) (T := TX8) (N := 5) hx hb hts hinX8 hown hK hP 0 (wC_0 cy ad σ4) rfl 3 (by decide) (hts (.fieldLink RX8 36 "TaleBans" "seasons" "LTaleBans$Seasons;") (List.mem_of_getElem? (i := 1) rfl)) (fun x h => h) rfl dX8_areReadingsSo_18 ?_
        obtain ⟨g5, g6, g7, hv⟩ := hv
        obtain ⟨hp, hv⟩ := hv
        refine k_rel_v (w := wC cy ad) (va_runVN (As := []) (rest := []) ⟨hx, hb, hml, hown, hts⟩ (h_X4_pass D cy ad A g5 g6 g7 σ4 hp) ⟨va_cnB 0 hts gX8_areReadingsSo_X4_pass_n164 rfl rfl rfl (nwm_47 hN) (hts (.initialized RX4) (List.mem_of_getElem? (i := 3) rfl)) (by decide +kernel) ⟨le_R hRf (Nat.le_of_ble_eq_true rfl), le_R hRl (Nat.le_of_ble_eq_true rfl)⟩, (hts (.instanceMethod yX4_pass) (List.mem_of_getElem? (i := 49) rfl)), (hts (.selects RX4 yX4_pass yX4_pass) (List.mem_of_getElem? (i := 50) rfl))⟩ ⟨(fun a U g mk q => ⟨q.1, q.2.blind⟩), va_recv hK hP (ci := 4) (q0 := 21) rfl (wC_21 cy ad σ4), (fun U hU hW => ⟨rfl, WdC.pre hP hK hD hN hU hW⟩)⟩ rfl rfl hl.1 rfl (lv_room (Nat.le_of_ble_eq_true rfl)) dX8_areReadingsSo_21 ⟨le_R hRc (Nat.le_refl 0), le_R hRs (Nat.le_refl 0)⟩) hS (fun σ8 H locs hr1 hP hD hS => ?_)
        have hv := hv σ8 hr1
        refine lv_aload_n hx hb dX8_areReadingsSo_24 rfl (lv_at hl 0 rfl) ?_
        refine lv_iload_n hx hb dX8_areReadingsSo_25 rfl (lv_at hl 1 rfl) ?_
        obtain ⟨g9, g10, hv⟩ := hv
        obtain ⟨hp, hv⟩ := hv
        refine k_read_i (w := wC cy ad) (va_runV (As := [.int x3]) (rest := []) ⟨hx, hb, hml, hown, hts⟩ (h_X8_areReadingsSoIn D cy ad A x3 g9 g10 σ8 hp) (cwV 1 hts gX8_areReadingsSo_X8_areReadingsSoIn rfl rfl rfl (by decide +kernel) ⟨le_R hRf (Nat.le_of_ble_eq_true rfl), le_R hRl (Nat.le_of_ble_eq_true rfl)⟩) ⟨(fun a U g mk q => ⟨q.1, q.2.blind⟩), va_recv hK hP (ci := 8) (q0 := 0) rfl (wC_0 cy ad σ8), (fun U hU hW => ⟨rfl, WdC.pre hP hK hD hN hU hW⟩)⟩ rfl rfl hl.1 rfl (lv_room (Nat.le_of_ble_eq_true rfl)) dX8_areReadingsSo_26 ⟨le_R hRc (Nat.le_refl 0), le_R hRs (Nat.le_refl 0)⟩) hS (fun r11 H locs hr1 hP hS => ?_)
        have hv := hv r11 hr1
        refine lv_if_ne (tgt := 34) hx hb dX8_areReadingsSo_29 (by decide) (fun c12 => ?_) (fun c12 => ?_)
        · have hv := hv.1 c12
          refine lv_iinc (v := (x3 + 1)) (lv' := [(3, .int (x3 + 1)), (0, .ref (ad 0))]) hx hb dX8_areReadingsSo_34 hl (k := 1) rfl rfl (by decide) rfl (fun ls hl => ?_)
          refine lv_goto (tgt := 11) hx hb dX8_areReadingsSo_37 (by decide) ?_
          exact ih11 (x3 + 1) σ8 _ _ _ hv hP hD hS (lv_sub hl [1, 0] rfl)
        · have hv := hv.2 c12
          refine lv_iconst (v := 0) hx hb dX8_areReadingsSo_32 (by decide) ?_
          rw [hZ]; rw [hQ] at hv
          exact W.zret (v := 0) hx hb hr rfl (fun t ht hW => ⟨⟨0, σ8, rfl, hv, ⟨P_of ht hP, hD⟩⟩, hS.F ht⟩) hS.2.2 dX8_areReadingsSo_33
  exact lp11 n11 0 σ2 _ _ _ hv hP hD hS (lv_sub hl [1, 0] rfl)
set_option maxHeartbeats 4000000 in
set_option maxRecDepth 100000 in
theorem wk_X8_areReadingsSoIn (l : Launch) (h_X3_at : Ct_X3_at l) (h_X4_talesOf : Ct_X4_talesOf l) (h_X8_isIn : Ct_X8_isIn l) (sp : Sp_X8_areReadingsSoIn) : Ct_X8_areReadingsSoIn l := by
  intro D cy ad A season_ ag Sg σ0  hpre
  refine Met.ofW (cc := cX8_areReadingsSoIn) (maxL := 4) (ret := (some .boolean)) (by decide) rfl ?_
  intro p e s m args below meth c s₁ B hml hv0
  obtain ⟨rfl, hP, hK, hD, hN⟩ := hv0
  have hx := B.exec
  have hb := B.bytes
  have hr := B.returns
  have hts := atoms_spec (ws := wsX8_areReadingsSoIn) B.pre
  have hown : s.vm.findClass RX8 = some m.cls := findClass_of_methodNamed B.named
  have hlocks := B.notSynchronized
  have hv := sp season_ ag Sg σ0 hpre
  have hl := lv_entry ([.ref (ad 0), .int season_]) (n := 4) (Nat.le_of_ble_eq_true rfl)
  rw [lg_entry_eq]
  generalize (lg_sl ([.ref (ad 0), .int season_]) ++ List.replicate (4 - (lg_sl ([.ref (ad 0), .int season_])).length) Slot.unset).toArray = ls at hl ⊢
  have hl : lv_has ls 4 [(0, .ref (ad 0)), (1, .int season_)] := hl
  refine W_gen (fun R Z H locs hR hZ hH hlo => ?_)
  have hRf : R.frames = 2 := by rw [hR]; rfl
  have hRl : R.locals = 43 := by rw [hR]; rfl
  have hRc : R.cells = 0 := by rw [hR]; rfl
  have hRs : R.slots = 0 := by rw [hR]; rfl
  have hS : va_S A s.heap H locs := by rw [hH, hlo]; exact va_S.rf
  rw [← hH] at hP
  obtain ⟨Q, hQ⟩ : ∃ q : Int32 → Prop, q = (fun r => post_X8_areReadingsSoIn season_ ag Sg σ0 r) := ⟨_, rfl⟩
  rw [← hQ] at hv
  have hinX3 : ∀ w ∈ wsX30, w ∈ wsX8_areReadingsSoIn := by decide +kernel
  have hinX6 : ∀ w ∈ wsX60, w ∈ wsX8_areReadingsSoIn := by decide +kernel
  have hinX8 : ∀ w ∈ wsX80, w ∈ wsX8_areReadingsSoIn := by decide +kernel
  refine lv_iconst (v := 0) hx hb dX8_areReadingsSoIn_0 (by decide) ?_
  refine lv_istore_n (lv' := [(2, .int 0), (0, .ref (ad 0)), (1, .int season_)]) hx hb dX8_areReadingsSoIn_1 rfl hl (by decide) rfl (fun ls hl => ?_)
  obtain ⟨n2, hv⟩ := hv
  have lp2 : ∀ (nn2 : Nat) (x1 : Int32) (H : Heap) (locs : List Loc) (ls : Array Slot), vl_X8_areReadingsSoIn_2 season_ σ0 Q nn2 x1 → va_P D vwCl (wC cy ad σ0) H → va_D A (wC cy ad σ0) → va_S A s.heap H locs → lv_has ls 4 [(0, .ref (ad 0)), (1, .int season_), (2, .int x1)] → W p l e R s m ([.ref (ad 0), .int season_] : List Value).toArray  below meth c H locs 0 0 Z (F0 m 2 ls []) := by
    intro nn2
    induction nn2 with
    | zero => intro x1 H locs ls hv; exact absurd hv id
    | succ mm2 ih2 =>
      intro x1 H locs ls hv hP hD hS hl
      refine lv_iload_n hx hb dX8_areReadingsSoIn_2 rfl (lv_at hl 2 rfl) ?_
      refine lv_aload_n hx hb dX8_areReadingsSoIn_3 rfl (lv_at hl 0 rfl) ?_
      refine va_get (ci := 8) (v := .ref (ad 11)) (C := RX8) (T := TX8) (N := 5) hx hb hts hinX8 hown hK hP 0 (wC_0 cy ad σ0) rfl 2 (by decide) (hts (.fieldLink RX8 27 "TaleBans" "land" "LTaleBans$Steppe;") (List.mem_of_getElem? (i := 1) rfl)) (fun x h => h) rfl dX8_areReadingsSoIn_4 ?_
      refine va_getN (ci := 6) (v := .ref (ad (19))) (C := RX6) (T := TX6) (N := 8) hx hb hts hinX6 hown hK hP 11 (wC_11 cy ad σ0) rfl 4 (by decide) (nw_9 hN) (fun x h => h) rfl dX8_areReadingsSoIn_7 ?_
      refine va_getN (ci := 3) (v := .int (rdI σ0 8)) (C := RX3) (T := TX3) (N := 3) hx hb hts hinX3 hown hK hP 19 (wC_19 cy ad σ0) rfl 2 (by decide) (nw_3 hN) (fun x h => h) rfl dX8_areReadingsSoIn_10 ?_
      refine lv_icmp_ge (tgt := 100) hx hb dX8_areReadingsSoIn_13 (by decide) (fun c13 => ?_) (fun c13 => ?_)
      · have hv := hv.1 c13
        refine lv_iconst (v := 1) hx hb dX8_areReadingsSoIn_100 (by decide) ?_
        rw [hZ]; rw [hQ] at hv
        exact W.zret (v := 1) hx hb hr rfl (fun t ht hW => ⟨⟨1, (), rfl, hv, (P_of ht hP)⟩, hS.F ht⟩) hS.2.2 dX8_areReadingsSoIn_101
      · have hv := hv.2 c13
        refine lv_aload_n hx hb dX8_areReadingsSoIn_16 rfl (lv_at hl 0 rfl) ?_
        refine va_get (ci := 8) (v := .ref (ad 11)) (C := RX8) (T := TX8) (N := 5) hx hb hts hinX8 hown hK hP 0 (wC_0 cy ad σ0) rfl 2 (by decide) (hts (.fieldLink RX8 27 "TaleBans" "land" "LTaleBans$Steppe;") (List.mem_of_getElem? (i := 1) rfl)) (fun x h => h) rfl dX8_areReadingsSoIn_17 ?_
        refine va_getN (ci := 6) (v := .ref (ad (19))) (C := RX6) (T := TX6) (N := 8) hx hb hts hinX6 hown hK hP 11 (wC_11 cy ad σ0) rfl 4 (by decide) (nw_9 hN) (fun x h => h) rfl dX8_areReadingsSoIn_20 ?_
        refine lv_iload_n hx hb dX8_areReadingsSoIn_23 rfl (lv_at hl 2 rfl) ?_
        refine lv_iconst (v := 1) hx hb dX8_areReadingsSoIn_24 (by decide) ?_
        obtain ⟨hp, hv⟩ := hv
        refine k_read_i (w := wC cy ad) (va_runVN (As := [.int x1, .int 1]) (rest := []) ⟨hx, hb, hml, hown, hts⟩ (h_X3_at D cy ad A 3 x1 1 σ0 (show 3 < 4 by decide) hp) ⟨va_cnB 2 hts gX8_areReadingsSoIn_X3_at_n135 rfl rfl rfl (nwm_43 hN) (hts (.initialized RX3) (List.mem_of_getElem? (i := 4) rfl)) (by decide +kernel) ⟨le_R hRf (Nat.le_of_ble_eq_true rfl), le_R hRl (Nat.le_of_ble_eq_true rfl)⟩, (hts (.instanceMethod yX3_at) (List.mem_of_getElem? (i := 3) rfl)), (hts (.selects RX3 yX3_at yX3_at) (List.mem_of_getElem? (i := 5) rfl))⟩ ⟨(fun a U g mk q => ⟨q.1, q.2.blind⟩), va_recv hK hP (ci := 3) (q0 := 19) rfl (wC_19 cy ad σ0), (fun U hU hW => ⟨rfl, WdC.pre hP hK hD hN hU hW⟩)⟩ rfl rfl hl.1 rfl (lv_room (Nat.le_of_ble_eq_true rfl)) dX8_areReadingsSoIn_25 ⟨le_R hRc (Nat.le_refl 0), le_R hRs (Nat.le_refl 0)⟩) hS (fun r H locs hr1 hP hS => ?_)
        subst hr1
        refine lv_iload_n hx hb dX8_areReadingsSoIn_28 rfl (lv_at hl 1 rfl) ?_
        refine lv_icmp_ne (tgt := 94) hx hb dX8_areReadingsSoIn_29 (by decide) (fun c12 => ?_) (fun c12 => ?_)
        · have hv := hv.1 c12
          refine lv_iinc (v := (x1 + 1)) (lv' := [(2, .int (x1 + 1)), (0, .ref (ad 0)), (1, .int season_)]) hx hb dX8_areReadingsSoIn_94 hl (k := 2) rfl rfl (by decide) rfl (fun ls hl => ?_)
          refine lv_goto (tgt := 2) hx hb dX8_areReadingsSoIn_97 (by decide) ?_
          exact ih2 (x1 + 1) _ _ _ hv hP hD hS (lv_sub hl [1, 2, 0] rfl)
        · have hv := hv.2 c12
          refine lv_aload_n hx hb dX8_areReadingsSoIn_32 rfl (lv_at hl 0 rfl) ?_
          refine va_get (ci := 8) (v := .ref (ad 11)) (C := RX8) (T := TX8) (N := 5) hx hb hts hinX8 hown hK hP 0 (wC_0 cy ad σ0) rfl 2 (by decide) (hts (.fieldLink RX8 27 "TaleBans" "land" "LTaleBans$Steppe;") (List.mem_of_getElem? (i := 1) rfl)) (fun x h => h) rfl dX8_areReadingsSoIn_33 ?_
          refine va_getN (ci := 6) (v := .ref (ad (19))) (C := RX6) (T := TX6) (N := 8) hx hb hts hinX6 hown hK hP 11 (wC_11 cy ad σ0) rfl 4 (by decide) (nw_9 hN) (fun x h => h) rfl dX8_areReadingsSoIn_36 ?_
          refine lv_iload_n hx hb dX8_areReadingsSoIn_39 rfl (lv_at hl 2 rfl) ?_
          refine lv_iconst (v := 2) hx hb dX8_areReadingsSoIn_40 (by decide) ?_
          obtain ⟨hp, hv⟩ := hv
          refine k_read_i (w := wC cy ad) (va_runVN (As := [.int x1, .int 2]) (rest := []) ⟨hx, hb, hml, hown, hts⟩ (h_X3_at D cy ad A 3 x1 2 σ0 (show 3 < 4 by decide) hp) ⟨va_cnB 2 hts gX8_areReadingsSoIn_X3_at_n135 rfl rfl rfl (nwm_43 hN) (hts (.initialized RX3) (List.mem_of_getElem? (i := 4) rfl)) (by decide +kernel) ⟨le_R hRf (Nat.le_of_ble_eq_true rfl), le_R hRl (Nat.le_of_ble_eq_true rfl)⟩, (hts (.instanceMethod yX3_at) (List.mem_of_getElem? (i := 3) rfl)), (hts (.selects RX3 yX3_at yX3_at) (List.mem_of_getElem? (i := 5) rfl))⟩ ⟨(fun a U g mk q => ⟨q.1, q.2.blind⟩), va_recv hK hP (ci := 3) (q0 := 19) rfl (wC_19 cy ad σ0), (fun U hU hW => ⟨rfl, WdC.pre hP hK hD hN hU hW⟩)⟩ rfl rfl hl.1 rfl (lv_room (Nat.le_of_ble_eq_true rfl)) dX8_areReadingsSoIn_41 ⟨le_R hRc (Nat.le_refl 0), le_R hRs (Nat.le_refl 0)⟩) hS (fun r H locs hr1 hP hS => ?_)
          subst hr1
          refine lv_aload_n hx hb dX8_areReadingsSoIn_44 rfl (lv_at hl 0 rfl) ?_
          refine va_get (ci := 8) (v := .ref (ad 21)) (C := RX8) (T := TX8) (N := 5) hx hb hts hinX8 hown hK hP 0 (wC_0 cy ad σ0) rfl 3 (by decide) (hts (.fieldLink RX8 36 "TaleBans" "seasons" "LTaleBans$Seasons;") (List.mem_of_getElem? (i := 2) rfl)) (fun x h => h) rfl dX8_areReadingsSoIn_45 ?_
          refine lv_aload_n hx hb dX8_areReadingsSoIn_48 rfl (lv_at hl 0 rfl) ?_
          refine va_get (ci := 8) (v := .ref (ad 11)) (C := RX8) (T := TX8) (N := 5) hx hb hts hinX8 hown hK hP 0 (wC_0 cy ad σ0) rfl 2 (by decide) (hts (.fieldLink RX8 27 "TaleBans" "land" "LTaleBans$Steppe;") (List.mem_of_getElem? (i := 1) rfl)) (fun x h => h) rfl dX8_areReadingsSoIn_49 ?_
          refine va_getN (ci := 6) (v := .ref (ad (19))) (C := RX6) (T := TX6) (N := 8) hx hb hts hinX6 hown hK hP 11 (wC_11 cy ad σ0) rfl 4 (by decide) (nw_9 hN) (fun x h => h) rfl dX8_areReadingsSoIn_52 ?_
          refine lv_iload_n hx hb dX8_areReadingsSoIn_55 rfl (lv_at hl 2 rfl) ?_
          refine lv_iconst (v := 0) hx hb dX8_areReadingsSoIn_56 (by decide) ?_
          obtain ⟨hp, hv⟩ := hv
          refine k_read_i (w := wC cy ad) (va_runVN (As := [.int x1, .int 0]) (rest := [.ref (ad 21), .int (fn_X3_at 3 x1 2 σ0)]) ⟨hx, hb, hml, hown, hts⟩ (h_X3_at D cy ad A 3 x1 0 σ0 (show 3 < 4 by decide) hp) ⟨va_cnB 2 hts gX8_areReadingsSoIn_X3_at_n135 rfl rfl rfl (nwm_43 hN) (hts (.initialized RX3) (List.mem_of_getElem? (i := 4) rfl)) (by decide +kernel) ⟨le_R hRf (Nat.le_of_ble_eq_true rfl), le_R hRl (Nat.le_of_ble_eq_true rfl)⟩, (hts (.instanceMethod yX3_at) (List.mem_of_getElem? (i := 3) rfl)), (hts (.selects RX3 yX3_at yX3_at) (List.mem_of_getElem? (i := 5) rfl))⟩ ⟨(fun a U g mk q => ⟨q.1, q.2.blind⟩), va_recv hK hP (ci := 3) (q0 := 19) rfl (wC_19 cy ad σ0), (fun U hU hW => ⟨rfl, WdC.pre hP hK hD hN hU hW⟩)⟩ rfl rfl hl.1 rfl (lv_room (Nat.le_of_ble_eq_true rfl)) dX8_areReadingsSoIn_57 ⟨le_R hRc (Nat.le_refl 0), le_R hRs (Nat.le_refl 0)⟩) hS (fun r H locs hr1 hP hS => ?_)
          subst hr1
          obtain ⟨g2, g3, g4, g5, hv⟩ := hv
          obtain ⟨hp, hv⟩ := hv
          refine k_read_i (w := wC cy ad) (va_runVN (As := [.int (fn_X3_at 3 x1 0 σ0)]) (rest := [.int (fn_X3_at 3 x1 2 σ0)]) ⟨hx, hb, hml, hown, hts⟩ (h_X4_talesOf D cy ad A (fn_X3_at 3 x1 0 σ0) g2 g3 g4 g5 σ0 hp) ⟨va_cnB 1 hts gX8_areReadingsSoIn_X4_talesOf_n146 rfl rfl rfl (nwm_51 hN) (hts (.initialized RX4) (List.mem_of_getElem? (i := 17) rfl)) (by decide +kernel) ⟨le_R hRf (Nat.le_of_ble_eq_true rfl), le_R hRl (Nat.le_of_ble_eq_true rfl)⟩, (hts (.instanceMethod yX4_talesOf) (List.mem_of_getElem? (i := 16) rfl)), (hts (.selects RX4 yX4_talesOf yX4_talesOf) (List.mem_of_getElem? (i := 18) rfl))⟩ ⟨(fun a U g mk q => ⟨q.1, q.2.blind⟩), va_recv hK hP (ci := 4) (q0 := 21) rfl (wC_21 cy ad σ0), (fun U hU hW => ⟨rfl, WdC.pre hP hK hD hN hU hW⟩)⟩ rfl rfl hl.1 rfl (lv_room (Nat.le_of_ble_eq_true rfl)) dX8_areReadingsSoIn_60 ⟨le_R hRc (Nat.le_refl 0), le_R hRs (Nat.le_refl 0)⟩) hS (fun r6 H locs hr1 hP hS => ?_)
          have hv := hv r6 hr1
          refine k_pure_i (va_runS (As := [.int (fn_X3_at 3 x1 2 σ0), .int r6]) (rest := []) ⟨hx, hb, hml, hown, hts⟩ (h_X8_isIn (fn_X3_at 3 x1 2 σ0) r6) (va_cwS 2 hts gX8_areReadingsSoIn_X8_isIn rfl rfl rfl (by decide +kernel) ⟨le_R hRf (Nat.le_of_ble_eq_true rfl), le_R hRl (Nat.le_of_ble_eq_true rfl)⟩) ⟨(fun a U g mk q => ⟨q.1, trivial⟩), (fun U hU hW => ⟨rfl, trivial⟩)⟩ rfl rfl hl.1 rfl (lv_room (Nat.le_of_ble_eq_true rfl)) dX8_areReadingsSoIn_63 ⟨le_R hRc (Nat.le_refl 0), le_R hRs (Nat.le_refl 0)⟩) hS hP (fun r H locs hr1 hP hS => ?_)
          subst hr1
          refine lv_istore_n (lv' := [(3, .int (fn_X8_isIn (fn_X3_at 3 x1 2 σ0) r6)), (0, .ref (ad 0)), (1, .int season_), (2, .int x1)]) hx hb dX8_areReadingsSoIn_66 rfl hl (by decide) rfl (fun ls hl => ?_)
          refine lv_iload_n hx hb dX8_areReadingsSoIn_67 rfl (lv_at hl 0 rfl) ?_
          refine lv_aload_n hx hb dX8_areReadingsSoIn_68 rfl (lv_at hl 1 rfl) ?_
          refine va_get (ci := 8) (v := .ref (ad 11)) (C := RX8) (T := TX8) (N := 5) hx hb hts hinX8 hown hK hP 0 (wC_0 cy ad σ0) rfl 2 (by decide) (hts (.fieldLink RX8 27 "TaleBans" "land" "LTaleBans$Steppe;") (List.mem_of_getElem? (i := 1) rfl)) (fun x h => h) rfl dX8_areReadingsSoIn_69 ?_
          refine va_getN (ci := 6) (v := .ref (ad (19))) (C := RX6) (T := TX6) (N := 8) hx hb hts hinX6 hown hK hP 11 (wC_11 cy ad σ0) rfl 4 (by decide) (nw_9 hN) (fun x h => h) rfl dX8_areReadingsSoIn_72 ?_
          refine lv_iload_n hx hb dX8_areReadingsSoIn_75 rfl (lv_at hl 3 rfl) ?_
          refine lv_iconst (v := 3) hx hb dX8_areReadingsSoIn_76 (by decide) ?_
          obtain ⟨hp, hv⟩ := hv
          refine k_read_i (w := wC cy ad) (va_runVN (As := [.int x1, .int 3]) (rest := [.int (fn_X8_isIn (fn_X3_at 3 x1 2 σ0) r6)]) ⟨hx, hb, hml, hown, hts⟩ (h_X3_at D cy ad A 3 x1 3 σ0 (show 3 < 4 by decide) hp) ⟨va_cnB 2 hts gX8_areReadingsSoIn_X3_at_n135 rfl rfl rfl (nwm_43 hN) (hts (.initialized RX3) (List.mem_of_getElem? (i := 4) rfl)) (by decide +kernel) ⟨le_R hRf (Nat.le_of_ble_eq_true rfl), le_R hRl (Nat.le_of_ble_eq_true rfl)⟩, (hts (.instanceMethod yX3_at) (List.mem_of_getElem? (i := 3) rfl)), (hts (.selects RX3 yX3_at yX3_at) (List.mem_of_getElem? (i := 5) rfl))⟩ ⟨(fun a U g mk q => ⟨q.1, q.2.blind⟩), va_recv hK hP (ci := 3) (q0 := 19) rfl (wC_19 cy ad σ0), (fun U hU hW => ⟨rfl, WdC.pre hP hK hD hN hU hW⟩)⟩ rfl rfl hl.1 rfl (lv_room (Nat.le_of_ble_eq_true rfl)) dX8_areReadingsSoIn_77 ⟨le_R hRc (Nat.le_refl 0), le_R hRs (Nat.le_refl 0)⟩) hS (fun r H locs hr1 hP hS => ?_)
          subst hr1
          refine lv_iconst (v := 1) hx hb dX8_areReadingsSoIn_80 (by decide) ?_
          obtain ⟨P7, hv, hvr⟩ := hv
          have jn8 : ∀ (b9 : Int32) (H : Heap) (locs : List Loc) (ls : Array Slot), P7 b9 → va_P D vwCl (wC cy ad σ0) H → va_S A s.heap H locs → lv_has ls 4 [(3, .int (fn_X8_isIn (fn_X3_at 3 x1 2 σ0) r6)), (0, .ref (ad 0)), (1, .int season_), (2, .int x1)] → W p l e R s m ([.ref (ad 0), .int season_] : List Value).toArray below meth c H locs 0 0 Z (F0 m 89 ls [.int b9, .int (fn_X8_isIn (fn_X3_at 3 x1 2 σ0) r6)]) := by
            intro b9 H locs ls hv hP hS hl
            have hv := hvr b9 hv
            refine lv_icmp_eq (tgt := 94) hx hb dX8_areReadingsSoIn_89 (by decide) (fun c11 => ?_) (fun c11 => ?_)
            · have hv := hv.1 c11
              refine lv_iinc (v := (x1 + 1)) (lv' := [(2, .int (x1 + 1)), (3, .int (fn_X8_isIn (fn_X3_at 3 x1 2 σ0) r6)), (0, .ref (ad 0)), (1, .int season_)]) hx hb dX8_areReadingsSoIn_94 hl (k := 3) rfl rfl (by decide) rfl (fun ls hl => ?_)
              refine lv_goto (tgt := 2) hx hb dX8_areReadingsSoIn_97 (by decide) ?_
              exact ih2 (x1 + 1) _ _ _ hv hP hD hS (lv_sub hl [2, 3, 0] rfl)
            · have hv := hv.2 c11
              refine lv_iconst (v := 0) hx hb dX8_areReadingsSoIn_92 (by decide) ?_
              rw [hZ]; rw [hQ] at hv
              exact W.zret (v := 0) hx hb hr rfl (fun t ht hW => ⟨⟨0, (), rfl, hv, (P_of ht hP)⟩, hS.F ht⟩) hS.2.2 dX8_areReadingsSoIn_93
          refine lv_icmp_ne (tgt := 88) hx hb dX8_areReadingsSoIn_81 (by decide) (fun c10 => ?_) (fun c10 => ?_)
          · have hv := hv.1 c10
            refine lv_iconst (v := 0) hx hb dX8_areReadingsSoIn_88 (by decide) ?_
            exact jn8 0 _ _ _ hv hP hS hl
          · have hv := hv.2 c10
            refine lv_iconst (v := 1) hx hb dX8_areReadingsSoIn_84 (by decide) ?_
            refine lv_goto (tgt := 89) hx hb dX8_areReadingsSoIn_85 (by decide) ?_
            exact jn8 1 _ _ _ hv hP hS hl
  exact lp2 n2 0 _ _ _ hv hP hD hS (lv_sub hl [1, 2, 0] rfl)
set_option maxHeartbeats 4000000 in
set_option maxRecDepth 100000 in
theorem wk_X8_ofPerson (l : Launch) (h_X0_kind : Ct_X0_kind l) (h_X0_memory : Ct_X0_memory l) (h_X1_kind : Ct_X1_kind l) (h_X1_memory : Ct_X1_memory l) (h_X2_kind : Ct_X2_kind l) (h_X2_memory : Ct_X2_memory l) (h_X6_person : Ct_X6_person l) (h_X8_isIn : Ct_X8_isIn l) (sp : Sp_X8_ofPerson) : Ct_X8_ofPerson l := by
  intro D cy ad A p_ what_ ag σ0  hpre
  refine Met.ofW (cc := cX8_ofPerson) (maxL := 4) (ret := (some .int)) (by decide) rfl ?_
  intro p e s m args below meth c s₁ B hml hv0
  obtain ⟨rfl, hP, hK, hD, hN⟩ := hv0
  have hx := B.exec
  have hb := B.bytes
  have hr := B.returns
  have hts := atoms_spec (ws := wsX8_ofPerson) B.pre
  have hown : s.vm.findClass RX8 = some m.cls := findClass_of_methodNamed B.named
  have hlocks := B.notSynchronized
  have hv := sp p_ what_ ag σ0 hpre
  have hl := lv_entry ([.ref (ad 0), .int p_, .int what_]) (n := 4) (Nat.le_of_ble_eq_true rfl)
  rw [lg_entry_eq]
  generalize (lg_sl ([.ref (ad 0), .int p_, .int what_]) ++ List.replicate (4 - (lg_sl ([.ref (ad 0), .int p_, .int what_])).length) Slot.unset).toArray = ls at hl ⊢
  have hl : lv_has ls 4 [(0, .ref (ad 0)), (1, .int p_), (2, .int what_)] := hl
  refine W_gen (fun R Z H locs hR hZ hH hlo => ?_)
  have hRf : R.frames = 3 := by rw [hR]; rfl
  have hRl : R.locals = 60 := by rw [hR]; rfl
  have hRc : R.cells = 0 := by rw [hR]; rfl
  have hRs : R.slots = 0 := by rw [hR]; rfl
  have hS : va_S A s.heap H locs := by rw [hH, hlo]; exact va_S.rf
  rw [← hH] at hP
  obtain ⟨Q, hQ⟩ : ∃ q : Int32 → S_ → Prop, q = (post_X8_ofPerson p_ what_ ag σ0) := ⟨_, rfl⟩
  rw [← hQ] at hv
  have hinX0 : ∀ w ∈ wsX00, w ∈ wsX8_ofPerson := by decide +kernel
  have hinX1 : ∀ w ∈ wsX10, w ∈ wsX8_ofPerson := by decide +kernel
  have hinX2 : ∀ w ∈ wsX20, w ∈ wsX8_ofPerson := by decide +kernel
  have hinX6 : ∀ w ∈ wsX60, w ∈ wsX8_ofPerson := by decide +kernel
  have hinX8 : ∀ w ∈ wsX80, w ∈ wsX8_ofPerson := by decide +kernel
  refine lv_aload_n hx hb dX8_ofPerson_0 rfl (lv_at hl 0 rfl) ?_
  refine va_get (ci := 8) (v := .ref (ad 11)) (C := RX8) (T := TX8) (N := 5) hx hb hts hinX8 hown hK hP 0 (wC_0 cy ad σ0) rfl 2 (by decide) (hts (.fieldLink RX8 27 "TaleBans" "land" "LTaleBans$Steppe;") (List.mem_of_getElem? (i := 1) rfl)) (fun x h => h) rfl dX8_ofPerson_1 ?_
  refine lv_iload_n hx hb dX8_ofPerson_4 rfl (lv_at hl 1 rfl) ?_
  obtain ⟨hp, hv⟩ := hv
  refine k_read_e (w := wC cy ad) (va_runVN (As := [.int p_]) (rest := []) ⟨hx, hb, hml, hown, hts⟩ (h_X6_person D cy ad A p_ σ0 hp) ⟨va_cnB 1 hts gX8_ofPerson_X6_person_n72 rfl rfl rfl (nwm_35 hN) (hts (.initialized RX6) (List.mem_of_getElem? (i := 3) rfl)) (by decide +kernel) ⟨le_R hRf (Nat.le_of_ble_eq_true rfl), le_R hRl (Nat.le_of_ble_eq_true rfl)⟩, (hts (.instanceMethod yX6_person) (List.mem_of_getElem? (i := 2) rfl)), (hts (.selects RX6 yX6_person yX6_person) (List.mem_of_getElem? (i := 4) rfl))⟩ ⟨(fun a U g mk q => ⟨q.1, q.2.blind⟩), va_recv hK hP (ci := 6) (q0 := 11) rfl (wC_11 cy ad σ0), (fun U hU hW => ⟨rfl, WdC.pre hP hK hD hN hU hW⟩)⟩ rfl rfl hl.1 rfl (lv_room (Nat.le_of_ble_eq_true rfl)) dX8_ofPerson_5 ⟨le_R hRc (Nat.le_refl 0), le_R hRs (Nat.le_refl 0)⟩) hS (fun r H locs hr1 hP hS => ?_)
  subst hr1
  cases o2 : (fn_X6_person p_ σ0) with
  | none =>
    have hv := hv.1 o2
    refine W_top (v' := .null) rfl ?_
    refine lv_astore_nN (lv' := [(3, .null), (0, .ref (ad 0)), (1, .int p_), (2, .int what_)]) hx hb dX8_ofPerson_8 rfl hl (by decide) rfl (fun ls hl => ?_)
    refine lv_aload_nN hx hb dX8_ofPerson_9 rfl (lv_at hl 0 rfl) ?_
    refine lv_ifnonnullN hx hb dX8_ofPerson_10 ?_
    refine lv_iconst (v := (-1)) hx hb dX8_ofPerson_13 (by decide) ?_
    rw [hZ]; rw [hQ] at hv
    exact W.iret (v := (-1)) hx hb hr (fun t ht hW => ⟨⟨(-1), σ0, rfl, hv, ⟨P_of ht hP, hD⟩⟩, hS.F ht⟩) hS.2.2 dX8_ofPerson_14
  | some j1 =>
    obtain ⟨hj_j1, hv⟩ := hv.2 j1 o2
    refine W_top (v' := .ref ((hget σ0 j1).1)) rfl ?_
    refine lv_astore_n (lv' := [(3, .ref ((hget σ0 j1).1)), (0, .ref (ad 0)), (1, .int p_), (2, .int what_)]) hx hb dX8_ofPerson_8 rfl hl (by decide) rfl (fun ls hl => ?_)
    refine lv_aload_n hx hb dX8_ofPerson_9 rfl (lv_at hl 0 rfl) ?_
    refine lv_ifnonnull (tgt := 15) hx hb dX8_ofPerson_10 (by decide) ?_
    refine lv_iload_n hx hb dX8_ofPerson_15 rfl (lv_at hl 3 rfl) ?_
    by_cases c5 : what_ = 0
    · have hv := hv.1 c5
      refine lv_tableIn (tgt := 52) hx hb dX8_ofPerson_16 (by rw [c5]; decide) (by rw [c5]; decide) (by first | (rw [c5]; done) | (rw [c5]; rfl)) (by decide) ?_
      refine lv_aload_n hx hb dX8_ofPerson_52 rfl (lv_at hl 0 rfl) ?_
      obtain ⟨⟨hq, hc⟩, hv⟩ := hv
      have hk4 : ∀ (r : Int32) (H : Heap) (locs : List Loc), r = (fn_PE_kind j1 σ0) → va_P D vwCl (wC cy ad σ0) H → va_S A s.heap H locs → W p l e R s m ([.ref (ad 0), .int p_, .int what_] : List Value).toArray below meth c H locs 0 0 Z (F0 m (53 + 3) ls (.int r :: [])) := by
        intro r H locs hr1 hP hS
        subst hr1
        rw [hZ]; rw [hQ] at hv
        exact W.iret (v := (fn_PE_kind j1 σ0)) hx hb hr (fun t ht hW => ⟨⟨(fn_PE_kind j1 σ0), σ0, rfl, hv, ⟨P_of ht hP, hD⟩⟩, hS.F ht⟩) hS.2.2 dX8_ofPerson_56
      rcases hc with hc | hc | hc
      · exact k_read_i (w := wC cy ad) (va_runU (As := []) (rest := []) ⟨hx, hb, hml, hown, hts⟩ (h_X0_kind D cy ad A j1 σ0 ⟨hq, hc⟩) (va_cwO 0 hts gX8_ofPerson_X0_kind_u76X0 rfl rfl rfl (List.mem_of_getElem? (i := 18) rfl) (by decide +kernel) ⟨le_R hRf (Nat.le_of_ble_eq_true rfl), le_R hRl (Nat.le_of_ble_eq_true rfl)⟩) ⟨(fun a U g mk q => ⟨q.1, q.2.blind⟩), va_recv hK hP (ci := 0) (q0 := 28 + j1) rfl (wC_hd cy ad rfl hq hc), (fun U hU hW => ⟨rfl, WdC.pre hP hK hD hN hU hW⟩)⟩ rfl rfl hl.1 rfl (lv_room (Nat.le_of_ble_eq_true rfl)) dX8_ofPerson_53 ⟨le_R hRc (Nat.le_refl 0), le_R hRs (Nat.le_refl 0)⟩) hS (fun r H locs hr1 hP hS => hk4 r H locs (hr1.trans (pe_kind_0 (hc))) hP hS)
      · exact k_read_i (w := wC cy ad) (va_runU (As := []) (rest := []) ⟨hx, hb, hml, hown, hts⟩ (h_X1_kind D cy ad A j1 σ0 ⟨hq, hc⟩) (va_cwO 0 hts gX8_ofPerson_X1_kind_u76X1 rfl rfl rfl (List.mem_of_getElem? (i := 18) rfl) (by decide +kernel) ⟨le_R hRf (Nat.le_of_ble_eq_true rfl), le_R hRl (Nat.le_of_ble_eq_true rfl)⟩) ⟨(fun a U g mk q => ⟨q.1, q.2.blind⟩), va_recv hK hP (ci := 1) (q0 := 28 + j1) rfl (wC_hd cy ad rfl hq hc), (fun U hU hW => ⟨rfl, WdC.pre hP hK hD hN hU hW⟩)⟩ rfl rfl hl.1 rfl (lv_room (Nat.le_of_ble_eq_true rfl)) dX8_ofPerson_53 ⟨le_R hRc (Nat.le_refl 0), le_R hRs (Nat.le_refl 0)⟩) hS (fun r H locs hr1 hP hS => hk4 r H locs (hr1.trans (pe_kind_1 (hc))) hP hS)
      · exact k_read_i (w := wC cy ad) (va_runV (As := []) (rest := []) ⟨hx, hb, hml, hown, hts⟩ (h_X2_kind D cy ad A j1 σ0 ⟨hq, hc⟩) (cwV 0 hts gX8_ofPerson_X2_kind rfl rfl rfl (by decide +kernel) ⟨le_R hRf (Nat.le_of_ble_eq_true rfl), le_R hRl (Nat.le_of_ble_eq_true rfl)⟩) ⟨(fun a U g mk q => ⟨q.1, q.2.blind⟩), va_recv hK hP (ci := 2) (q0 := 28 + j1) rfl (wC_hd cy ad rfl hq hc), (fun U hU hW => ⟨rfl, WdC.pre hP hK hD hN hU hW⟩)⟩ rfl rfl hl.1 rfl (lv_room (Nat.le_of_ble_eq_true rfl)) dX8_ofPerson_53 ⟨le_R hRc (Nat.le_refl 0), le_R hRs (Nat.le_refl 0)⟩) hS (fun r H locs hr1 hP hS => hk4 r H locs (hr1.trans (pe_kind_2 (hc))) hP hS)
    · have hv := hv.2 c5
      by_cases c7 : what_ = 1
      · have hv := hv.1 c7
        refine lv_tableIn (tgt := 57) hx hb dX8_ofPerson_16 (by rw [c7]; decide) (by rw [c7]; decide) (by first | (rw [c7]; done) | (rw [c7]; rfl)) (by decide) ?_
        refine lv_aload_n hx hb dX8_ofPerson_57 rfl (lv_at hl 0 rfl) ?_
        obtain ⟨⟨hq, hc⟩, hv⟩ := hv
        have hk6 : W p l e R s m ([.ref (ad 0), .int p_, .int what_] : List Value).toArray below meth c H locs 0 0 Z (F0 m (58 + 3) ls [.int ((hget σ0 j1).2.2.2.1)]) := by
          rw [hZ]; rw [hQ] at hv
          exact W.iret (v := (hget σ0 j1).2.2.2.1) hx hb hr (fun t ht hW => ⟨⟨(hget σ0 j1).2.2.2.1, σ0, rfl, hv, ⟨P_of ht hP, hD⟩⟩, hS.F ht⟩) hS.2.2 dX8_ofPerson_61
        rcases hc with hc | hc | hc
        · exact va_getN (ci := 0) (v := .int ((hget σ0 j1).2.2.2.1)) (C := RX0) (T := TX0) (N := 3) hx hb hts hinX0 hown hK hP (28 + j1) (wC_hd cy ad rfl hq hc) rfl 1 (by decide) (nw_16 hN) (fun x h => h) rfl dX8_ofPerson_58 hk6
        · exact va_getN (ci := 1) (v := .int ((hget σ0 j1).2.2.2.1)) (C := RX1) (T := TX1) (N := 3) hx hb hts hinX1 hown hK hP (28 + j1) (wC_hd cy ad rfl hq hc) rfl 1 (by decide) (nw_16 hN) (fun x h => h) rfl dX8_ofPerson_58 hk6
        · exact va_getN (ci := 2) (v := .int ((hget σ0 j1).2.2.2.1)) (C := RX2) (T := TX2) (N := 3) hx hb hts hinX2 hown hK hP (28 + j1) (wC_hd cy ad rfl hq hc) rfl 1 (by decide) (nw_16 hN) (fun x h => h) rfl dX8_ofPerson_58 hk6
      · have hv := hv.2 c7
        by_cases c9 : what_ = 2
        · have hv := hv.1 c9
          refine lv_tableIn (tgt := 62) hx hb dX8_ofPerson_16 (by rw [c9]; decide) (by rw [c9]; decide) (by first | (rw [c9]; done) | (rw [c9]; rfl)) (by decide) ?_
          refine lv_aload_n hx hb dX8_ofPerson_62 rfl (lv_at hl 0 rfl) ?_
          obtain ⟨⟨hq, hc⟩, hv⟩ := hv
          have hk8 : W p l e R s m ([.ref (ad 0), .int p_, .int what_] : List Value).toArray below meth c H locs 0 0 Z (F0 m (63 + 3) ls [.int ((hget σ0 j1).2.2.2.2)]) := by
            rw [hZ]; rw [hQ] at hv
            exact W.iret (v := (hget σ0 j1).2.2.2.2) hx hb hr (fun t ht hW => ⟨⟨(hget σ0 j1).2.2.2.2, σ0, rfl, hv, ⟨P_of ht hP, hD⟩⟩, hS.F ht⟩) hS.2.2 dX8_ofPerson_66
          rcases hc with hc | hc | hc
          · exact va_getN (ci := 0) (v := .int ((hget σ0 j1).2.2.2.2)) (C := RX0) (T := TX0) (N := 3) hx hb hts hinX0 hown hK hP (28 + j1) (wC_hd cy ad rfl hq hc) rfl 2 (by decide) (nw_18 hN) (fun x h => h) rfl dX8_ofPerson_63 hk8
          · exact va_getN (ci := 1) (v := .int ((hget σ0 j1).2.2.2.2)) (C := RX1) (T := TX1) (N := 3) hx hb hts hinX1 hown hK hP (28 + j1) (wC_hd cy ad rfl hq hc) rfl 2 (by decide) (nw_18 hN) (fun x h => h) rfl dX8_ofPerson_63 hk8
          · exact va_getN (ci := 2) (v := .int ((hget σ0 j1).2.2.2.2)) (C := RX2) (T := TX2) (N := 3) hx hb hts hinX2 hown hK hP (28 + j1) (wC_hd cy ad rfl hq hc) rfl 2 (by decide) (nw_18 hN) (fun x h => h) rfl dX8_ofPerson_63 hk8
        · have hv := hv.2 c9
          by_cases c11 : what_ = 3
          · have hv := hv.1 c11
            refine lv_tableIn (tgt := 67) hx hb dX8_ofPerson_16 (by rw [c11]; decide) (by rw [c11]; decide) (by first | (rw [c11]; done) | (rw [c11]; rfl)) (by decide) ?_
            refine lv_aload_n hx hb dX8_ofPerson_67 rfl (lv_at hl 0 rfl) ?_
            obtain ⟨⟨hq, hc⟩, hv⟩ := hv
            have hk10 : ∀ (r : Int32) (H : Heap) (locs : List Loc), r = (fn_PE_memory j1 σ0) → va_P D vwCl (wC cy ad σ0) H → va_S A s.heap H locs → W p l e R s m ([.ref (ad 0), .int p_, .int what_] : List Value).toArray below meth c H locs 0 0 Z (F0 m (68 + 3) ls (.int r :: [])) := by
              intro r H locs hr1 hP hS
              subst hr1
              rw [hZ]; rw [hQ] at hv
              exact W.iret (v := (fn_PE_memory j1 σ0)) hx hb hr (fun t ht hW => ⟨⟨(fn_PE_memory j1 σ0), σ0, rfl, hv, ⟨P_of ht hP, hD⟩⟩, hS.F ht⟩) hS.2.2 dX8_ofPerson_71
            rcases hc with hc | hc | hc
            · exact k_read_i (w := wC cy ad) (va_runU (As := []) (rest := []) ⟨hx, hb, hml, hown, hts⟩ (h_X0_memory D cy ad A j1 σ0 ⟨hq, Or.inl hc⟩) (va_cwO 0 hts gX8_ofPerson_X0_memory_u88X0 rfl rfl rfl (List.mem_of_getElem? (i := 36) rfl) (by decide +kernel) ⟨le_R hRf (Nat.le_of_ble_eq_true rfl), le_R hRl (Nat.le_of_ble_eq_true rfl)⟩) ⟨(fun a U g mk q => ⟨q.1, q.2.blind⟩), va_recv hK hP (ci := 0) (q0 := 28 + j1) rfl (wC_hd cy ad rfl hq hc), (fun U hU hW => ⟨rfl, WdC.pre hP hK hD hN hU hW⟩)⟩ rfl rfl hl.1 rfl (lv_room (Nat.le_of_ble_eq_true rfl)) dX8_ofPerson_68 ⟨le_R hRc (Nat.le_refl 0), le_R hRs (Nat.le_refl 0)⟩) hS (fun r H locs hr1 hP hS => hk10 r H locs (hr1.trans (pe_memory_0 (hc))) hP hS)
            · exact k_read_i (w := wC cy ad) (va_runU (As := []) (rest := []) ⟨hx, hb, hml, hown, hts⟩ (h_X1_memory D cy ad A j1 σ0 ⟨hq, hc⟩) (va_cwO 0 hts gX8_ofPerson_X1_memory_u88X1 rfl rfl rfl (List.mem_of_getElem? (i := 36) rfl) (by decide +kernel) ⟨le_R hRf (Nat.le_of_ble_eq_true rfl), le_R hRl (Nat.le_of_ble_eq_true rfl)⟩) ⟨(fun a U g mk q => ⟨q.1, q.2.blind⟩), va_recv hK hP (ci := 1) (q0 := 28 + j1) rfl (wC_hd cy ad rfl hq hc), (fun U hU hW => ⟨rfl, WdC.pre hP hK hD hN hU hW⟩)⟩ rfl rfl hl.1 rfl (lv_room (Nat.le_of_ble_eq_true rfl)) dX8_ofPerson_68 ⟨le_R hRc (Nat.le_refl 0), le_R hRs (Nat.le_refl 0)⟩) hS (fun r H locs hr1 hP hS => hk10 r H locs (hr1.trans (pe_memory_1 (hc))) hP hS)
            · exact k_read_i (w := wC cy ad) (va_runV (As := []) (rest := []) ⟨hx, hb, hml, hown, hts⟩ (h_X2_memory D cy ad A j1 σ0 ⟨hq, isC_2 hc⟩) (cwV 0 hts gX8_ofPerson_X2_memory rfl rfl rfl (by decide +kernel) ⟨le_R hRf (Nat.le_of_ble_eq_true rfl), le_R hRl (Nat.le_of_ble_eq_true rfl)⟩) ⟨(fun a U g mk q => ⟨q.1, q.2.blind⟩), va_recv hK hP (ci := 2) (q0 := 28 + j1) rfl (wC_hd cy ad rfl hq hc), (fun U hU hW => ⟨rfl, WdC.pre hP hK hD hN hU hW⟩)⟩ rfl rfl hl.1 rfl (lv_room (Nat.le_of_ble_eq_true rfl)) dX8_ofPerson_68 ⟨le_R hRc (Nat.le_refl 0), le_R hRs (Nat.le_refl 0)⟩) hS (fun r H locs hr1 hP hS => hk10 r H locs (hr1.trans (pe_memory_2 (hc))) hP hS)
          · have hv := hv.2 c11
            by_cases c13 : what_ = 4
            · have hv := hv.1 c13
              refine lv_tableIn (tgt := 72) hx hb dX8_ofPerson_16 (by rw [c13]; decide) (by rw [c13]; decide) (by first | (rw [c13]; done) | (rw [c13]; rfl)) (by decide) ?_
              refine lv_iload_n hx hb dX8_ofPerson_72 rfl (lv_at hl 2 rfl) ?_
              refine lv_aload_n hx hb dX8_ofPerson_73 rfl (lv_at hl 1 rfl) ?_
              refine va_get (ci := 8) (v := .ref (ad 11)) (C := RX8) (T := TX8) (N := 5) hx hb hts hinX8 hown hK hP 0 (wC_0 cy ad σ0) rfl 2 (by decide) (hts (.fieldLink RX8 27 "TaleBans" "land" "LTaleBans$Steppe;") (List.mem_of_getElem? (i := 1) rfl)) (fun x h => h) rfl dX8_ofPerson_74 ?_
              refine va_getN (ci := 6) (v := .int (rdI σ0 3)) (C := RX6) (T := TX6) (N := 8) hx hb hts hinX6 hown hK hP 11 (wC_11 cy ad σ0) rfl 6 (by decide) (nw_12 hN) (fun x h => h) rfl dX8_ofPerson_77 ?_
              refine k_pure_i (va_runS (As := [.int p_, .int (rdI σ0 3)]) (rest := []) ⟨hx, hb, hml, hown, hts⟩ (h_X8_isIn p_ (rdI σ0 3)) (va_cwS 2 hts gX8_ofPerson_X8_isIn rfl rfl rfl (by decide +kernel) ⟨le_R hRf (Nat.le_of_ble_eq_true rfl), le_R hRl (Nat.le_of_ble_eq_true rfl)⟩) ⟨(fun a U g mk q => ⟨q.1, trivial⟩), (fun U hU hW => ⟨rfl, trivial⟩)⟩ rfl rfl hl.1 rfl (lv_room (Nat.le_of_ble_eq_true rfl)) dX8_ofPerson_80 ⟨le_R hRc (Nat.le_refl 0), le_R hRs (Nat.le_refl 0)⟩) hS hP (fun r H locs hr1 hP hS => ?_)
              subst hr1
              refine lv_if_eq (tgt := 90) hx hb dX8_ofPerson_83 (by decide) (fun c12 => ?_) (fun c12 => ?_)
              · have hv := hv.1 c12
                refine lv_iconst (v := 0) hx hb dX8_ofPerson_90 (by decide) ?_
                rw [hZ]; rw [hQ] at hv
                exact W.iret (v := 0) hx hb hr (fun t ht hW => ⟨⟨0, σ0, rfl, hv, ⟨P_of ht hP, hD⟩⟩, hS.F ht⟩) hS.2.2 dX8_ofPerson_91
              · have hv := hv.2 c12
                refine lv_iconst (v := 1) hx hb dX8_ofPerson_86 (by decide) ?_
                refine lv_goto (tgt := 91) hx hb dX8_ofPerson_87 (by decide) ?_
                rw [hZ]; rw [hQ] at hv
                exact W.iret (v := 1) hx hb hr (fun t ht hW => ⟨⟨1, σ0, rfl, hv, ⟨P_of ht hP, hD⟩⟩, hS.F ht⟩) hS.2.2 dX8_ofPerson_91
            · have hv := hv.2 c13
              refine lv_tableOut (tgt := 92) hx hb dX8_ofPerson_16 (sw_out (lo := 0) (hi := 4) what_ (fun k h1 h2 hk => by
                have h3 : k = 0 ∨ k = 1 ∨ k = 2 ∨ k = 3 ∨ k = 4 := by omega
                rcases h3 with rfl | rfl | rfl | rfl | rfl
                · exact c5 (sw_k hk (by decide))
                · exact c7 (sw_k hk (by decide))
                · exact c9 (sw_k hk (by decide))
                · exact c11 (sw_k hk (by decide))
                · exact c13 (sw_k hk (by decide)))) (by decide) ?_
              refine lv_bipush (v := (-2)) hx hb dX8_ofPerson_92 (by decide) ?_
              rw [hZ]; rw [hQ] at hv
              exact W.iret (v := (-2)) hx hb hr (fun t ht hW => ⟨⟨(-2), σ0, rfl, hv, ⟨P_of ht hP, hD⟩⟩, hS.F ht⟩) hS.2.2 dX8_ofPerson_94
set_option maxHeartbeats 4000000 in
set_option maxRecDepth 100000 in
theorem wk_X8_tale (l : Launch) (h_X3_add : Ct_X3_add l) (h_X6_person : Ct_X6_person l) (h_X8_isOneOf : Ct_X8_isOneOf l) (h_X8_refusal : Ct_X8_refusal l) (sp : Sp_X8_tale) : Ct_X8_tale l := by
  intro D cy ad A deed_ p_ season_ ag σ0  hpre
  refine Met.ofW (cc := cX8_tale) (maxL := 5) (ret := (some .int)) (by decide) rfl ?_
  intro p e s m args below meth c s₁ B hml hv0
  obtain ⟨rfl, hP, hK, hD, hN⟩ := hv0
  have hx := B.exec
  have hb := B.bytes
  have hr := B.returns
  have hts := atoms_spec (ws := wsX8_tale) B.pre
  have hown : s.vm.findClass RX8 = some m.cls := findClass_of_methodNamed B.named
  have hlocks := B.notSynchronized
  have hv := sp deed_ p_ season_ ag σ0 hpre
  have hl := lv_entry ([.ref (ad 0), .int deed_, .int p_, .int season_]) (n := 5) (Nat.le_of_ble_eq_true rfl)
  rw [lg_entry_eq]
  generalize (lg_sl ([.ref (ad 0), .int deed_, .int p_, .int season_]) ++ List.replicate (5 - (lg_sl ([.ref (ad 0), .int deed_, .int p_, .int season_])).length) Slot.unset).toArray = ls at hl ⊢
  have hl : lv_has ls 5 [(0, .ref (ad 0)), (1, .int deed_), (2, .int p_), (3, .int season_)] := hl
  refine W_gen (fun R Z H locs hR hZ hH hlo => ?_)
  have hRf : R.frames = 3 := by rw [hR]; rfl
  have hRl : R.locals = 68 := by rw [hR]; rfl
  have hRc : R.cells = 0 := by rw [hR]; rfl
  have hRs : R.slots = 0 := by rw [hR]; rfl
  have hS : va_S A s.heap H locs := by rw [hH, hlo]; exact va_S.rf
  rw [← hH] at hP
  obtain ⟨Q, hQ⟩ : ∃ q : Int32 → S_ → Prop, q = (post_X8_tale deed_ p_ season_ ag σ0) := ⟨_, rfl⟩
  rw [← hQ] at hv
  have hinX6 : ∀ w ∈ wsX60, w ∈ wsX8_tale := by decide +kernel
  have hinX8 : ∀ w ∈ wsX80, w ∈ wsX8_tale := by decide +kernel
  refine lv_aload_n hx hb dX8_tale_0 rfl (lv_at hl 0 rfl) ?_
  refine lv_iload_n hx hb dX8_tale_1 rfl (lv_at hl 1 rfl) ?_
  refine lv_bipush (v := 6) hx hb dX8_tale_2 (by decide) ?_
  refine k_pure_i (va_runS (As := [.int deed_, .int 6]) (rest := [.ref (ad 0)]) ⟨hx, hb, hml, hown, hts⟩ (h_X8_isOneOf deed_ 6) (va_cwS 2 hts gX8_tale_X8_isOneOf rfl rfl rfl (by decide +kernel) ⟨le_R hRf (Nat.le_of_ble_eq_true rfl), le_R hRl (Nat.le_of_ble_eq_true rfl)⟩) ⟨(fun a U g mk q => ⟨q.1, trivial⟩), (fun U hU hW => ⟨rfl, trivial⟩)⟩ rfl rfl hl.1 rfl (lv_room (Nat.le_of_ble_eq_true rfl)) dX8_tale_4 ⟨le_R hRc (Nat.le_refl 0), le_R hRs (Nat.le_refl 0)⟩) hS hP (fun r H locs hr1 hP hS => ?_)
  subst hr1
  refine lv_if_eq (tgt := 25) hx hb dX8_tale_7 (by decide) (fun c12 => ?_) (fun c12 => ?_)
  · have hv := hv.1 c12
    refine lv_iconst (v := 0) hx hb dX8_tale_25 (by decide) ?_
    refine lv_iload_n hx hb dX8_tale_26 rfl (lv_at hl 3 rfl) ?_
    refine lv_bipush (v := 40) hx hb dX8_tale_27 (by decide) ?_
    refine k_pure_i (va_runS (As := [.int season_, .int 40]) (rest := [.int 0, .ref (ad 0)]) ⟨hx, hb, hml, hown, hts⟩ (h_X8_isOneOf season_ 40) (va_cwS 2 hts gX8_tale_X8_isOneOf rfl rfl rfl (by decide +kernel) ⟨le_R hRf (Nat.le_of_ble_eq_true rfl), le_R hRl (Nat.le_of_ble_eq_true rfl)⟩) ⟨(fun a U g mk q => ⟨q.1, trivial⟩), (fun U hU hW => ⟨rfl, trivial⟩)⟩ rfl rfl hl.1 rfl (lv_room (Nat.le_of_ble_eq_true rfl)) dX8_tale_29 ⟨le_R hRc (Nat.le_refl 0), le_R hRs (Nat.le_refl 0)⟩) hS hP (fun r H locs hr1 hP hS => ?_)
    subst hr1
    have hp := True.intro
    refine k_read_i (w := wC cy ad) (va_runV (As := [.int 0, .int (fn_X8_isOneOf season_ 40)]) (rest := []) ⟨hx, hb, hml, hown, hts⟩ (h_X8_refusal D cy ad A 0 (fn_X8_isOneOf season_ 40) σ0 hp) (cwV 2 hts gX8_tale_X8_refusal rfl rfl rfl (by decide +kernel) ⟨le_R hRf (Nat.le_of_ble_eq_true rfl), le_R hRl (Nat.le_of_ble_eq_true rfl)⟩) ⟨(fun a U g mk q => ⟨q.1, q.2.blind⟩), va_recv hK hP (ci := 8) (q0 := 0) rfl (wC_0 cy ad σ0), (fun U hU hW => ⟨rfl, WdC.pre hP hK hD hN hU hW⟩)⟩ rfl rfl hl.1 rfl (lv_room (Nat.le_of_ble_eq_true rfl)) dX8_tale_32 ⟨le_R hRc (Nat.le_refl 0), le_R hRs (Nat.le_refl 0)⟩) hS (fun r H locs hr1 hP hS => ?_)
    subst hr1
    refine lv_istore (lv' := [(4, .int (fn_X8_refusal 0 (fn_X8_isOneOf season_ 40) σ0)), (0, .ref (ad 0)), (1, .int deed_), (2, .int p_), (3, .int season_)]) hx hb dX8_tale_35 hl (by decide) rfl (fun ls hl => ?_)
    refine lv_iload hx hb dX8_tale_37 (lv_at hl 0 rfl) ?_
    refine lv_if_eq (tgt := 45) hx hb dX8_tale_39 (by decide) (fun c3 => ?_) (fun c3 => ?_)
    · have hv := hv.1 c3
      refine lv_aload_n hx hb dX8_tale_45 rfl (lv_at hl 1 rfl) ?_
      refine va_get (ci := 8) (v := .ref (ad 11)) (C := RX8) (T := TX8) (N := 5) hx hb hts hinX8 hown hK hP 0 (wC_0 cy ad σ0) rfl 2 (by decide) (hts (.fieldLink RX8 27 "TaleBans" "land" "LTaleBans$Steppe;") (List.mem_of_getElem? (i := 1) rfl)) (fun x h => h) rfl dX8_tale_46 ?_
      refine va_getN (ci := 6) (v := .ref (ad (13))) (C := RX6) (T := TX6) (N := 8) hx hb hts hinX6 hown hK hP 11 (wC_11 cy ad σ0) rfl 1 (by decide) (nw_5 hN) (fun x h => h) rfl dX8_tale_49 ?_
      refine lv_iload_n hx hb dX8_tale_52 rfl (lv_at hl 3 rfl) ?_
      refine lv_iload_n hx hb dX8_tale_53 rfl (lv_at hl 4 rfl) ?_
      refine lv_iload_n hx hb dX8_tale_54 rfl (lv_at hl 2 rfl) ?_
      refine lv_iconst (v := 0) hx hb dX8_tale_55 (by decide) ?_
      obtain ⟨hp, hv⟩ := hv
      refine k_rel_i (w := wC cy ad) (va_runVN (As := [.int p_, .int season_, .int deed_, .int 0]) (rest := []) ⟨hx, hb, hml, hown, hts⟩ (h_X3_add D cy ad A 0 p_ season_ deed_ 0 σ0 (show 0 < 4 by decide) hp) ⟨va_cnB 4 hts gX8_tale_X3_add_n105 rfl rfl rfl (nwm_38 hN) (hts (.initialized RX3) (List.mem_of_getElem? (i := 20) rfl)) (by decide +kernel) ⟨le_R hRf (Nat.le_of_ble_eq_true rfl), le_R hRl (Nat.le_of_ble_eq_true rfl)⟩, (hts (.instanceMethod yX3_add) (List.mem_of_getElem? (i := 19) rfl)), (hts (.selects RX3 yX3_add yX3_add) (List.mem_of_getElem? (i := 21) rfl))⟩ ⟨(fun a U g mk q => ⟨q.1, q.2.blind⟩), va_recv hK hP (ci := 3) (q0 := 13) rfl (wC_13 cy ad σ0), (fun U hU hW => ⟨rfl, WdC.pre hP hK hD hN hU hW⟩)⟩ rfl rfl hl.1 rfl (lv_room (Nat.le_of_ble_eq_true rfl)) dX8_tale_56 ⟨le_R hRc (Nat.le_refl 0), le_R hRs (Nat.le_refl 0)⟩) hS (fun r2 σ1 H locs hr1 hP hD hS => ?_)
      have hv := hv r2 σ1 hr1
      rw [hZ]; rw [hQ] at hv
      exact W.iret (v := r2) hx hb hr (fun t ht hW => ⟨⟨r2, σ1, rfl, hv, ⟨P_of ht hP, hD⟩⟩, hS.F ht⟩) hS.2.2 dX8_tale_59
    · have hv := hv.2 c3
      refine lv_iload hx hb dX8_tale_42 (lv_at hl 0 rfl) ?_
      rw [hZ]; rw [hQ] at hv
      exact W.iret (v := (fn_X8_refusal 0 (fn_X8_isOneOf season_ 40) σ0)) hx hb hr (fun t ht hW => ⟨⟨(fn_X8_refusal 0 (fn_X8_isOneOf season_ 40) σ0), σ0, rfl, hv, ⟨P_of ht hP, hD⟩⟩, hS.F ht⟩) hS.2.2 dX8_tale_44
  · have hv := hv.2 c12
    refine lv_aload_n hx hb dX8_tale_10 rfl (lv_at hl 0 rfl) ?_
    refine va_get (ci := 8) (v := .ref (ad 11)) (C := RX8) (T := TX8) (N := 5) hx hb hts hinX8 hown hK hP 0 (wC_0 cy ad σ0) rfl 2 (by decide) (hts (.fieldLink RX8 27 "TaleBans" "land" "LTaleBans$Steppe;") (List.mem_of_getElem? (i := 1) rfl)) (fun x h => h) rfl dX8_tale_11 ?_
    refine lv_iload_n hx hb dX8_tale_14 rfl (lv_at hl 2 rfl) ?_
    obtain ⟨hp, hv⟩ := hv
    refine k_read_e (w := wC cy ad) (va_runVN (As := [.int p_]) (rest := [.ref (ad 0)]) ⟨hx, hb, hml, hown, hts⟩ (h_X6_person D cy ad A p_ σ0 hp) ⟨va_cnB 1 hts gX8_tale_X6_person_n72 rfl rfl rfl (nwm_35 hN) (hts (.initialized RX6) (List.mem_of_getElem? (i := 7) rfl)) (by decide +kernel) ⟨le_R hRf (Nat.le_of_ble_eq_true rfl), le_R hRl (Nat.le_of_ble_eq_true rfl)⟩, (hts (.instanceMethod yX6_person) (List.mem_of_getElem? (i := 6) rfl)), (hts (.selects RX6 yX6_person yX6_person) (List.mem_of_getElem? (i := 8) rfl))⟩ ⟨(fun a U g mk q => ⟨q.1, q.2.blind⟩), va_recv hK hP (ci := 6) (q0 := 11) rfl (wC_11 cy ad σ0), (fun U hU hW => ⟨rfl, WdC.pre hP hK hD hN hU hW⟩)⟩ rfl rfl hl.1 rfl (lv_room (Nat.le_of_ble_eq_true rfl)) dX8_tale_15 ⟨le_R hRc (Nat.le_refl 0), le_R hRs (Nat.le_refl 0)⟩) hS (fun r H locs hr1 hP hS => ?_)
    subst hr1
    cases o5 : (fn_X6_person p_ σ0) with
    | none =>
      have hv := hv.1 o5
      refine W_top (v' := .null) rfl ?_
      refine lv_ifnullN (tgt := 25) hx hb dX8_tale_18 (by decide) ?_
      refine lv_iconst (v := 0) hx hb dX8_tale_25 (by decide) ?_
      refine lv_iload_n hx hb dX8_tale_26 rfl (lv_at hl 3 rfl) ?_
      refine lv_bipush (v := 40) hx hb dX8_tale_27 (by decide) ?_
      refine k_pure_i (va_runS (As := [.int season_, .int 40]) (rest := [.int 0, .ref (ad 0)]) ⟨hx, hb, hml, hown, hts⟩ (h_X8_isOneOf season_ 40) (va_cwS 2 hts gX8_tale_X8_isOneOf rfl rfl rfl (by decide +kernel) ⟨le_R hRf (Nat.le_of_ble_eq_true rfl), le_R hRl (Nat.le_of_ble_eq_true rfl)⟩) ⟨(fun a U g mk q => ⟨q.1, trivial⟩), (fun U hU hW => ⟨rfl, trivial⟩)⟩ rfl rfl hl.1 rfl (lv_room (Nat.le_of_ble_eq_true rfl)) dX8_tale_29 ⟨le_R hRc (Nat.le_refl 0), le_R hRs (Nat.le_refl 0)⟩) hS hP (fun r H locs hr1 hP hS => ?_)
      subst hr1
      have hp := True.intro
      refine k_read_i (w := wC cy ad) (va_runV (As := [.int 0, .int (fn_X8_isOneOf season_ 40)]) (rest := []) ⟨hx, hb, hml, hown, hts⟩ (h_X8_refusal D cy ad A 0 (fn_X8_isOneOf season_ 40) σ0 hp) (cwV 2 hts gX8_tale_X8_refusal rfl rfl rfl (by decide +kernel) ⟨le_R hRf (Nat.le_of_ble_eq_true rfl), le_R hRl (Nat.le_of_ble_eq_true rfl)⟩) ⟨(fun a U g mk q => ⟨q.1, q.2.blind⟩), va_recv hK hP (ci := 8) (q0 := 0) rfl (wC_0 cy ad σ0), (fun U hU hW => ⟨rfl, WdC.pre hP hK hD hN hU hW⟩)⟩ rfl rfl hl.1 rfl (lv_room (Nat.le_of_ble_eq_true rfl)) dX8_tale_32 ⟨le_R hRc (Nat.le_refl 0), le_R hRs (Nat.le_refl 0)⟩) hS (fun r H locs hr1 hP hS => ?_)
      subst hr1
      refine lv_istore (lv' := [(4, .int (fn_X8_refusal 0 (fn_X8_isOneOf season_ 40) σ0)), (0, .ref (ad 0)), (1, .int deed_), (2, .int p_), (3, .int season_)]) hx hb dX8_tale_35 hl (by decide) rfl (fun ls hl => ?_)
      refine lv_iload hx hb dX8_tale_37 (lv_at hl 0 rfl) ?_
      refine lv_if_eq (tgt := 45) hx hb dX8_tale_39 (by decide) (fun c8 => ?_) (fun c8 => ?_)
      · have hv := hv.1 c8
        refine lv_aload_n hx hb dX8_tale_45 rfl (lv_at hl 1 rfl) ?_
        refine va_get (ci := 8) (v := .ref (ad 11)) (C := RX8) (T := TX8) (N := 5) hx hb hts hinX8 hown hK hP 0 (wC_0 cy ad σ0) rfl 2 (by decide) (hts (.fieldLink RX8 27 "TaleBans" "land" "LTaleBans$Steppe;") (List.mem_of_getElem? (i := 1) rfl)) (fun x h => h) rfl dX8_tale_46 ?_
        refine va_getN (ci := 6) (v := .ref (ad (13))) (C := RX6) (T := TX6) (N := 8) hx hb hts hinX6 hown hK hP 11 (wC_11 cy ad σ0) rfl 1 (by decide) (nw_5 hN) (fun x h => h) rfl dX8_tale_49 ?_
        refine lv_iload_n hx hb dX8_tale_52 rfl (lv_at hl 3 rfl) ?_
        refine lv_iload_n hx hb dX8_tale_53 rfl (lv_at hl 4 rfl) ?_
        refine lv_iload_n hx hb dX8_tale_54 rfl (lv_at hl 2 rfl) ?_
        refine lv_iconst (v := 0) hx hb dX8_tale_55 (by decide) ?_
        obtain ⟨hp, hv⟩ := hv
        refine k_rel_i (w := wC cy ad) (va_runVN (As := [.int p_, .int season_, .int deed_, .int 0]) (rest := []) ⟨hx, hb, hml, hown, hts⟩ (h_X3_add D cy ad A 0 p_ season_ deed_ 0 σ0 (show 0 < 4 by decide) hp) ⟨va_cnB 4 hts gX8_tale_X3_add_n105 rfl rfl rfl (nwm_38 hN) (hts (.initialized RX3) (List.mem_of_getElem? (i := 20) rfl)) (by decide +kernel) ⟨le_R hRf (Nat.le_of_ble_eq_true rfl), le_R hRl (Nat.le_of_ble_eq_true rfl)⟩, (hts (.instanceMethod yX3_add) (List.mem_of_getElem? (i := 19) rfl)), (hts (.selects RX3 yX3_add yX3_add) (List.mem_of_getElem? (i := 21) rfl))⟩ ⟨(fun a U g mk q => ⟨q.1, q.2.blind⟩), va_recv hK hP (ci := 3) (q0 := 13) rfl (wC_13 cy ad σ0), (fun U hU hW => ⟨rfl, WdC.pre hP hK hD hN hU hW⟩)⟩ rfl rfl hl.1 rfl (lv_room (Nat.le_of_ble_eq_true rfl)) dX8_tale_56 ⟨le_R hRc (Nat.le_refl 0), le_R hRs (Nat.le_refl 0)⟩) hS (fun r7 σ6 H locs hr1 hP hD hS => ?_)
        have hv := hv r7 σ6 hr1
        rw [hZ]; rw [hQ] at hv
        exact W.iret (v := r7) hx hb hr (fun t ht hW => ⟨⟨r7, σ6, rfl, hv, ⟨P_of ht hP, hD⟩⟩, hS.F ht⟩) hS.2.2 dX8_tale_59
      · have hv := hv.2 c8
        refine lv_iload hx hb dX8_tale_42 (lv_at hl 0 rfl) ?_
        rw [hZ]; rw [hQ] at hv
        exact W.iret (v := (fn_X8_refusal 0 (fn_X8_isOneOf season_ 40) σ0)) hx hb hr (fun t ht hW => ⟨⟨(fn_X8_refusal 0 (fn_X8_isOneOf season_ 40) σ0), σ0, rfl, hv, ⟨P_of ht hP, hD⟩⟩, hS.F ht⟩) hS.2.2 dX8_tale_44
    | some j4 =>
      obtain ⟨hj_j4, hv⟩ := hv.2 j4 o5
      refine W_top (v' := .ref ((hget σ0 j4).1)) rfl ?_
      refine lv_ifnull hx hb dX8_tale_18 ?_
      refine lv_iconst (v := 1) hx hb dX8_tale_21 (by decide) ?_
      refine lv_goto (tgt := 26) hx hb dX8_tale_22 (by decide) ?_
      refine lv_iload_n hx hb dX8_tale_26 rfl (lv_at hl 3 rfl) ?_
      refine lv_bipush (v := 40) hx hb dX8_tale_27 (by decide) ?_
      refine k_pure_i (va_runS (As := [.int season_, .int 40]) (rest := [.int 1, .ref (ad 0)]) ⟨hx, hb, hml, hown, hts⟩ (h_X8_isOneOf season_ 40) (va_cwS 2 hts gX8_tale_X8_isOneOf rfl rfl rfl (by decide +kernel) ⟨le_R hRf (Nat.le_of_ble_eq_true rfl), le_R hRl (Nat.le_of_ble_eq_true rfl)⟩) ⟨(fun a U g mk q => ⟨q.1, trivial⟩), (fun U hU hW => ⟨rfl, trivial⟩)⟩ rfl rfl hl.1 rfl (lv_room (Nat.le_of_ble_eq_true rfl)) dX8_tale_29 ⟨le_R hRc (Nat.le_refl 0), le_R hRs (Nat.le_refl 0)⟩) hS hP (fun r H locs hr1 hP hS => ?_)
      subst hr1
      have hp := True.intro
      refine k_read_i (w := wC cy ad) (va_runV (As := [.int 1, .int (fn_X8_isOneOf season_ 40)]) (rest := []) ⟨hx, hb, hml, hown, hts⟩ (h_X8_refusal D cy ad A 1 (fn_X8_isOneOf season_ 40) σ0 hp) (cwV 2 hts gX8_tale_X8_refusal rfl rfl rfl (by decide +kernel) ⟨le_R hRf (Nat.le_of_ble_eq_true rfl), le_R hRl (Nat.le_of_ble_eq_true rfl)⟩) ⟨(fun a U g mk q => ⟨q.1, q.2.blind⟩), va_recv hK hP (ci := 8) (q0 := 0) rfl (wC_0 cy ad σ0), (fun U hU hW => ⟨rfl, WdC.pre hP hK hD hN hU hW⟩)⟩ rfl rfl hl.1 rfl (lv_room (Nat.le_of_ble_eq_true rfl)) dX8_tale_32 ⟨le_R hRc (Nat.le_refl 0), le_R hRs (Nat.le_refl 0)⟩) hS (fun r H locs hr1 hP hS => ?_)
      subst hr1
      refine lv_istore (lv' := [(4, .int (fn_X8_refusal 1 (fn_X8_isOneOf season_ 40) σ0)), (0, .ref (ad 0)), (1, .int deed_), (2, .int p_), (3, .int season_)]) hx hb dX8_tale_35 hl (by decide) rfl (fun ls hl => ?_)
      refine lv_iload hx hb dX8_tale_37 (lv_at hl 0 rfl) ?_
      refine lv_if_eq (tgt := 45) hx hb dX8_tale_39 (by decide) (fun c11 => ?_) (fun c11 => ?_)
      · have hv := hv.1 c11
        refine lv_aload_n hx hb dX8_tale_45 rfl (lv_at hl 1 rfl) ?_
        refine va_get (ci := 8) (v := .ref (ad 11)) (C := RX8) (T := TX8) (N := 5) hx hb hts hinX8 hown hK hP 0 (wC_0 cy ad σ0) rfl 2 (by decide) (hts (.fieldLink RX8 27 "TaleBans" "land" "LTaleBans$Steppe;") (List.mem_of_getElem? (i := 1) rfl)) (fun x h => h) rfl dX8_tale_46 ?_
        refine va_getN (ci := 6) (v := .ref (ad (13))) (C := RX6) (T := TX6) (N := 8) hx hb hts hinX6 hown hK hP 11 (wC_11 cy ad σ0) rfl 1 (by decide) (nw_5 hN) (fun x h => h) rfl dX8_tale_49 ?_
        refine lv_iload_n hx hb dX8_tale_52 rfl (lv_at hl 3 rfl) ?_
        refine lv_iload_n hx hb dX8_tale_53 rfl (lv_at hl 4 rfl) ?_
        refine lv_iload_n hx hb dX8_tale_54 rfl (lv_at hl 2 rfl) ?_
        refine lv_iconst (v := 0) hx hb dX8_tale_55 (by decide) ?_
        obtain ⟨hp, hv⟩ := hv
        refine k_rel_i (w := wC cy ad) (va_runVN (As := [.int p_, .int season_, .int deed_, .int 0]) (rest := []) ⟨hx, hb, hml, hown, hts⟩ (h_X3_add D cy ad A 0 p_ season_ deed_ 0 σ0 (show 0 < 4 by decide) hp) ⟨va_cnB 4 hts gX8_tale_X3_add_n105 rfl rfl rfl (nwm_38 hN) (hts (.initialized RX3) (List.mem_of_getElem? (i := 20) rfl)) (by decide +kernel) ⟨le_R hRf (Nat.le_of_ble_eq_true rfl), le_R hRl (Nat.le_of_ble_eq_true rfl)⟩, (hts (.instanceMethod yX3_add) (List.mem_of_getElem? (i := 19) rfl)), (hts (.selects RX3 yX3_add yX3_add) (List.mem_of_getElem? (i := 21) rfl))⟩ ⟨(fun a U g mk q => ⟨q.1, q.2.blind⟩), va_recv hK hP (ci := 3) (q0 := 13) rfl (wC_13 cy ad σ0), (fun U hU hW => ⟨rfl, WdC.pre hP hK hD hN hU hW⟩)⟩ rfl rfl hl.1 rfl (lv_room (Nat.le_of_ble_eq_true rfl)) dX8_tale_56 ⟨le_R hRc (Nat.le_refl 0), le_R hRs (Nat.le_refl 0)⟩) hS (fun r10 σ9 H locs hr1 hP hD hS => ?_)
        have hv := hv r10 σ9 hr1
        rw [hZ]; rw [hQ] at hv
        exact W.iret (v := r10) hx hb hr (fun t ht hW => ⟨⟨r10, σ9, rfl, hv, ⟨P_of ht hP, hD⟩⟩, hS.F ht⟩) hS.2.2 dX8_tale_59
      · have hv := hv.2 c11
        refine lv_iload hx hb dX8_tale_42 (lv_at hl 0 rfl) ?_
        rw [hZ]; rw [hQ] at hv
        exact W.iret (v := (fn_X8_refusal 1 (fn_X8_isOneOf season_ 40) σ0)) hx hb hr (fun t ht hW => ⟨⟨(fn_X8_refusal 1 (fn_X8_isOneOf season_ 40) σ0), σ0, rfl, hv, ⟨P_of ht hP, hD⟩⟩, hS.F ht⟩) hS.2.2 dX8_tale_44
set_option maxHeartbeats 4000000 in
set_option maxRecDepth 100000 in
theorem wk_X8_undo (l : Launch) (h_X3_keepBelow : Ct_X3_keepBelow l) (h_X3_takeBack : Ct_X3_takeBack l) (sp : Sp_X8_undo) : Ct_X8_undo l := by
  intro D cy ad A k_ ag σ0  hpre
  refine Met.ofW (cc := cX8_undo) (maxL := 3) (ret := (some .int)) (by decide) rfl ?_
  intro p e s m args below meth c s₁ B hml hv0
  obtain ⟨rfl, hP, hK, hD, hN⟩ := hv0
  have hx := B.exec
  have hb := B.bytes
  have hr := B.returns
  have hts := atoms_spec (ws := wsX8_undo) B.pre
  have hown : s.vm.findClass RX8 = some m.cls := findClass_of_methodNamed B.named
  have hlocks := B.notSynchronized
  have hv := sp k_ ag σ0 hpre
  have hl := lv_entry ([.ref (ad 0), .int k_]) (n := 3) (Nat.le_of_ble_eq_true rfl)
  rw [lg_entry_eq]
  generalize (lg_sl ([.ref (ad 0), .int k_]) ++ List.replicate (3 - (lg_sl ([.ref (ad 0), .int k_])).length) Slot.unset).toArray = ls at hl ⊢
  have hl : lv_has ls 3 [(0, .ref (ad 0)), (1, .int k_)] := hl
  refine W_gen (fun R Z H locs hR hZ hH hlo => ?_)
  have hRf : R.frames = 3 := by rw [hR]; rfl
  have hRl : R.locals = 115 := by rw [hR]; rfl
  have hRc : R.cells = 0 := by rw [hR]; rfl
  have hRs : R.slots = 0 := by rw [hR]; rfl
  have hS : va_S A s.heap H locs := by rw [hH, hlo]; exact va_S.rf
  rw [← hH] at hP
  obtain ⟨Q, hQ⟩ : ∃ q : Int32 → S_ → Prop, q = (post_X8_undo k_ ag σ0) := ⟨_, rfl⟩
  rw [← hQ] at hv
  have hinX6 : ∀ w ∈ wsX60, w ∈ wsX8_undo := by decide +kernel
  have hinX8 : ∀ w ∈ wsX80, w ∈ wsX8_undo := by decide +kernel
  refine lv_aload_n hx hb dX8_undo_0 rfl (lv_at hl 0 rfl) ?_
  refine va_get (ci := 8) (v := .ref (ad 11)) (C := RX8) (T := TX8) (N := 5) hx hb hts hinX8 hown hK hP 0 (wC_0 cy ad σ0) rfl 2 (by decide) (hts (.fieldLink RX8 27 "TaleBans" "land" "LTaleBans$Steppe;") (List.mem_of_getElem? (i := 1) rfl)) (fun x h => h) rfl dX8_undo_1 ?_
  refine va_getN (ci := 6) (v := .ref (ad (13))) (C := RX6) (T := TX6) (N := 8) hx hb hts hinX6 hown hK hP 11 (wC_11 cy ad σ0) rfl 1 (by decide) (nw_5 hN) (fun x h => h) rfl dX8_undo_4 ?_
  refine lv_iload_n hx hb dX8_undo_7 rfl (lv_at hl 1 rfl) ?_
  have hp := True.intro
  refine k_rel_i (w := wC cy ad) (va_runVN (As := [.int k_]) (rest := []) ⟨hx, hb, hml, hown, hts⟩ (h_X3_takeBack D cy ad A 0 k_ σ0 (show 0 < 4 by decide) hp) ⟨va_cnB 1 hts gX8_undo_X3_takeBack_n111 rfl rfl rfl (nwm_40 hN) (hts (.initialized RX3) (List.mem_of_getElem? (i := 3) rfl)) (by decide +kernel) ⟨le_R hRf (Nat.le_of_ble_eq_true rfl), le_R hRl (Nat.le_of_ble_eq_true rfl)⟩, (hts (.instanceMethod yX3_takeBack) (List.mem_of_getElem? (i := 2) rfl)), (hts (.selects RX3 yX3_takeBack yX3_takeBack) (List.mem_of_getElem? (i := 4) rfl))⟩ ⟨(fun a U g mk q => ⟨q.1, q.2.blind⟩), va_recv hK hP (ci := 3) (q0 := 13) rfl (wC_13 cy ad σ0), (fun U hU hW => ⟨rfl, WdC.pre hP hK hD hN hU hW⟩)⟩ rfl rfl hl.1 rfl (lv_room (Nat.le_of_ble_eq_true rfl)) dX8_undo_8 ⟨le_R hRc (Nat.le_refl 0), le_R hRs (Nat.le_refl 0)⟩) hS (fun r2 σ1 H locs hr1 hP hD hS => ?_)
  have hv := hv r2 σ1 hr1
  refine lv_istore_n (lv' := [(2, .int r2), (0, .ref (ad 0)), (1, .int k_)]) hx hb dX8_undo_11 rfl hl (by decide) rfl (fun ls hl => ?_)
  refine lv_iload_n hx hb dX8_undo_12 rfl (lv_at hl 0 rfl) ?_
  refine lv_bipush (v := (-2)) hx hb dX8_undo_13 (by decide) ?_
  refine lv_icmp_eq (tgt := 30) hx hb dX8_undo_15 (by decide) (fun c5 => ?_) (fun c5 => ?_)
  · have hv := hv.1 c5
    refine lv_iload_n hx hb dX8_undo_30 rfl (lv_at hl 0 rfl) ?_
    rw [hZ]; rw [hQ] at hv
    exact W.iret (v := r2) hx hb hr (fun t ht hW => ⟨⟨r2, σ1, rfl, hv, ⟨P_of ht hP, hD⟩⟩, hS.F ht⟩) hS.2.2 dX8_undo_31
  · have hv := hv.2 c5
    refine lv_aload_n hx hb dX8_undo_18 rfl (lv_at hl 1 rfl) ?_
    refine va_get (ci := 8) (v := .ref (ad 11)) (C := RX8) (T := TX8) (N := 5) hx hb hts hinX8 hown hK hP 0 (wC_0 cy ad σ1) rfl 2 (by decide) (hts (.fieldLink RX8 27 "TaleBans" "land" "LTaleBans$Steppe;") (List.mem_of_getElem? (i := 1) rfl)) (fun x h => h) rfl dX8_undo_19 ?_
    refine va_getN (ci := 6) (v := .ref (ad (19))) (C := RX6) (T := TX6) (N := 8) hx hb hts hinX6 hown hK hP 11 (wC_11 cy ad σ1) rfl 4 (by decide) (nw_9 hN) (fun x h => h) rfl dX8_undo_22 ?_
    refine lv_iconst (v := 2) hx hb dX8_undo_25 (by decide) ?_
    refine lv_iload_n hx hb dX8_undo_26 rfl (lv_at hl 0 rfl) ?_
    obtain ⟨g3, hv⟩ := hv
    obtain ⟨hp, hv⟩ := hv
    refine k_rel_v (w := wC cy ad) (va_runVN (As := [.int 2, .int r2]) (rest := []) ⟨hx, hb, hml, hown, hts⟩ (h_X3_keepBelow D cy ad A 3 2 r2 g3 σ1 (show 3 < 4 by decide) hp) ⟨va_cnB 2 hts gX8_undo_X3_keepBelow_n117 rfl rfl rfl (nwm_41 hN) (hts (.initialized RX3) (List.mem_of_getElem? (i := 3) rfl)) (by decide +kernel) ⟨le_R hRf (Nat.le_of_ble_eq_true rfl), le_R hRl (Nat.le_of_ble_eq_true rfl)⟩, (hts (.instanceMethod yX3_keepBelow) (List.mem_of_getElem? (i := 7) rfl)), (hts (.selects RX3 yX3_keepBelow yX3_keepBelow) (List.mem_of_getElem? (i := 8) rfl))⟩ ⟨(fun a U g mk q => ⟨q.1, q.2.blind⟩), va_recv hK hP (ci := 3) (q0 := 19) rfl (wC_19 cy ad σ1), (fun U hU hW => ⟨rfl, WdC.pre hP hK hD hN hU hW⟩)⟩ rfl rfl hl.1 rfl (lv_room (Nat.le_of_ble_eq_true rfl)) dX8_undo_27 ⟨le_R hRc (Nat.le_refl 0), le_R hRs (Nat.le_refl 0)⟩) hS (fun σ4 H locs hr1 hP hD hS => ?_)
    have hv := hv σ4 hr1
    refine lv_iload_n hx hb dX8_undo_30 rfl (lv_at hl 0 rfl) ?_
    rw [hZ]; rw [hQ] at hv
    exact W.iret (v := r2) hx hb hr (fun t ht hW => ⟨⟨r2, σ4, rfl, hv, ⟨P_of ht hP, hD⟩⟩, hS.F ht⟩) hS.2.2 dX8_undo_31
set_option maxHeartbeats 4000000 in
set_option maxRecDepth 100000 in
theorem wk_X8_move (l : Launch) (h_X3_add : Ct_X3_add l) (h_X6_person : Ct_X6_person l) (h_X8_isOneOf : Ct_X8_isOneOf l) (h_X8_refusal : Ct_X8_refusal l) (sp : Sp_X8_move) : Ct_X8_move l := by
  intro D cy ad A p_ h_ season_ ag σ0  hpre
  refine Met.ofW (cc := cX8_move) (maxL := 5) (ret := (some .int)) (by decide) rfl ?_
  intro p e s m args below meth c s₁ B hml hv0
  obtain ⟨rfl, hP, hK, hD, hN⟩ := hv0
  have hx := B.exec
  have hb := B.bytes
  have hr := B.returns
  have hts := atoms_spec (ws := wsX8_move) B.pre
  have hown : s.vm.findClass RX8 = some m.cls := findClass_of_methodNamed B.named
  have hlocks := B.notSynchronized
  have hv := sp p_ h_ season_ ag σ0 hpre
  have hl := lv_entry ([.ref (ad 0), .int p_, .int h_, .int season_]) (n := 5) (Nat.le_of_ble_eq_true rfl)
  rw [lg_entry_eq]
  generalize (lg_sl ([.ref (ad 0), .int p_, .int h_, .int season_]) ++ List.replicate (5 - (lg_sl ([.ref (ad 0), .int p_, .int h_, .int season_])).length) Slot.unset).toArray = ls at hl ⊢
  have hl : lv_has ls 5 [(0, .ref (ad 0)), (1, .int p_), (2, .int h_), (3, .int season_)] := hl
  refine W_gen (fun R Z H locs hR hZ hH hlo => ?_)
  have hRf : R.frames = 3 := by rw [hR]; rfl
  have hRl : R.locals = 68 := by rw [hR]; rfl
  have hRc : R.cells = 0 := by rw [hR]; rfl
  have hRs : R.slots = 0 := by rw [hR]; rfl
  have hS : va_S A s.heap H locs := by rw [hH, hlo]; exact va_S.rf
  rw [← hH] at hP
  obtain ⟨Q, hQ⟩ : ∃ q : Int32 → S_ → Prop, q = (post_X8_move p_ h_ season_ ag σ0) := ⟨_, rfl⟩
  rw [← hQ] at hv
  have hinX6 : ∀ w ∈ wsX60, w ∈ wsX8_move := by decide +kernel
  have hinX8 : ∀ w ∈ wsX80, w ∈ wsX8_move := by decide +kernel
  refine lv_aload_n hx hb dX8_move_0 rfl (lv_at hl 0 rfl) ?_
  refine lv_aload_n hx hb dX8_move_1 rfl (lv_at hl 0 rfl) ?_
  refine va_get (ci := 8) (v := .ref (ad 11)) (C := RX8) (T := TX8) (N := 5) hx hb hts hinX8 hown hK hP 0 (wC_0 cy ad σ0) rfl 2 (by decide) (hts (.fieldLink RX8 27 "TaleBans" "land" "LTaleBans$Steppe;") (List.mem_of_getElem? (i := 1) rfl)) (fun x h => h) rfl dX8_move_2 ?_
  refine lv_iload_n hx hb dX8_move_5 rfl (lv_at hl 1 rfl) ?_
  obtain ⟨hp, hv⟩ := hv
  refine k_read_e (w := wC cy ad) (va_runVN (As := [.int p_]) (rest := [.ref (ad 0)]) ⟨hx, hb, hml, hown, hts⟩ (h_X6_person D cy ad A p_ σ0 hp) ⟨va_cnB 1 hts gX8_move_X6_person_n72 rfl rfl rfl (nwm_35 hN) (hts (.initialized RX6) (List.mem_of_getElem? (i := 3) rfl)) (by decide +kernel) ⟨le_R hRf (Nat.le_of_ble_eq_true rfl), le_R hRl (Nat.le_of_ble_eq_true rfl)⟩, (hts (.instanceMethod yX6_person) (List.mem_of_getElem? (i := 2) rfl)), (hts (.selects RX6 yX6_person yX6_person) (List.mem_of_getElem? (i := 4) rfl))⟩ ⟨(fun a U g mk q => ⟨q.1, q.2.blind⟩), va_recv hK hP (ci := 6) (q0 := 11) rfl (wC_11 cy ad σ0), (fun U hU hW => ⟨rfl, WdC.pre hP hK hD hN hU hW⟩)⟩ rfl rfl hl.1 rfl (lv_room (Nat.le_of_ble_eq_true rfl)) dX8_move_6 ⟨le_R hRc (Nat.le_refl 0), le_R hRs (Nat.le_refl 0)⟩) hS (fun r H locs hr1 hP hS => ?_)
  subst hr1
  cases o2 : (fn_X6_person p_ σ0) with
  | none =>
    have hv := hv.1 o2
    refine W_top (v' := .null) rfl ?_
    refine lv_ifnullN (tgt := 24) hx hb dX8_move_9 (by decide) ?_
    refine lv_iconst (v := 0) hx hb dX8_move_24 (by decide) ?_
    refine lv_iload_n hx hb dX8_move_25 rfl (lv_at hl 3 rfl) ?_
    refine lv_bipush (v := 40) hx hb dX8_move_26 (by decide) ?_
    refine k_pure_i (va_runS (As := [.int season_, .int 40]) (rest := [.int 0, .ref (ad 0)]) ⟨hx, hb, hml, hown, hts⟩ (h_X8_isOneOf season_ 40) (va_cwS 2 hts gX8_move_X8_isOneOf rfl rfl rfl (by decide +kernel) ⟨le_R hRf (Nat.le_of_ble_eq_true rfl), le_R hRl (Nat.le_of_ble_eq_true rfl)⟩) ⟨(fun a U g mk q => ⟨q.1, trivial⟩), (fun U hU hW => ⟨rfl, trivial⟩)⟩ rfl rfl hl.1 rfl (lv_room (Nat.le_of_ble_eq_true rfl)) dX8_move_28 ⟨le_R hRc (Nat.le_refl 0), le_R hRs (Nat.le_refl 0)⟩) hS hP (fun r H locs hr1 hP hS => ?_)
    subst hr1
    have hp := True.intro
    refine k_read_i (w := wC cy ad) (va_runV (As := [.int 0, .int (fn_X8_isOneOf season_ 40)]) (rest := []) ⟨hx, hb, hml, hown, hts⟩ (h_X8_refusal D cy ad A 0 (fn_X8_isOneOf season_ 40) σ0 hp) (cwV 2 hts gX8_move_X8_refusal rfl rfl rfl (by decide +kernel) ⟨le_R hRf (Nat.le_of_ble_eq_true rfl), le_R hRl (Nat.le_of_ble_eq_true rfl)⟩) ⟨(fun a U g mk q => ⟨q.1, q.2.blind⟩), va_recv hK hP (ci := 8) (q0 := 0) rfl (wC_0 cy ad σ0), (fun U hU hW => ⟨rfl, WdC.pre hP hK hD hN hU hW⟩)⟩ rfl rfl hl.1 rfl (lv_room (Nat.le_of_ble_eq_true rfl)) dX8_move_31 ⟨le_R hRc (Nat.le_refl 0), le_R hRs (Nat.le_refl 0)⟩) hS (fun r H locs hr1 hP hS => ?_)
    subst hr1
    refine lv_istore (lv' := [(4, .int (fn_X8_refusal 0 (fn_X8_isOneOf season_ 40) σ0)), (0, .ref (ad 0)), (1, .int p_), (2, .int h_), (3, .int season_)]) hx hb dX8_move_34 hl (by decide) rfl (fun ls hl => ?_)
    refine lv_iload hx hb dX8_move_36 (lv_at hl 0 rfl) ?_
    refine lv_if_eq (tgt := 44) hx hb dX8_move_38 (by decide) (fun c5 => ?_) (fun c5 => ?_)
    · have hv := hv.1 c5
      refine lv_aload_n hx hb dX8_move_44 rfl (lv_at hl 1 rfl) ?_
      refine va_get (ci := 8) (v := .ref (ad 11)) (C := RX8) (T := TX8) (N := 5) hx hb hts hinX8 hown hK hP 0 (wC_0 cy ad σ0) rfl 2 (by decide) (hts (.fieldLink RX8 27 "TaleBans" "land" "LTaleBans$Steppe;") (List.mem_of_getElem? (i := 1) rfl)) (fun x h => h) rfl dX8_move_45 ?_
      refine va_getN (ci := 6) (v := .ref (ad (15))) (C := RX6) (T := TX6) (N := 8) hx hb hts hinX6 hown hK hP 11 (wC_11 cy ad σ0) rfl 2 (by decide) (nw_7 hN) (fun x h => h) rfl dX8_move_48 ?_
      refine lv_iload_n hx hb dX8_move_51 rfl (lv_at hl 2 rfl) ?_
      refine lv_iload_n hx hb dX8_move_52 rfl (lv_at hl 4 rfl) ?_
      refine lv_iload_n hx hb dX8_move_53 rfl (lv_at hl 3 rfl) ?_
      refine lv_iconst (v := 0) hx hb dX8_move_54 (by decide) ?_
      obtain ⟨hp, hv⟩ := hv
      refine k_rel_i (w := wC cy ad) (va_runVN (As := [.int p_, .int season_, .int h_, .int 0]) (rest := []) ⟨hx, hb, hml, hown, hts⟩ (h_X3_add D cy ad A 1 p_ season_ h_ 0 σ0 (show 1 < 4 by decide) hp) ⟨va_cnB 4 hts gX8_move_X3_add_n105 rfl rfl rfl (nwm_38 hN) (hts (.initialized RX3) (List.mem_of_getElem? (i := 20) rfl)) (by decide +kernel) ⟨le_R hRf (Nat.le_of_ble_eq_true rfl), le_R hRl (Nat.le_of_ble_eq_true rfl)⟩, (hts (.instanceMethod yX3_add) (List.mem_of_getElem? (i := 19) rfl)), (hts (.selects RX3 yX3_add yX3_add) (List.mem_of_getElem? (i := 21) rfl))⟩ ⟨(fun a U g mk q => ⟨q.1, q.2.blind⟩), va_recv hK hP (ci := 3) (q0 := 15) rfl (wC_15 cy ad σ0), (fun U hU hW => ⟨rfl, WdC.pre hP hK hD hN hU hW⟩)⟩ rfl rfl hl.1 rfl (lv_room (Nat.le_of_ble_eq_true rfl)) dX8_move_55 ⟨le_R hRc (Nat.le_refl 0), le_R hRs (Nat.le_refl 0)⟩) hS (fun r4 σ3 H locs hr1 hP hD hS => ?_)
      have hv := hv r4 σ3 hr1
      rw [hZ]; rw [hQ] at hv
      exact W.iret (v := r4) hx hb hr (fun t ht hW => ⟨⟨r4, σ3, rfl, hv, ⟨P_of ht hP, hD⟩⟩, hS.F ht⟩) hS.2.2 dX8_move_58
    · have hv := hv.2 c5
      refine lv_iload hx hb dX8_move_41 (lv_at hl 0 rfl) ?_
      rw [hZ]; rw [hQ] at hv
      exact W.iret (v := (fn_X8_refusal 0 (fn_X8_isOneOf season_ 40) σ0)) hx hb hr (fun t ht hW => ⟨⟨(fn_X8_refusal 0 (fn_X8_isOneOf season_ 40) σ0), σ0, rfl, hv, ⟨P_of ht hP, hD⟩⟩, hS.F ht⟩) hS.2.2 dX8_move_43
  | some j1 =>
    obtain ⟨hj_j1, hv⟩ := hv.2 j1 o2
    refine W_top (v' := .ref ((hget σ0 j1).1)) rfl ?_
    refine lv_ifnull hx hb dX8_move_9 ?_
    refine lv_iload_n hx hb dX8_move_12 rfl (lv_at hl 2 rfl) ?_
    refine lv_iconst (v := 3) hx hb dX8_move_13 (by decide) ?_
    refine k_pure_i (va_runS (As := [.int h_, .int 3]) (rest := [.ref (ad 0)]) ⟨hx, hb, hml, hown, hts⟩ (h_X8_isOneOf h_ 3) (va_cwS 2 hts gX8_move_X8_isOneOf rfl rfl rfl (by decide +kernel) ⟨le_R hRf (Nat.le_of_ble_eq_true rfl), le_R hRl (Nat.le_of_ble_eq_true rfl)⟩) ⟨(fun a U g mk q => ⟨q.1, trivial⟩), (fun U hU hW => ⟨rfl, trivial⟩)⟩ rfl rfl hl.1 rfl (lv_room (Nat.le_of_ble_eq_true rfl)) dX8_move_14 ⟨le_R hRc (Nat.le_refl 0), le_R hRs (Nat.le_refl 0)⟩) hS hP (fun r H locs hr1 hP hS => ?_)
    subst hr1
    obtain ⟨P6, hv, hvr⟩ := hv
    have jn7 : ∀ (b8 : Int32) (H : Heap) (locs : List Loc) (ls : Array Slot), P6 b8 → va_P D vwCl (wC cy ad σ0) H → va_S A s.heap H locs → lv_has ls 5 [(0, .ref (ad 0)), (1, .int p_), (2, .int h_), (3, .int season_)] → W p l e R s m ([.ref (ad 0), .int p_, .int h_, .int season_] : List Value).toArray below meth c H locs 0 0 Z (F0 m 25 ls [.int b8, .ref (ad 0)]) := by
      intro b8 H locs ls hv hP hS hl
      have hv := hvr b8 hv
      refine lv_iload_n hx hb dX8_move_25 rfl (lv_at hl 3 rfl) ?_
      refine lv_bipush (v := 40) hx hb dX8_move_26 (by decide) ?_
      refine k_pure_i (va_runS (As := [.int season_, .int 40]) (rest := [.int b8, .ref (ad 0)]) ⟨hx, hb, hml, hown, hts⟩ (h_X8_isOneOf season_ 40) (va_cwS 2 hts gX8_move_X8_isOneOf rfl rfl rfl (by decide +kernel) ⟨le_R hRf (Nat.le_of_ble_eq_true rfl), le_R hRl (Nat.le_of_ble_eq_true rfl)⟩) ⟨(fun a U g mk q => ⟨q.1, trivial⟩), (fun U hU hW => ⟨rfl, trivial⟩)⟩ rfl rfl hl.1 rfl (lv_room (Nat.le_of_ble_eq_true rfl)) dX8_move_28 ⟨le_R hRc (Nat.le_refl 0), le_R hRs (Nat.le_refl 0)⟩) hS hP (fun r H locs hr1 hP hS => ?_)
      subst hr1
      have hp := True.intro
      refine k_read_i (w := wC cy ad) (va_runV (As := [.int b8, .int (fn_X8_isOneOf season_ 40)]) (rest := []) ⟨hx, hb, hml, hown, hts⟩ (h_X8_refusal D cy ad A b8 (fn_X8_isOneOf season_ 40) σ0 hp) (cwV 2 hts gX8_move_X8_refusal rfl rfl rfl (by decide +kernel) ⟨le_R hRf (Nat.le_of_ble_eq_true rfl), le_R hRl (Nat.le_of_ble_eq_true rfl)⟩) ⟨(fun a U g mk q => ⟨q.1, q.2.blind⟩), va_recv hK hP (ci := 8) (q0 := 0) rfl (wC_0 cy ad σ0), (fun U hU hW => ⟨rfl, WdC.pre hP hK hD hN hU hW⟩)⟩ rfl rfl hl.1 rfl (lv_room (Nat.le_of_ble_eq_true rfl)) dX8_move_31 ⟨le_R hRc (Nat.le_refl 0), le_R hRs (Nat.le_refl 0)⟩) hS (fun r H locs hr1 hP hS => ?_)
      subst hr1
      refine lv_istore (lv' := [(4, .int (fn_X8_refusal b8 (fn_X8_isOneOf season_ 40) σ0)), (0, .ref (ad 0)), (1, .int p_), (2, .int h_), (3, .int season_)]) hx hb dX8_move_34 hl (by decide) rfl (fun ls hl => ?_)
      refine lv_iload hx hb dX8_move_36 (lv_at hl 0 rfl) ?_
      refine lv_if_eq (tgt := 44) hx hb dX8_move_38 (by decide) (fun c12 => ?_) (fun c12 => ?_)
      · have hv := hv.1 c12
        refine lv_aload_n hx hb dX8_move_44 rfl (lv_at hl 1 rfl) ?_
        refine va_get (ci := 8) (v := .ref (ad 11)) (C := RX8) (T := TX8) (N := 5) hx hb hts hinX8 hown hK hP 0 (wC_0 cy ad σ0) rfl 2 (by decide) (hts (.fieldLink RX8 27 "TaleBans" "land" "LTaleBans$Steppe;") (List.mem_of_getElem? (i := 1) rfl)) (fun x h => h) rfl dX8_move_45 ?_
        refine va_getN (ci := 6) (v := .ref (ad (15))) (C := RX6) (T := TX6) (N := 8) hx hb hts hinX6 hown hK hP 11 (wC_11 cy ad σ0) rfl 2 (by decide) (nw_7 hN) (fun x h => h) rfl dX8_move_48 ?_
        refine lv_iload_n hx hb dX8_move_51 rfl (lv_at hl 2 rfl) ?_
        refine lv_iload_n hx hb dX8_move_52 rfl (lv_at hl 4 rfl) ?_
        refine lv_iload_n hx hb dX8_move_53 rfl (lv_at hl 3 rfl) ?_
        refine lv_iconst (v := 0) hx hb dX8_move_54 (by decide) ?_
        obtain ⟨hp, hv⟩ := hv
        refine k_rel_i (w := wC cy ad) (va_runVN (As := [.int p_, .int season_, .int h_, .int 0]) (rest := []) ⟨hx, hb, hml, hown, hts⟩ (h_X3_add D cy ad A 1 p_ season_ h_ 0 σ0 (show 1 < 4 by decide) hp) ⟨va_cnB 4 hts gX8_move_X3_add_n105 rfl rfl rfl (nwm_38 hN) (hts (.initialized RX3) (List.mem_of_getElem? (i := 20) rfl)) (by decide +kernel) ⟨le_R hRf (Nat.le_of_ble_eq_true rfl), le_R hRl (Nat.le_of_ble_eq_true rfl)⟩, (hts (.instanceMethod yX3_add) (List.mem_of_getElem? (i := 19) rfl)), (hts (.selects RX3 yX3_add yX3_add) (List.mem_of_getElem? (i := 21) rfl))⟩ ⟨(fun a U g mk q => ⟨q.1, q.2.blind⟩), va_recv hK hP (ci := 3) (q0 := 15) rfl (wC_15 cy ad σ0), (fun U hU hW => ⟨rfl, WdC.pre hP hK hD hN hU hW⟩)⟩ rfl rfl hl.1 rfl (lv_room (Nat.le_of_ble_eq_true rfl)) dX8_move_55 ⟨le_R hRc (Nat.le_refl 0), le_R hRs (Nat.le_refl 0)⟩) hS (fun r11 σ10 H locs hr1 hP hD hS => ?_)
        have hv := hv r11 σ10 hr1
        rw [hZ]; rw [hQ] at hv
        exact W.iret (v := r11) hx hb hr (fun t ht hW => ⟨⟨r11, σ10, rfl, hv, ⟨P_of ht hP, hD⟩⟩, hS.F ht⟩) hS.2.2 dX8_move_58
      · have hv := hv.2 c12
        refine lv_iload hx hb dX8_move_41 (lv_at hl 0 rfl) ?_
        rw [hZ]; rw [hQ] at hv
        exact W.iret (v := (fn_X8_refusal b8 (fn_X8_isOneOf season_ 40) σ0)) hx hb hr (fun t ht hW => ⟨⟨(fn_X8_refusal b8 (fn_X8_isOneOf season_ 40) σ0), σ0, rfl, hv, ⟨P_of ht hP, hD⟩⟩, hS.F ht⟩) hS.2.2 dX8_move_43
    refine lv_if_eq (tgt := 24) hx hb dX8_move_17 (by decide) (fun c9 => ?_) (fun c9 => ?_)
    · have hv := hv.1 c9
      refine lv_iconst (v := 0) hx hb dX8_move_24 (by decide) ?_
      exact jn7 0 _ _ _ hv hP hS hl
    · have hv := hv.2 c9
      refine lv_iconst (v := 1) hx hb dX8_move_20 (by decide) ?_
      refine lv_goto (tgt := 25) hx hb dX8_move_21 (by decide) ?_
      exact jn7 1 _ _ _ hv hP hS hl
set_option maxHeartbeats 4000000 in
set_option maxRecDepth 100000 in
theorem wk_X8_unmove (l : Launch) (h_X3_takeBack : Ct_X3_takeBack l) (sp : Sp_X8_unmove) : Ct_X8_unmove l := by
  intro D cy ad A k_ ag σ0  hpre
  refine Met.ofW (cc := cX8_unmove) (maxL := 2) (ret := (some .int)) (by decide) rfl ?_
  intro p e s m args below meth c s₁ B hml hv0
  obtain ⟨rfl, hP, hK, hD, hN⟩ := hv0
  have hx := B.exec
  have hb := B.bytes
  have hr := B.returns
  have hts := atoms_spec (ws := wsX8_unmove) B.pre
  have hown : s.vm.findClass RX8 = some m.cls := findClass_of_methodNamed B.named
  have hlocks := B.notSynchronized
  have hv := sp k_ ag σ0 hpre
  have hl := lv_entry ([.ref (ad 0), .int k_]) (n := 2) (Nat.le_of_ble_eq_true rfl)
  rw [lg_entry_eq]
  generalize (lg_sl ([.ref (ad 0), .int k_]) ++ List.replicate (2 - (lg_sl ([.ref (ad 0), .int k_])).length) Slot.unset).toArray = ls at hl ⊢
  have hl : lv_has ls 2 [(0, .ref (ad 0)), (1, .int k_)] := hl
  refine W_gen (fun R Z H locs hR hZ hH hlo => ?_)
  have hRf : R.frames = 1 := by rw [hR]; rfl
  have hRl : R.locals = 21 := by rw [hR]; rfl
  have hRc : R.cells = 0 := by rw [hR]; rfl
  have hRs : R.slots = 0 := by rw [hR]; rfl
  have hS : va_S A s.heap H locs := by rw [hH, hlo]; exact va_S.rf
  rw [← hH] at hP
  obtain ⟨Q, hQ⟩ : ∃ q : Int32 → S_ → Prop, q = (post_X8_unmove k_ ag σ0) := ⟨_, rfl⟩
  rw [← hQ] at hv
  have hinX6 : ∀ w ∈ wsX60, w ∈ wsX8_unmove := by decide +kernel
  have hinX8 : ∀ w ∈ wsX80, w ∈ wsX8_unmove := by decide +kernel
  refine lv_aload_n hx hb dX8_unmove_0 rfl (lv_at hl 0 rfl) ?_
  refine va_get (ci := 8) (v := .ref (ad 11)) (C := RX8) (T := TX8) (N := 5) hx hb hts hinX8 hown hK hP 0 (wC_0 cy ad σ0) rfl 2 (by decide) (hts (.fieldLink RX8 27 "TaleBans" "land" "LTaleBans$Steppe;") (List.mem_of_getElem? (i := 1) rfl)) (fun x h => h) rfl dX8_unmove_1 ?_
  refine va_getN (ci := 6) (v := .ref (ad (15))) (C := RX6) (T := TX6) (N := 8) hx hb hts hinX6 hown hK hP 11 (wC_11 cy ad σ0) rfl 2 (by decide) (nw_7 hN) (fun x h => h) rfl dX8_unmove_4 ?_
  refine lv_iload_n hx hb dX8_unmove_7 rfl (lv_at hl 1 rfl) ?_
  have hp := True.intro
  refine k_rel_i (w := wC cy ad) (va_runVN (As := [.int k_]) (rest := []) ⟨hx, hb, hml, hown, hts⟩ (h_X3_takeBack D cy ad A 1 k_ σ0 (show 1 < 4 by decide) hp) ⟨va_cnB 1 hts gX8_unmove_X3_takeBack_n111 rfl rfl rfl (nwm_40 hN) (hts (.initialized RX3) (List.mem_of_getElem? (i := 3) rfl)) (by decide +kernel) ⟨le_R hRf (Nat.le_of_ble_eq_true rfl), le_R hRl (Nat.le_of_ble_eq_true rfl)⟩, (hts (.instanceMethod yX3_takeBack) (List.mem_of_getElem? (i := 2) rfl)), (hts (.selects RX3 yX3_takeBack yX3_takeBack) (List.mem_of_getElem? (i := 4) rfl))⟩ ⟨(fun a U g mk q => ⟨q.1, q.2.blind⟩), va_recv hK hP (ci := 3) (q0 := 15) rfl (wC_15 cy ad σ0), (fun U hU hW => ⟨rfl, WdC.pre hP hK hD hN hU hW⟩)⟩ rfl rfl hl.1 rfl (lv_room (Nat.le_of_ble_eq_true rfl)) dX8_unmove_8 ⟨le_R hRc (Nat.le_refl 0), le_R hRs (Nat.le_refl 0)⟩) hS (fun r2 σ1 H locs hr1 hP hD hS => ?_)
  have hv := hv r2 σ1 hr1
  rw [hZ]; rw [hQ] at hv
  exact W.iret (v := r2) hx hb hr (fun t ht hW => ⟨⟨r2, σ1, rfl, hv, ⟨P_of ht hP, hD⟩⟩, hS.F ht⟩) hS.2.2 dX8_unmove_11
set_option maxHeartbeats 4000000 in
set_option maxRecDepth 100000 in
theorem wk_X8_law (l : Launch) (h_X6_isEmpty : Ct_X6_isEmpty l) (h_X8_isOneOf : Ct_X8_isOneOf l) (sp : Sp_X8_law) : Ct_X8_law l := by
  intro D cy ad A v_ ag σ0  hpre
  refine Met.ofW (cc := cX8_law) (maxL := 3) (ret := (some .int)) (by decide) rfl ?_
  intro p e s m args below meth c s₁ B hml hv0
  obtain ⟨rfl, hP, hK, hD, hN⟩ := hv0
  have hx := B.exec
  have hb := B.bytes
  have hr := B.returns
  have hts := atoms_spec (ws := wsX8_law) B.pre
  have hown : s.vm.findClass RX8 = some m.cls := findClass_of_methodNamed B.named
  have hlocks := B.notSynchronized
  have hv := sp v_ ag σ0 hpre
  have hl := lv_entry ([.ref (ad 0), .int v_]) (n := 3) (Nat.le_of_ble_eq_true rfl)
  rw [lg_entry_eq]
  generalize (lg_sl ([.ref (ad 0), .int v_]) ++ List.replicate (3 - (lg_sl ([.ref (ad 0), .int v_])).length) Slot.unset).toArray = ls at hl ⊢
  have hl : lv_has ls 3 [(0, .ref (ad 0)), (1, .int v_)] := hl
  refine W_gen (fun R Z H locs hR hZ hH hlo => ?_)
  have hRf : R.frames = 1 := by rw [hR]; rfl
  have hRl : R.locals = 21 := by rw [hR]; rfl
  have hRc : R.cells = 0 := by rw [hR]; rfl
  have hRs : R.slots = 0 := by rw [hR]; rfl
  have hS : va_S A s.heap H locs := by rw [hH, hlo]; exact va_S.rf
  rw [← hH] at hP
  obtain ⟨Q, hQ⟩ : ∃ q : Int32 → S_ → Prop, q = (post_X8_law v_ ag σ0) := ⟨_, rfl⟩
  rw [← hQ] at hv
  have hinX6 : ∀ w ∈ wsX60, w ∈ wsX8_law := by decide +kernel
  have hinX8 : ∀ w ∈ wsX80, w ∈ wsX8_law := by decide +kernel
  refine lv_iload_n hx hb dX8_law_0 rfl (lv_at hl 1 rfl) ?_
  refine lv_iconst (v := 3) hx hb dX8_law_1 (by decide) ?_
  refine k_pure_i (va_runS (As := [.int v_, .int 3]) (rest := []) ⟨hx, hb, hml, hown, hts⟩ (h_X8_isOneOf v_ 3) (va_cwS 2 hts gX8_law_X8_isOneOf rfl rfl rfl (by decide +kernel) ⟨le_R hRf (Nat.le_of_ble_eq_true rfl), le_R hRl (Nat.le_of_ble_eq_true rfl)⟩) ⟨(fun a U g mk q => ⟨q.1, trivial⟩), (fun U hU hW => ⟨rfl, trivial⟩)⟩ rfl rfl hl.1 rfl (lv_room (Nat.le_of_ble_eq_true rfl)) dX8_law_2 ⟨le_R hRc (Nat.le_refl 0), le_R hRs (Nat.le_refl 0)⟩) hS hP (fun r H locs hr1 hP hS => ?_)
  subst hr1
  refine lv_if_ne (tgt := 11) hx hb dX8_law_5 (by decide) (fun c4 => ?_) (fun c4 => ?_)
  · have hv := hv.1 c4
    refine lv_aload_n hx hb dX8_law_11 rfl (lv_at hl 0 rfl) ?_
    refine va_get (ci := 8) (v := .ref (ad 11)) (C := RX8) (T := TX8) (N := 5) hx hb hts hinX8 hown hK hP 0 (wC_0 cy ad σ0) rfl 2 (by decide) (hts (.fieldLink RX8 27 "TaleBans" "land" "LTaleBans$Steppe;") (List.mem_of_getElem? (i := 1) rfl)) (fun x h => h) rfl dX8_law_12 ?_
    have hp := True.intro
    refine k_read_i (w := wC cy ad) (va_runVN (As := []) (rest := []) ⟨hx, hb, hml, hown, hts⟩ (h_X6_isEmpty D cy ad A σ0 hp) ⟨va_cnB 0 hts gX8_law_X6_isEmpty_n124 rfl rfl rfl (nwm_37 hN) (hts (.initialized RX6) (List.mem_of_getElem? (i := 7) rfl)) (by decide +kernel) ⟨le_R hRf (Nat.le_of_ble_eq_true rfl), le_R hRl (Nat.le_of_ble_eq_true rfl)⟩, (hts (.instanceMethod yX6_isEmpty) (List.mem_of_getElem? (i := 6) rfl)), (hts (.selects RX6 yX6_isEmpty yX6_isEmpty) (List.mem_of_getElem? (i := 8) rfl))⟩ ⟨(fun a U g mk q => ⟨q.1, q.2.blind⟩), va_recv hK hP (ci := 6) (q0 := 11) rfl (wC_11 cy ad σ0), (fun U hU hW => ⟨rfl, WdC.pre hP hK hD hN hU hW⟩)⟩ rfl rfl hl.1 rfl (lv_room (Nat.le_of_ble_eq_true rfl)) dX8_law_15 ⟨le_R hRc (Nat.le_refl 0), le_R hRs (Nat.le_refl 0)⟩) hS (fun r H locs hr1 hP hS => ?_)
    subst hr1
    refine lv_if_eq (tgt := 24) hx hb dX8_law_18 (by decide) (fun c3 => ?_) (fun c3 => ?_)
    · have hv := hv.1 c3
      refine lv_aload_n hx hb dX8_law_24 rfl (lv_at hl 0 rfl) ?_
      refine va_get (ci := 8) (v := .ref (ad 11)) (C := RX8) (T := TX8) (N := 5) hx hb hts hinX8 hown hK hP 0 (wC_0 cy ad σ0) rfl 2 (by decide) (hts (.fieldLink RX8 27 "TaleBans" "land" "LTaleBans$Steppe;") (List.mem_of_getElem? (i := 1) rfl)) (fun x h => h) rfl dX8_law_25 ?_
      refine va_getN (ci := 6) (v := .int (rdI σ0 4)) (C := RX6) (T := TX6) (N := 8) hx hb hts hinX6 hown hK hP 11 (wC_11 cy ad σ0) rfl 7 (by decide) (nw_13 hN) (fun x h => h) rfl dX8_law_28 ?_
      refine lv_istore_n (lv' := [(2, .int (rdI σ0 4)), (0, .ref (ad 0)), (1, .int v_)]) hx hb dX8_law_31 rfl hl (by decide) rfl (fun ls hl => ?_)
      refine lv_aload_n hx hb dX8_law_32 rfl (lv_at hl 1 rfl) ?_
      refine va_get (ci := 8) (v := .ref (ad 11)) (C := RX8) (T := TX8) (N := 5) hx hb hts hinX8 hown hK hP 0 (wC_0 cy ad σ0) rfl 2 (by decide) (hts (.fieldLink RX8 27 "TaleBans" "land" "LTaleBans$Steppe;") (List.mem_of_getElem? (i := 1) rfl)) (fun x h => h) rfl dX8_law_33 ?_
      refine lv_iload_n hx hb dX8_law_36 rfl (lv_at hl 2 rfl) ?_
      refine va_putN (ci := 6) (v := .int v_) (ty := .int) (C := RX6) (T := TX6) (N := 8) hx hb hts hinX6 tyX6 tyX6_ok nmX6 hown hK hP hD hS 11 (wC_11 cy ad σ0) rfl 7 (by decide) (nw_13 hN) (fun x h => h) rfl (by decide +kernel) rfl rfl (Nat.le_of_ble_eq_true rfl) dX8_law_37 (fun H locs hP hD hS => ?_)
      obtain ⟨σ1, e2⟩ : ∃ y : S_, y = wrI σ0 4 v_ := ⟨_, rfl⟩
      have hP : va_P D vwCl (wC cy ad σ1) H := by rw [e2]; exact hP
      have hD : va_D A (wC cy ad σ1) := by rw [e2]; exact hD
      have hv := hv σ1 e2
      refine lv_iload_n hx hb dX8_law_40 rfl (lv_at hl 0 rfl) ?_
      rw [hZ]; rw [hQ] at hv
      exact W.iret (v := (rdI σ0 4)) hx hb hr (fun t ht hW => ⟨⟨(rdI σ0 4), σ1, rfl, hv, ⟨P_of ht hP, hD⟩⟩, hS.F ht⟩) hS.2.2 dX8_law_41
    · have hv := hv.2 c3
      refine lv_bipush (v := (-3)) hx hb dX8_law_21 (by decide) ?_
      rw [hZ]; rw [hQ] at hv
      exact W.iret (v := (-3)) hx hb hr (fun t ht hW => ⟨⟨(-3), σ0, rfl, hv, ⟨P_of ht hP, hD⟩⟩, hS.F ht⟩) hS.2.2 dX8_law_23
  · have hv := hv.2 c4
    refine lv_bipush (v := (-2)) hx hb dX8_law_8 (by decide) ?_
    rw [hZ]; rw [hQ] at hv
    exact W.iret (v := (-2)) hx hb hr (fun t ht hW => ⟨⟨(-2), σ0, rfl, hv, ⟨P_of ht hP, hD⟩⟩, hS.F ht⟩) hS.2.2 dX8_law_10
set_option maxHeartbeats 4000000 in
set_option maxRecDepth 100000 in
theorem wk_X8_pay (l : Launch) (h_X6_person : Ct_X6_person l) (h_X8_isIn : Ct_X8_isIn l) (sp : Sp_X8_pay) : Ct_X8_pay l := by
  intro D cy ad A p_ is_ ag σ0  hpre
  refine Met.ofW (cc := cX8_pay) (maxL := 3) (ret := (some .int)) (by decide) rfl ?_
  intro p e s m args below meth c s₁ B hml hv0
  obtain ⟨rfl, hP, hK, hD, hN⟩ := hv0
  have hx := B.exec
  have hb := B.bytes
  have hr := B.returns
  have hts := atoms_spec (ws := wsX8_pay) B.pre
  have hown : s.vm.findClass RX8 = some m.cls := findClass_of_methodNamed B.named
  have hlocks := B.notSynchronized
  have hv := sp p_ is_ ag σ0 hpre
  have hl := lv_entry ([.ref (ad 0), .int p_, .int is_]) (n := 3) (Nat.le_of_ble_eq_true rfl)
  rw [lg_entry_eq]
  generalize (lg_sl ([.ref (ad 0), .int p_, .int is_]) ++ List.replicate (3 - (lg_sl ([.ref (ad 0), .int p_, .int is_])).length) Slot.unset).toArray = ls at hl ⊢
  have hl : lv_has ls 3 [(0, .ref (ad 0)), (1, .int p_), (2, .int is_)] := hl
  refine W_gen (fun R Z H locs hR hZ hH hlo => ?_)
  have hRf : R.frames = 2 := by rw [hR]; rfl
  have hRl : R.locals = 42 := by rw [hR]; rfl
  have hRc : R.cells = 0 := by rw [hR]; rfl
  have hRs : R.slots = 0 := by rw [hR]; rfl
  have hS : va_S A s.heap H locs := by rw [hH, hlo]; exact va_S.rf
  rw [← hH] at hP
  obtain ⟨Q, hQ⟩ : ∃ q : Int32 → S_ → Prop, q = (post_X8_pay p_ is_ ag σ0) := ⟨_, rfl⟩
  rw [← hQ] at hv
  have hinX6 : ∀ w ∈ wsX60, w ∈ wsX8_pay := by decide +kernel
  have hinX8 : ∀ w ∈ wsX80, w ∈ wsX8_pay := by decide +kernel
  refine lv_aload_n hx hb dX8_pay_0 rfl (lv_at hl 0 rfl) ?_
  refine va_get (ci := 8) (v := .ref (ad 11)) (C := RX8) (T := TX8) (N := 5) hx hb hts hinX8 hown hK hP 0 (wC_0 cy ad σ0) rfl 2 (by decide) (hts (.fieldLink RX8 27 "TaleBans" "land" "LTaleBans$Steppe;") (List.mem_of_getElem? (i := 1) rfl)) (fun x h => h) rfl dX8_pay_1 ?_
  refine lv_iload_n hx hb dX8_pay_4 rfl (lv_at hl 1 rfl) ?_
  obtain ⟨hp, hv⟩ := hv
  refine k_read_e (w := wC cy ad) (va_runVN (As := [.int p_]) (rest := []) ⟨hx, hb, hml, hown, hts⟩ (h_X6_person D cy ad A p_ σ0 hp) ⟨va_cnB 1 hts gX8_pay_X6_person_n72 rfl rfl rfl (nwm_35 hN) (hts (.initialized RX6) (List.mem_of_getElem? (i := 3) rfl)) (by decide +kernel) ⟨le_R hRf (Nat.le_of_ble_eq_true rfl), le_R hRl (Nat.le_of_ble_eq_true rfl)⟩, (hts (.instanceMethod yX6_person) (List.mem_of_getElem? (i := 2) rfl)), (hts (.selects RX6 yX6_person yX6_person) (List.mem_of_getElem? (i := 4) rfl))⟩ ⟨(fun a U g mk q => ⟨q.1, q.2.blind⟩), va_recv hK hP (ci := 6) (q0 := 11) rfl (wC_11 cy ad σ0), (fun U hU hW => ⟨rfl, WdC.pre hP hK hD hN hU hW⟩)⟩ rfl rfl hl.1 rfl (lv_room (Nat.le_of_ble_eq_true rfl)) dX8_pay_5 ⟨le_R hRc (Nat.le_refl 0), le_R hRs (Nat.le_refl 0)⟩) hS (fun r H locs hr1 hP hS => ?_)
  subst hr1
  cases o2 : (fn_X6_person p_ σ0) with
  | none =>
    have hv := hv.1 o2
    refine W_top (v' := .null) rfl ?_
    refine lv_ifnonnullN hx hb dX8_pay_8 ?_
    refine lv_iconst (v := (-1)) hx hb dX8_pay_11 (by decide) ?_
    rw [hZ]; rw [hQ] at hv
    exact W.iret (v := (-1)) hx hb hr (fun t ht hW => ⟨⟨(-1), σ0, rfl, hv, ⟨P_of ht hP, hD⟩⟩, hS.F ht⟩) hS.2.2 dX8_pay_12
  | some j1 =>
    obtain ⟨hj_j1, hv⟩ := hv.2 j1 o2
    refine W_top (v' := .ref ((hget σ0 j1).1)) rfl ?_
    refine lv_ifnonnull (tgt := 13) hx hb dX8_pay_8 (by decide) ?_
    refine lv_iload_n hx hb dX8_pay_13 rfl (lv_at hl 1 rfl) ?_
    refine lv_aload_n hx hb dX8_pay_14 rfl (lv_at hl 0 rfl) ?_
    refine va_get (ci := 8) (v := .ref (ad 11)) (C := RX8) (T := TX8) (N := 5) hx hb hts hinX8 hown hK hP 0 (wC_0 cy ad σ0) rfl 2 (by decide) (hts (.fieldLink RX8 27 "TaleBans" "land" "LTaleBans$Steppe;") (List.mem_of_getElem? (i := 1) rfl)) (fun x h => h) rfl dX8_pay_15 ?_
    refine va_getN (ci := 6) (v := .int (rdI σ0 3)) (C := RX6) (T := TX6) (N := 8) hx hb hts hinX6 hown hK hP 11 (wC_11 cy ad σ0) rfl 6 (by decide) (nw_12 hN) (fun x h => h) rfl dX8_pay_18 ?_
    refine k_pure_i (va_runS (As := [.int p_, .int (rdI σ0 3)]) (rest := []) ⟨hx, hb, hml, hown, hts⟩ (h_X8_isIn p_ (rdI σ0 3)) (va_cwS 2 hts gX8_pay_X8_isIn rfl rfl rfl (by decide +kernel) ⟨le_R hRf (Nat.le_of_ble_eq_true rfl), le_R hRl (Nat.le_of_ble_eq_true rfl)⟩) ⟨(fun a U g mk q => ⟨q.1, trivial⟩), (fun U hU hW => ⟨rfl, trivial⟩)⟩ rfl rfl hl.1 rfl (lv_room (Nat.le_of_ble_eq_true rfl)) dX8_pay_21 ⟨le_R hRc (Nat.le_refl 0), le_R hRs (Nat.le_refl 0)⟩) hS hP (fun r H locs hr1 hP hS => ?_)
    subst hr1
    refine lv_iload_n hx hb dX8_pay_24 rfl (lv_at hl 2 rfl) ?_
    refine lv_icmp_ne (tgt := 30) hx hb dX8_pay_25 (by decide) (fun c5 => ?_) (fun c5 => ?_)
    · have hv := hv.1 c5
      refine lv_aload_n hx hb dX8_pay_30 rfl (lv_at hl 0 rfl) ?_
      refine va_get (ci := 8) (v := .ref (ad 11)) (C := RX8) (T := TX8) (N := 5) hx hb hts hinX8 hown hK hP 0 (wC_0 cy ad σ0) rfl 2 (by decide) (hts (.fieldLink RX8 27 "TaleBans" "land" "LTaleBans$Steppe;") (List.mem_of_getElem? (i := 1) rfl)) (fun x h => h) rfl dX8_pay_31 ?_
      refine lv_dup hx hb dX8_pay_34 rfl ?_
      refine va_getN (ci := 6) (v := .int (rdI σ0 3)) (C := RX6) (T := TX6) (N := 8) hx hb hts hinX6 hown hK hP 11 (wC_11 cy ad σ0) rfl 6 (by decide) (nw_12 hN) (fun x h => h) rfl dX8_pay_35 ?_
      refine lv_iconst (v := 1) hx hb dX8_pay_38 (by decide) ?_
      refine lv_iload_n hx hb dX8_pay_39 rfl (lv_at hl 1 rfl) ?_
      refine lv_ishl hx hb dX8_pay_40 ?_
      refine lv_ixor hx hb dX8_pay_41 ?_
      refine va_putN (ci := 6) (v := .int ((rdI σ0 3) ^^^ (1 <<< (p_ &&& 31)))) (ty := .int) (C := RX6) (T := TX6) (N := 8) hx hb hts hinX6 tyX6 tyX6_ok nmX6 hown hK hP hD hS 11 (wC_11 cy ad σ0) rfl 6 (by decide) (nw_12 hN) (fun x h => h) rfl (by decide +kernel) rfl rfl (Nat.le_of_ble_eq_true rfl) dX8_pay_42 (fun H locs hP hD hS => ?_)
      obtain ⟨σ3, e4⟩ : ∃ y : S_, y = wrI σ0 3 ((rdI σ0 3) ^^^ (1 <<< (p_ &&& 31))) := ⟨_, rfl⟩
      have hP : va_P D vwCl (wC cy ad σ3) H := by rw [e4]; exact hP
      have hD : va_D A (wC cy ad σ3) := by rw [e4]; exact hD
      have hv := hv σ3 e4
      refine lv_iconst (v := 1) hx hb dX8_pay_45 (by decide) ?_
      rw [hZ]; rw [hQ] at hv
      exact W.iret (v := 1) hx hb hr (fun t ht hW => ⟨⟨1, σ3, rfl, hv, ⟨P_of ht hP, hD⟩⟩, hS.F ht⟩) hS.2.2 dX8_pay_46
    · have hv := hv.2 c5
      refine lv_iconst (v := 0) hx hb dX8_pay_28 (by decide) ?_
      rw [hZ]; rw [hQ] at hv
      exact W.iret (v := 0) hx hb hr (fun t ht hW => ⟨⟨0, σ0, rfl, hv, ⟨P_of ht hP, hD⟩⟩, hS.F ht⟩) hS.2.2 dX8_pay_29
set_option maxHeartbeats 4000000 in
set_option maxRecDepth 100000 in
theorem wk_X8_parody (l : Launch) (h_X3_at : Ct_X3_at l) (h_X3_has : Ct_X3_has l) (h_X3_set : Ct_X3_set l) (sp : Sp_X8_parody) : Ct_X8_parody l := by
  intro D cy ad A t_ is_ ag σ0  hpre
  refine Met.ofW (cc := cX8_parody) (maxL := 4) (ret := (some .int)) (by decide) rfl ?_
  intro p e s m args below meth c s₁ B hml hv0
  obtain ⟨rfl, hP, hK, hD, hN⟩ := hv0
  have hx := B.exec
  have hb := B.bytes
  have hr := B.returns
  have hts := atoms_spec (ws := wsX8_parody) B.pre
  have hown : s.vm.findClass RX8 = some m.cls := findClass_of_methodNamed B.named
  have hlocks := B.notSynchronized
  have hv := sp t_ is_ ag σ0 hpre
  have hl := lv_entry ([.ref (ad 0), .int t_, .int is_]) (n := 4) (Nat.le_of_ble_eq_true rfl)
  rw [lg_entry_eq]
  generalize (lg_sl ([.ref (ad 0), .int t_, .int is_]) ++ List.replicate (4 - (lg_sl ([.ref (ad 0), .int t_, .int is_])).length) Slot.unset).toArray = ls at hl ⊢
  have hl : lv_has ls 4 [(0, .ref (ad 0)), (1, .int t_), (2, .int is_)] := hl
  refine W_gen (fun R Z H locs hR hZ hH hlo => ?_)
  have hRf : R.frames = 2 := by rw [hR]; rfl
  have hRl : R.locals = 44 := by rw [hR]; rfl
  have hRc : R.cells = 0 := by rw [hR]; rfl
  have hRs : R.slots = 0 := by rw [hR]; rfl
  have hS : va_S A s.heap H locs := by rw [hH, hlo]; exact va_S.rf
  rw [← hH] at hP
  obtain ⟨Q, hQ⟩ : ∃ q : Int32 → S_ → Prop, q = (post_X8_parody t_ is_ ag σ0) := ⟨_, rfl⟩
  rw [← hQ] at hv
  have hinX6 : ∀ w ∈ wsX60, w ∈ wsX8_parody := by decide +kernel
  have hinX8 : ∀ w ∈ wsX80, w ∈ wsX8_parody := by decide +kernel
  refine lv_aload_n hx hb dX8_parody_0 rfl (lv_at hl 0 rfl) ?_
  refine va_get (ci := 8) (v := .ref (ad 11)) (C := RX8) (T := TX8) (N := 5) hx hb hts hinX8 hown hK hP 0 (wC_0 cy ad σ0) rfl 2 (by decide) (hts (.fieldLink RX8 27 "TaleBans" "land" "LTaleBans$Steppe;") (List.mem_of_getElem? (i := 1) rfl)) (fun x h => h) rfl dX8_parody_1 ?_
  refine va_getN (ci := 6) (v := .ref (ad (13))) (C := RX6) (T := TX6) (N := 8) hx hb hts hinX6 hown hK hP 11 (wC_11 cy ad σ0) rfl 1 (by decide) (nw_5 hN) (fun x h => h) rfl dX8_parody_4 ?_
  refine lv_iload_n hx hb dX8_parody_7 rfl (lv_at hl 1 rfl) ?_
  have hp := True.intro
  refine k_read_i (w := wC cy ad) (va_runVN (As := [.int t_]) (rest := []) ⟨hx, hb, hml, hown, hts⟩ (h_X3_has D cy ad A 0 t_ σ0 (show 0 < 4 by decide) hp) ⟨va_cnB 1 hts gX8_parody_X3_has_n131 rfl rfl rfl (nwm_42 hN) (hts (.initialized RX3) (List.mem_of_getElem? (i := 3) rfl)) (by decide +kernel) ⟨le_R hRf (Nat.le_of_ble_eq_true rfl), le_R hRl (Nat.le_of_ble_eq_true rfl)⟩, (hts (.instanceMethod yX3_has) (List.mem_of_getElem? (i := 2) rfl)), (hts (.selects RX3 yX3_has yX3_has) (List.mem_of_getElem? (i := 4) rfl))⟩ ⟨(fun a U g mk q => ⟨q.1, q.2.blind⟩), va_recv hK hP (ci := 3) (q0 := 13) rfl (wC_13 cy ad σ0), (fun U hU hW => ⟨rfl, WdC.pre hP hK hD hN hU hW⟩)⟩ rfl rfl hl.1 rfl (lv_room (Nat.le_of_ble_eq_true rfl)) dX8_parody_8 ⟨le_R hRc (Nat.le_refl 0), le_R hRs (Nat.le_refl 0)⟩) hS (fun r H locs hr1 hP hS => ?_)
  subst hr1
  refine lv_if_ne (tgt := 16) hx hb dX8_parody_11 (by decide) (fun c7 => ?_) (fun c7 => ?_)
  · have hv := hv.1 c7
    refine lv_iload_n hx hb dX8_parody_16 rfl (lv_at hl 2 rfl) ?_
    obtain ⟨P1, hv, hvr⟩ := hv
    have jn2 : ∀ (b3 : Int32) (H : Heap) (locs : List Loc) (ls : Array Slot), P1 b3 → va_P D vwCl (wC cy ad σ0) H → va_S A s.heap H locs → lv_has ls 4 [(0, .ref (ad 0)), (1, .int t_), (2, .int is_)] → W p l e R s m ([.ref (ad 0), .int t_, .int is_] : List Value).toArray below meth c H locs 0 0 Z (F0 m 25 ls [.int b3]) := by
      intro b3 H locs ls hv hP hS hl
      have hv := hvr b3 hv
      refine lv_istore_n (lv' := [(3, .int b3), (0, .ref (ad 0)), (1, .int t_), (2, .int is_)]) hx hb dX8_parody_25 rfl hl (by decide) rfl (fun ls hl => ?_)
      refine lv_aload_n hx hb dX8_parody_26 rfl (lv_at hl 1 rfl) ?_
      refine va_get (ci := 8) (v := .ref (ad 11)) (C := RX8) (T := TX8) (N := 5) hx hb hts hinX8 hown hK hP 0 (wC_0 cy ad σ0) rfl 2 (by decide) (hts (.fieldLink RX8 27 "TaleBans" "land" "LTaleBans$Steppe;") (List.mem_of_getElem? (i := 1) rfl)) (fun x h => h) rfl dX8_parody_27 ?_
      refine va_getN (ci := 6) (v := .ref (ad (13))) (C := RX6) (T := TX6) (N := 8) hx hb hts hinX6 hown hK hP 11 (wC_11 cy ad σ0) rfl 1 (by decide) (nw_5 hN) (fun x h => h) rfl dX8_parody_30 ?_
      refine lv_iload_n hx hb dX8_parody_33 rfl (lv_at hl 2 rfl) ?_
      refine lv_iconst (v := 3) hx hb dX8_parody_34 (by decide) ?_
      obtain ⟨hp, hv⟩ := hv
      refine k_read_i (w := wC cy ad) (va_runVN (As := [.int t_, .int 3]) (rest := []) ⟨hx, hb, hml, hown, hts⟩ (h_X3_at D cy ad A 0 t_ 3 σ0 (show 0 < 4 by decide) hp) ⟨va_cnB 2 hts gX8_parody_X3_at_n135 rfl rfl rfl (nwm_43 hN) (hts (.initialized RX3) (List.mem_of_getElem? (i := 3) rfl)) (by decide +kernel) ⟨le_R hRf (Nat.le_of_ble_eq_true rfl), le_R hRl (Nat.le_of_ble_eq_true rfl)⟩, (hts (.instanceMethod yX3_at) (List.mem_of_getElem? (i := 7) rfl)), (hts (.selects RX3 yX3_at yX3_at) (List.mem_of_getElem? (i := 8) rfl))⟩ ⟨(fun a U g mk q => ⟨q.1, q.2.blind⟩), va_recv hK hP (ci := 3) (q0 := 13) rfl (wC_13 cy ad σ0), (fun U hU hW => ⟨rfl, WdC.pre hP hK hD hN hU hW⟩)⟩ rfl rfl hl.1 rfl (lv_room (Nat.le_of_ble_eq_true rfl)) dX8_parody_35 ⟨le_R hRc (Nat.le_refl 0), le_R hRs (Nat.le_refl 0)⟩) hS (fun r H locs hr1 hP hS => ?_)
      subst hr1
      refine lv_iload_n hx hb dX8_parody_38 rfl (lv_at hl 0 rfl) ?_
      refine lv_icmp_ne (tgt := 44) hx hb dX8_parody_39 (by decide) (fun c6 => ?_) (fun c6 => ?_)
      · have hv := hv.1 c6
        refine lv_aload_n hx hb dX8_parody_44 rfl (lv_at hl 1 rfl) ?_
        refine va_get (ci := 8) (v := .ref (ad 11)) (C := RX8) (T := TX8) (N := 5) hx hb hts hinX8 hown hK hP 0 (wC_0 cy ad σ0) rfl 2 (by decide) (hts (.fieldLink RX8 27 "TaleBans" "land" "LTaleBans$Steppe;") (List.mem_of_getElem? (i := 1) rfl)) (fun x h => h) rfl dX8_parody_45 ?_
        refine va_getN (ci := 6) (v := .ref (ad (13))) (C := RX6) (T := TX6) (N := 8) hx hb hts hinX6 hown hK hP 11 (wC_11 cy ad σ0) rfl 1 (by decide) (nw_5 hN) (fun x h => h) rfl dX8_parody_48 ?_
        refine lv_iload_n hx hb dX8_parody_51 rfl (lv_at hl 2 rfl) ?_
        refine lv_iconst (v := 3) hx hb dX8_parody_52 (by decide) ?_
        refine lv_iload_n hx hb dX8_parody_53 rfl (lv_at hl 0 rfl) ?_
        obtain ⟨hp, hv⟩ := hv
        refine k_rel_v (w := wC cy ad) (va_runVN (As := [.int t_, .int 3, .int b3]) (rest := []) ⟨hx, hb, hml, hown, hts⟩ (h_X3_set D cy ad A 0 t_ 3 b3 σ0 (show 0 < 4 by decide) hp) ⟨va_cnB 3 hts gX8_parody_X3_set_n139 rfl rfl rfl (nwm_44 hN) (hts (.initialized RX3) (List.mem_of_getElem? (i := 3) rfl)) (by decide +kernel) ⟨le_R hRf (Nat.le_of_ble_eq_true rfl), le_R hRl (Nat.le_of_ble_eq_true rfl)⟩, (hts (.instanceMethod yX3_set) (List.mem_of_getElem? (i := 15) rfl)), (hts (.selects RX3 yX3_set yX3_set) (List.mem_of_getElem? (i := 16) rfl))⟩ ⟨(fun a U g mk q => ⟨q.1, q.2.blind⟩), va_recv hK hP (ci := 3) (q0 := 13) rfl (wC_13 cy ad σ0), (fun U hU hW => ⟨rfl, WdC.pre hP hK hD hN hU hW⟩)⟩ rfl rfl hl.1 rfl (lv_room (Nat.le_of_ble_eq_true rfl)) dX8_parody_54 ⟨le_R hRc (Nat.le_refl 0), le_R hRs (Nat.le_refl 0)⟩) hS (fun σ5 H locs hr1 hP hD hS => ?_)
        have hv := hv σ5 hr1
        refine lv_iconst (v := 1) hx hb dX8_parody_57 (by decide) ?_
        rw [hZ]; rw [hQ] at hv
        exact W.iret (v := 1) hx hb hr (fun t ht hW => ⟨⟨1, σ5, rfl, hv, ⟨P_of ht hP, hD⟩⟩, hS.F ht⟩) hS.2.2 dX8_parody_58
      · have hv := hv.2 c6
        refine lv_iconst (v := 0) hx hb dX8_parody_42 (by decide) ?_
        rw [hZ]; rw [hQ] at hv
        exact W.iret (v := 0) hx hb hr (fun t ht hW => ⟨⟨0, σ0, rfl, hv, ⟨P_of ht hP, hD⟩⟩, hS.F ht⟩) hS.2.2 dX8_parody_43
    refine lv_if_eq (tgt := 24) hx hb dX8_parody_17 (by decide) (fun c4 => ?_) (fun c4 => ?_)
    · have hv := hv.1 c4
      refine lv_iconst (v := 0) hx hb dX8_parody_24 (by decide) ?_
      exact jn2 0 _ _ _ hv hP hS hl
    · have hv := hv.2 c4
      refine lv_iconst (v := 1) hx hb dX8_parody_20 (by decide) ?_
      refine lv_goto (tgt := 25) hx hb dX8_parody_21 (by decide) ?_
      exact jn2 1 _ _ _ hv hP hS hl
  · have hv := hv.2 c7
    refine lv_iconst (v := (-1)) hx hb dX8_parody_14 (by decide) ?_
    rw [hZ]; rw [hQ] at hv
    exact W.iret (v := (-1)) hx hb hr (fun t ht hW => ⟨⟨(-1), σ0, rfl, hv, ⟨P_of ht hP, hD⟩⟩, hS.F ht⟩) hS.2.2 dX8_parody_15
set_option maxHeartbeats 4000000 in
set_option maxRecDepth 100000 in
theorem wk_X8_remembers (l : Launch) (h_X4_talesOf : Ct_X4_talesOf l) (h_X6_person : Ct_X6_person l) (h_X8_isOneOf : Ct_X8_isOneOf l) (h_X8_reach : Ct_X8_reach l) (h_X8_refusal : Ct_X8_refusal l) (sp : Sp_X8_remembers) : Ct_X8_remembers l := by
  intro D cy ad A p_ season_ ag σ0  hpre
  refine Met.ofW (cc := cX8_remembers) (maxL := 4) (ret := (some .int)) (by decide) rfl ?_
  intro p e s m args below meth c s₁ B hml hv0
  obtain ⟨rfl, hP, hK, hD, hN⟩ := hv0
  have hx := B.exec
  have hb := B.bytes
  have hr := B.returns
  have hts := atoms_spec (ws := wsX8_remembers) B.pre
  have hown : s.vm.findClass RX8 = some m.cls := findClass_of_methodNamed B.named
  have hlocks := B.notSynchronized
  have hv := sp p_ season_ ag σ0 hpre
  have hl := lv_entry ([.ref (ad 0), .int p_, .int season_]) (n := 4) (Nat.le_of_ble_eq_true rfl)
  rw [lg_entry_eq]
  generalize (lg_sl ([.ref (ad 0), .int p_, .int season_]) ++ List.replicate (4 - (lg_sl ([.ref (ad 0), .int p_, .int season_])).length) Slot.unset).toArray = ls at hl ⊢
  have hl : lv_has ls 4 [(0, .ref (ad 0)), (1, .int p_), (2, .int season_)] := hl
  refine W_gen (fun R Z H locs hR hZ hH hlo => ?_)
  have hRf : R.frames = 5 := by rw [hR]; rfl
  have hRl : R.locals = 114 := by rw [hR]; rfl
  have hRc : R.cells = 0 := by rw [hR]; rfl
  have hRs : R.slots = 0 := by rw [hR]; rfl
  have hS : va_S A s.heap H locs := by rw [hH, hlo]; exact va_S.rf
  rw [← hH] at hP
  obtain ⟨Q, hQ⟩ : ∃ q : Int32 → S_ → Prop, q = (post_X8_remembers p_ season_ ag σ0) := ⟨_, rfl⟩
  rw [← hQ] at hv
  have hinX6 : ∀ w ∈ wsX60, w ∈ wsX8_remembers := by decide +kernel
  have hinX8 : ∀ w ∈ wsX80, w ∈ wsX8_remembers := by decide +kernel
  refine lv_aload_n hx hb dX8_remembers_0 rfl (lv_at hl 0 rfl) ?_
  refine lv_aload_n hx hb dX8_remembers_1 rfl (lv_at hl 0 rfl) ?_
  refine va_get (ci := 8) (v := .ref (ad 11)) (C := RX8) (T := TX8) (N := 5) hx hb hts hinX8 hown hK hP 0 (wC_0 cy ad σ0) rfl 2 (by decide) (hts (.fieldLink RX8 27 "TaleBans" "land" "LTaleBans$Steppe;") (List.mem_of_getElem? (i := 1) rfl)) (fun x h => h) rfl dX8_remembers_2 ?_
  refine lv_iload_n hx hb dX8_remembers_5 rfl (lv_at hl 1 rfl) ?_
  obtain ⟨hp, hv⟩ := hv
  refine k_read_e (w := wC cy ad) (va_runVN (As := [.int p_]) (rest := [.ref (ad 0)]) ⟨hx, hb, hml, hown, hts⟩ (h_X6_person D cy ad A p_ σ0 hp) ⟨va_cnB 1 hts gX8_remembers_X6_person_n72 rfl rfl rfl (nwm_35 hN) (hts (.initialized RX6) (List.mem_of_getElem? (i := 4) rfl)) (by decide +kernel) ⟨le_R hRf (Nat.le_of_ble_eq_true rfl), le_R hRl (Nat.le_of_ble_eq_true rfl)⟩, (hts (.instanceMethod yX6_person) (List.mem_of_getElem? (i := 3) rfl)), (hts (.selects RX6 yX6_person yX6_person) (List.mem_of_getElem? (i := 5) rfl))⟩ ⟨(fun a U g mk q => ⟨q.1, q.2.blind⟩), va_recv hK hP (ci := 6) (q0 := 11) rfl (wC_11 cy ad σ0), (fun U hU hW => ⟨rfl, WdC.pre hP hK hD hN hU hW⟩)⟩ rfl rfl hl.1 rfl (lv_room (Nat.le_of_ble_eq_true rfl)) dX8_remembers_6 ⟨le_R hRc (Nat.le_refl 0), le_R hRs (Nat.le_refl 0)⟩) hS (fun r H locs hr1 hP hS => ?_)
  subst hr1
  cases o2 : (fn_X6_person p_ σ0) with
  | none =>
    have hv := hv.1 o2
    refine W_top (v' := .null) rfl ?_
    refine lv_ifnullN (tgt := 16) hx hb dX8_remembers_9 (by decide) ?_
    refine lv_iconst (v := 0) hx hb dX8_remembers_16 (by decide) ?_
    refine lv_iload_n hx hb dX8_remembers_17 rfl (lv_at hl 2 rfl) ?_
    refine lv_bipush (v := 40) hx hb dX8_remembers_18 (by decide) ?_
    refine k_pure_i (va_runS (As := [.int season_, .int 40]) (rest := [.int 0, .ref (ad 0)]) ⟨hx, hb, hml, hown, hts⟩ (h_X8_isOneOf season_ 40) (va_cwS 2 hts gX8_remembers_X8_isOneOf rfl rfl rfl (by decide +kernel) ⟨le_R hRf (Nat.le_of_ble_eq_true rfl), le_R hRl (Nat.le_of_ble_eq_true rfl)⟩) ⟨(fun a U g mk q => ⟨q.1, trivial⟩), (fun U hU hW => ⟨rfl, trivial⟩)⟩ rfl rfl hl.1 rfl (lv_room (Nat.le_of_ble_eq_true rfl)) dX8_remembers_20 ⟨le_R hRc (Nat.le_refl 0), le_R hRs (Nat.le_refl 0)⟩) hS hP (fun r H locs hr1 hP hS => ?_)
    subst hr1
    have hp := True.intro
    refine k_read_i (w := wC cy ad) (va_runV (As := [.int 0, .int (fn_X8_isOneOf season_ 40)]) (rest := []) ⟨hx, hb, hml, hown, hts⟩ (h_X8_refusal D cy ad A 0 (fn_X8_isOneOf season_ 40) σ0 hp) (cwV 2 hts gX8_remembers_X8_refusal rfl rfl rfl (by decide +kernel) ⟨le_R hRf (Nat.le_of_ble_eq_true rfl), le_R hRl (Nat.le_of_ble_eq_true rfl)⟩) ⟨(fun a U g mk q => ⟨q.1, q.2.blind⟩), va_recv hK hP (ci := 8) (q0 := 0) rfl (wC_0 cy ad σ0), (fun U hU hW => ⟨rfl, WdC.pre hP hK hD hN hU hW⟩)⟩ rfl rfl hl.1 rfl (lv_room (Nat.le_of_ble_eq_true rfl)) dX8_remembers_23 ⟨le_R hRc (Nat.le_refl 0), le_R hRs (Nat.le_refl 0)⟩) hS (fun r H locs hr1 hP hS => ?_)
    subst hr1
    refine lv_istore_n (lv' := [(3, .int (fn_X8_refusal 0 (fn_X8_isOneOf season_ 40) σ0)), (0, .ref (ad 0)), (1, .int p_), (2, .int season_)]) hx hb dX8_remembers_26 rfl hl (by decide) rfl (fun ls hl => ?_)
    refine lv_iload_n hx hb dX8_remembers_27 rfl (lv_at hl 0 rfl) ?_
    refine lv_if_eq (tgt := 33) hx hb dX8_remembers_28 (by decide) (fun c11 => ?_) (fun c11 => ?_)
    · have hv := hv.1 c11
      refine lv_aload_n hx hb dX8_remembers_33 rfl (lv_at hl 1 rfl) ?_
      refine lv_iload_n hx hb dX8_remembers_34 rfl (lv_at hl 3 rfl) ?_
      refine lv_aload_n hx hb dX8_remembers_35 rfl (lv_at hl 1 rfl) ?_
      refine va_get (ci := 8) (v := .ref (ad 11)) (C := RX8) (T := TX8) (N := 5) hx hb hts hinX8 hown hK hP 0 (wC_0 cy ad σ0) rfl 2 (by decide) (hts (.fieldLink RX8 27 "TaleBans" "land" "LTaleBans$Steppe;") (List.mem_of_getElem? (i := 1) rfl)) (fun x h => h) rfl dX8_remembers_36 ?_
      refine va_getN (ci := 6) (v := .int (rdI σ0 3)) (C := RX6) (T := TX6) (N := 8) hx hb hts hinX6 hown hK hP 11 (wC_11 cy ad σ0) rfl 6 (by decide) (nw_12 hN) (fun x h => h) rfl dX8_remembers_39 ?_
      obtain ⟨g3, g4, hv⟩ := hv
      obtain ⟨hp, hv⟩ := hv
      refine k_rel_v (w := wC cy ad) (va_runV (As := [.int season_, .int (rdI σ0 3)]) (rest := []) ⟨hx, hb, hml, hown, hts⟩ (h_X8_reach D cy ad A season_ (rdI σ0 3) g3 g4 σ0 hp) (cwV 2 hts gX8_remembers_X8_reach rfl rfl rfl (by decide +kernel) ⟨le_R hRf (Nat.le_of_ble_eq_true rfl), le_R hRl (Nat.le_of_ble_eq_true rfl)⟩) ⟨(fun a U g mk q => ⟨q.1, q.2.blind⟩), va_recv hK hP (ci := 8) (q0 := 0) rfl (wC_0 cy ad σ0), (fun U hU hW => ⟨rfl, WdC.pre hP hK hD hN hU hW⟩)⟩ rfl rfl hl.1 rfl (lv_room (Nat.le_of_ble_eq_true rfl)) dX8_remembers_42 ⟨le_R hRc (Nat.le_refl 0), le_R hRs (Nat.le_refl 0)⟩) hS (fun σ5 H locs hr1 hP hD hS => ?_)
      have hv := hv σ5 hr1
      refine lv_aload_n hx hb dX8_remembers_45 rfl (lv_at hl 1 rfl) ?_
      refine va_get (ci := 8) (v := .ref (ad 21)) (C := RX8) (T := TX8) (N := 5) hx hb hts hinX8 hown hK hP 0 (wC_0 cy ad σ5) rfl 3 (by decide) (hts (.fieldLink RX8 36 "TaleBans" "seasons" "LTaleBans$Seasons;") (List.mem_of_getElem? (i := 2) rfl)) (fun x h => h) rfl dX8_remembers_46 ?_
      refine lv_iload_n hx hb dX8_remembers_49 rfl (lv_at hl 2 rfl) ?_
      obtain ⟨g6, g7, g8, g9, hv⟩ := hv
      obtain ⟨hp, hv⟩ := hv
      refine k_read_i (w := wC cy ad) (va_runVN (As := [.int p_]) (rest := []) ⟨hx, hb, hml, hown, hts⟩ (h_X4_talesOf D cy ad A p_ g6 g7 g8 g9 σ5 hp) ⟨va_cnB 1 hts gX8_remembers_X4_talesOf_n146 rfl rfl rfl (nwm_51 hN) (hts (.initialized RX4) (List.mem_of_getElem? (i := 25) rfl)) (by decide +kernel) ⟨le_R hRf (Nat.le_of_ble_eq_true rfl), le_R hRl (Nat.le_of_ble_eq_true rfl)⟩, (hts (.instanceMethod yX4_talesOf) (List.mem_of_getElem? (i := 111) rfl)), (hts (.selects RX4 yX4_talesOf yX4_talesOf) (List.mem_of_getElem? (i := 112) rfl))⟩ ⟨(fun a U g mk q => ⟨q.1, q.2.blind⟩), va_recv hK hP (ci := 4) (q0 := 21) rfl (wC_21 cy ad σ5), (fun U hU hW => ⟨rfl, WdC.pre hP hK hD hN hU hW⟩)⟩ rfl rfl hl.1 rfl (lv_room (Nat.le_of_ble_eq_true rfl)) dX8_remembers_50 ⟨le_R hRc (Nat.le_refl 0), le_R hRs (Nat.le_refl 0)⟩) hS (fun r10 H locs hr1 hP hS => ?_)
      have hv := hv r10 hr1
      rw [hZ]; rw [hQ] at hv
      exact W.iret (v := r10) hx hb hr (fun t ht hW => ⟨⟨r10, σ5, rfl, hv, ⟨P_of ht hP, hD⟩⟩, hS.F ht⟩) hS.2.2 dX8_remembers_53
    · have hv := hv.2 c11
      refine lv_iload_n hx hb dX8_remembers_31 rfl (lv_at hl 0 rfl) ?_
      rw [hZ]; rw [hQ] at hv
      exact W.iret (v := (fn_X8_refusal 0 (fn_X8_isOneOf season_ 40) σ0)) hx hb hr (fun t ht hW => ⟨⟨(fn_X8_refusal 0 (fn_X8_isOneOf season_ 40) σ0), σ0, rfl, hv, ⟨P_of ht hP, hD⟩⟩, hS.F ht⟩) hS.2.2 dX8_remembers_32
  | some j1 =>
    obtain ⟨hj_j1, hv⟩ := hv.2 j1 o2
    refine W_top (v' := .ref ((hget σ0 j1).1)) rfl ?_
    refine lv_ifnull hx hb dX8_remembers_9 ?_
    refine lv_iconst (v := 1) hx hb dX8_remembers_12 (by decide) ?_
    refine lv_goto (tgt := 17) hx hb dX8_remembers_13 (by decide) ?_
    refine lv_iload_n hx hb dX8_remembers_17 rfl (lv_at hl 2 rfl) ?_
    refine lv_bipush (v := 40) hx hb dX8_remembers_18 (by decide) ?_
    refine k_pure_i (va_runS (As := [.int season_, .int 40]) (rest := [.int 1, .ref (ad 0)]) ⟨hx, hb, hml, hown, hts⟩ (h_X8_isOneOf season_ 40) (va_cwS 2 hts gX8_remembers_X8_isOneOf rfl rfl rfl (by decide +kernel) ⟨le_R hRf (Nat.le_of_ble_eq_true rfl), le_R hRl (Nat.le_of_ble_eq_true rfl)⟩) ⟨(fun a U g mk q => ⟨q.1, trivial⟩), (fun U hU hW => ⟨rfl, trivial⟩)⟩ rfl rfl hl.1 rfl (lv_room (Nat.le_of_ble_eq_true rfl)) dX8_remembers_20 ⟨le_R hRc (Nat.le_refl 0), le_R hRs (Nat.le_refl 0)⟩) hS hP (fun r H locs hr1 hP hS => ?_)
    subst hr1
    have hp := True.intro
    refine k_read_i (w := wC cy ad) (va_runV (As := [.int 1, .int (fn_X8_isOneOf season_ 40)]) (rest := []) ⟨hx, hb, hml, hown, hts⟩ (h_X8_refusal D cy ad A 1 (fn_X8_isOneOf season_ 40) σ0 hp) (cwV 2 hts gX8_remembers_X8_refusal rfl rfl rfl (by decide +kernel) ⟨le_R hRf (Nat.le_of_ble_eq_true rfl), le_R hRl (Nat.le_of_ble_eq_true rfl)⟩) ⟨(fun a U g mk q => ⟨q.1, q.2.blind⟩), va_recv hK hP (ci := 8) (q0 := 0) rfl (wC_0 cy ad σ0), (fun U hU hW => ⟨rfl, WdC.pre hP hK hD hN hU hW⟩)⟩ rfl rfl hl.1 rfl (lv_room (Nat.le_of_ble_eq_true rfl)) dX8_remembers_23 ⟨le_R hRc (Nat.le_refl 0), le_R hRs (Nat.le_refl 0)⟩) hS (fun r H locs hr1 hP hS => ?_)
    subst hr1
    refine lv_istore_n (lv' := [(3, .int (fn_X8_refusal 1 (fn_X8_isOneOf season_ 40) σ0)), (0, .ref (ad 0)), (1, .int p_), (2, .int season_)]) hx hb dX8_remembers_26 rfl hl (by decide) rfl (fun ls hl => ?_)
    refine lv_iload_n hx hb dX8_remembers_27 rfl (lv_at hl 0 rfl) ?_
    refine lv_if_eq (tgt := 33) hx hb dX8_remembers_28 (by decide) (fun c20 => ?_) (fun c20 => ?_)
    · have hv := hv.1 c20
      refine lv_aload_n hx hb dX8_remembers_33 rfl (lv_at hl 1 rfl) ?_
      refine lv_iload_n hx hb dX8_remembers_34 rfl (lv_at hl 3 rfl) ?_
      refine lv_aload_n hx hb dX8_remembers_35 rfl (lv_at hl 1 rfl) ?_
      refine va_get (ci := 8) (v := .ref (ad 11)) (C := RX8) (T := TX8) (N := 5) hx hb hts hinX8 hown hK hP 0 (wC_0 cy ad σ0) rfl 2 (by decide) (hts (.fieldLink RX8 27 "TaleBans" "land" "LTaleBans$Steppe;") (List.mem_of_getElem? (i := 1) rfl)) (fun x h => h) rfl dX8_remembers_36 ?_
      refine va_getN (ci := 6) (v := .int (rdI σ0 3)) (C := RX6) (T := TX6) (N := 8) hx hb hts hinX6 hown hK hP 11 (wC_11 cy ad σ0) rfl 6 (by decide) (nw_12 hN) (fun x h => h) rfl dX8_remembers_39 ?_
      obtain ⟨g12, g13, hv⟩ := hv
      obtain ⟨hp, hv⟩ := hv
      refine k_rel_v (w := wC cy ad) (va_runV (As := [.int season_, .int (rdI σ0 3)]) (rest := []) ⟨hx, hb, hml, hown, hts⟩ (h_X8_reach D cy ad A season_ (rdI σ0 3) g12 g13 σ0 hp) (cwV 2 hts gX8_remembers_X8_reach rfl rfl rfl (by decide +kernel) ⟨le_R hRf (Nat.le_of_ble_eq_true rfl), le_R hRl (Nat.le_of_ble_eq_true rfl)⟩) ⟨(fun a U g mk q => ⟨q.1, q.2.blind⟩), va_recv hK hP (ci := 8) (q0 := 0) rfl (wC_0 cy ad σ0), (fun U hU hW => ⟨rfl, WdC.pre hP hK hD hN hU hW⟩)⟩ rfl rfl hl.1 rfl (lv_room (Nat.le_of_ble_eq_true rfl)) dX8_remembers_42 ⟨le_R hRc (Nat.le_refl 0), le_R hRs (Nat.le_refl 0)⟩) hS (fun σ14 H locs hr1 hP hD hS => ?_)
      have hv := hv σ14 hr1
      refine lv_aload_n hx hb dX8_remembers_45 rfl (lv_at hl 1 rfl) ?_
      refine va_get (ci := 8) (v := .ref (ad 21)) (C := RX8) (T := TX8) (N := 5) hx hb hts hinX8 hown hK hP 0 (wC_0 cy ad σ14) rfl 3 (by decide) (hts (.fieldLink RX8 36 "TaleBans" "seasons" "LTaleBans$Seasons;") (List.mem_of_getElem? (i := 2) rfl)) (fun x h => h) rfl dX8_remembers_46 ?_
      refine lv_iload_n hx hb dX8_remembers_49 rfl (lv_at hl 2 rfl) ?_
      obtain ⟨g15, g16, g17, g18, hv⟩ := hv
      obtain ⟨hp, hv⟩ := hv
      refine k_read_i (w := wC cy ad) (va_runVN (As := [.int p_]) (rest := []) ⟨hx, hb, hml, hown, hts⟩ (h_X4_talesOf D cy ad A p_ g15 g16 g17 g18 σ14 hp) ⟨va_cnB 1 hts gX8_remembers_X4_talesOf_n146 rfl rfl rfl (nwm_51 hN) (hts (.initialized RX4) (List.mem_of_getElem? (i := 25) rfl)) (by decide +kernel) ⟨le_R hRf (Nat.le_of_ble_eq_true rfl), le_R hRl (Nat.le_of_ble_eq_true rfl)⟩, (hts (.instanceMethod yX4_talesOf) (List.mem_of_getElem? (i := 111) rfl)), (hts (.selects RX4 yX4_talesOf yX4_talesOf) (List.mem_of_getElem? (i := 112) rfl))⟩ ⟨(fun a U g mk q => ⟨q.1, q.2.blind⟩), va_recv hK hP (ci := 4) (q0 := 21) rfl (wC_21 cy ad σ14), (fun U hU hW => ⟨rfl, WdC.pre hP hK hD hN hU hW⟩)⟩ rfl rfl hl.1 rfl (lv_room (Nat.le_of_ble_eq_true rfl)) dX8_remembers_50 ⟨le_R hRc (Nat.le_refl 0), le_R hRs (Nat.le_refl 0)⟩) hS (fun r19 H locs hr1 hP hS => ?_)
      have hv := hv r19 hr1
      rw [hZ]; rw [hQ] at hv
      exact W.iret (v := r19) hx hb hr (fun t ht hW => ⟨⟨r19, σ14, rfl, hv, ⟨P_of ht hP, hD⟩⟩, hS.F ht⟩) hS.2.2 dX8_remembers_53
    · have hv := hv.2 c20
      refine lv_iload_n hx hb dX8_remembers_31 rfl (lv_at hl 0 rfl) ?_
      rw [hZ]; rw [hQ] at hv
      exact W.iret (v := (fn_X8_refusal 1 (fn_X8_isOneOf season_ 40) σ0)) hx hb hr (fun t ht hW => ⟨⟨(fn_X8_refusal 1 (fn_X8_isOneOf season_ 40) σ0), σ0, rfl, hv, ⟨P_of ht hP, hD⟩⟩, hS.F ht⟩) hS.2.2 dX8_remembers_32
