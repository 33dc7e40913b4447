set_option maxHeartbeats 4000000 in
set_option maxRecDepth 100000 in
theorem wk_X5_hasNothing (l : Launch) (sp : Sp_X5_hasNothing) : Ct_X5_hasNothing l := by
  intro D cy ad A j_  σ0 hj_j_ hpre
  refine Met.ofW (cc := cX5_hasNothing) (maxL := 1) (ret := (some .boolean)) (by decide) rfl ?_
  intro p e s m args below meth c s₁ B hml hv0
  obtain ⟨rfl, hP, hK, hD, hN⟩ := hv0
  have hx := B.exec
  have hb := B.bytes
  have hr := B.returns
  have hts := atoms_spec (ws := wsX5_hasNothing) B.pre
  have hown : s.vm.findClass RX5 = some m.cls := findClass_of_methodNamed B.named
  have hlocks := B.notSynchronized
  have hv := sp j_  σ0 hpre
  have hl := lv_entry ([.ref (ad (2 + 2 * j_))]) (n := 1) (Nat.le_of_ble_eq_true rfl)
  rw [lg_entry_eq]
  generalize (lg_sl ([.ref (ad (2 + 2 * j_))]) ++ List.replicate (1 - (lg_sl ([.ref (ad (2 + 2 * j_))])).length) Slot.unset).toArray = ls at hl ⊢
  have hl : lv_has ls 1 [(0, .ref (ad (2 + 2 * j_)))] := hl
  refine W_gen (fun R Z H locs hR hZ hH hlo => ?_)
  have hRf : R.frames = 0 := by rw [hR]; rfl
  have hRl : R.locals = 0 := by rw [hR]; rfl
  have hRc : R.cells = 0 := by rw [hR]; rfl
  have hRs : R.slots = 0 := by rw [hR]; rfl
  have hS : va_S A s.heap H locs := by rw [hH, hlo]; exact va_S.rf
  rw [← hH] at hP
  obtain ⟨Q, hQ⟩ : ∃ q : Int32 → Prop, q = (fun r => r = fn_X5_hasNothing j_ σ0) := ⟨_, rfl⟩
  rw [← hQ] at hv
  have hinX5 : ∀ w ∈ wsX50, w ∈ wsX5_hasNothing := by decide +kernel
  refine lv_aload_n hx hb dX5_hasNothing_0 rfl (lv_at hl 0 rfl) ?_
  refine va_get (ci := 5) (v := .int (rdI σ0 (12 + j_))) (C := RX5) (T := TX5) (N := 3) hx hb hts hinX5 hown hK hP (2 + 2 * j_) (wC_sh cy ad σ0 hj_j_) rfl 1 (by decide) (hts (.fieldLink RX5 15 "TaleBans$Sheet" "lane" "I") (List.mem_of_getElem? (i := 1) rfl)) (fun x h => h) rfl dX5_hasNothing_1 ?_
  refine lv_iconst (v := (-1)) hx hb dX5_hasNothing_4 (by decide) ?_
  refine lv_icmp_ne (tgt := 12) hx hb dX5_hasNothing_5 (by decide) (fun c1 => ?_) (fun c1 => ?_)
  · have hv := hv.1 c1
    refine lv_iconst (v := 0) hx hb dX5_hasNothing_12 (by decide) ?_
    rw [hZ]; rw [hQ] at hv
    exact W.zret (v := 0) hx hb hr rfl (fun t ht hW => ⟨⟨0, (), rfl, hv, (P_of ht hP)⟩, hS.F ht⟩) hS.2.2 dX5_hasNothing_13
  · have hv := hv.2 c1
    refine lv_iconst (v := 1) hx hb dX5_hasNothing_8 (by decide) ?_
    refine lv_goto (tgt := 13) hx hb dX5_hasNothing_9 (by decide) ?_
    rw [hZ]; rw [hQ] at hv
    exact W.zret (v := 1) hx hb hr rfl (fun t ht hW => ⟨⟨1, (), rfl, hv, (P_of ht hP)⟩, hS.F ht⟩) hS.2.2 dX5_hasNothing_13
set_option maxHeartbeats 4000000 in
set_option maxRecDepth 100000 in
theorem wk_X5_has (l : Launch) (h_X8_isOneOf : Ct_X8_isOneOf l) (sp : Sp_X5_has) : Ct_X5_has l := by
  intro D cy ad A j_ i_  σ0 hj_j_ hpre
  refine Met.ofW (cc := cX5_has) (maxL := 2) (ret := (some .boolean)) (by decide) rfl ?_
  intro p e s m args below meth c s₁ B hml hv0
  obtain ⟨rfl, hP, hK, hD, hN⟩ := hv0
  have hx := B.exec
  have hb := B.bytes
  have hr := B.returns
  have hts := atoms_spec (ws := wsX5_has) B.pre
  have hown : s.vm.findClass RX5 = some m.cls := findClass_of_methodNamed B.named
  have hlocks := B.notSynchronized
  have hv := sp j_ i_  σ0 hpre
  have hl := lv_entry ([.ref (ad (2 + 2 * j_)), .int i_]) (n := 2) (Nat.le_of_ble_eq_true rfl)
  rw [lg_entry_eq]
  generalize (lg_sl ([.ref (ad (2 + 2 * j_)), .int i_]) ++ List.replicate (2 - (lg_sl ([.ref (ad (2 + 2 * j_)), .int i_])).length) Slot.unset).toArray = ls at hl ⊢
  have hl : lv_has ls 2 [(0, .ref (ad (2 + 2 * j_))), (1, .int i_)] := hl
  refine W_gen (fun R Z H locs hR hZ hH hlo => ?_)
  have hRf : R.frames = 1 := by rw [hR]; rfl
  have hRl : R.locals = 21 := by rw [hR]; rfl
  have hRc : R.cells = 0 := by rw [hR]; rfl
  have hRs : R.slots = 0 := by rw [hR]; rfl
  have hS : va_S A s.heap H locs := by rw [hH, hlo]; exact va_S.rf
  rw [← hH] at hP
  obtain ⟨Q, hQ⟩ : ∃ q : Int32 → Prop, q = (fun r => r = fn_X5_has j_ i_ σ0) := ⟨_, rfl⟩
  rw [← hQ] at hv
  have hinX5 : ∀ w ∈ wsX50, w ∈ wsX5_has := by decide +kernel
  refine lv_iload_n hx hb dX5_has_0 rfl (lv_at hl 1 rfl) ?_
  refine lv_aload_n hx hb dX5_has_1 rfl (lv_at hl 0 rfl) ?_
  refine va_get (ci := 5) (v := .int (rdI σ0 (16 + j_))) (C := RX5) (T := TX5) (N := 3) hx hb hts hinX5 hown hK hP (2 + 2 * j_) (wC_sh cy ad σ0 hj_j_) rfl 2 (by decide) (hts (.fieldLink RX5 19 "TaleBans$Sheet" "length" "I") (List.mem_of_getElem? (i := 1) rfl)) (fun x h => h) rfl dX5_has_2 ?_
  refine k_pure_i (va_runSN (As := [.int i_, .int (rdI σ0 (16 + j_))]) (rest := []) ⟨hx, hb, hml, hown, hts⟩ (h_X8_isOneOf i_ (rdI σ0 (16 + j_))) ⟨va_cnB 2 hts gX5_has_X8_isOneOf_n22 rfl rfl rfl (nwm_27 hN) (hts (.initialized RX8) (List.mem_of_getElem? (i := 3) rfl)) (by decide +kernel) ⟨le_R hRf (Nat.le_of_ble_eq_true rfl), le_R hRl (Nat.le_of_ble_eq_true rfl)⟩, (hts (.static yX8_isOneOf) (List.mem_of_getElem? (i := 2) rfl)), trivial⟩ ⟨(fun a U g mk q => ⟨q.1, trivial⟩), (fun U hU hW => ⟨rfl, trivial⟩)⟩ rfl rfl hl.1 rfl (lv_room (Nat.le_of_ble_eq_true rfl)) dX5_has_5 ⟨le_R hRc (Nat.le_refl 0), le_R hRs (Nat.le_refl 0)⟩) hS hP (fun r H locs hr1 hP hS => ?_)
  subst hr1
  obtain ⟨h01, hv⟩ := hv
  rw [hZ]; rw [hQ] at hv
  exact W.zret (v := (fn_X8_isOneOf i_ (rdI σ0 (16 + j_)))) hx hb hr (nar_b h01) (fun t ht hW => ⟨⟨(fn_X8_isOneOf i_ (rdI σ0 (16 + j_))), (), rfl, hv, (P_of ht hP)⟩, hS.F ht⟩) hS.2.2 dX5_has_8
set_option maxHeartbeats 4000000 in
set_option maxRecDepth 100000 in
theorem wk_X5_reaches (l : Launch) (sp : Sp_X5_reaches) : Ct_X5_reaches l := by
  intro D cy ad A j_ i_ n_  σ0 hj_j_ hpre
  refine Met.ofW (cc := cX5_reaches) (maxL := 3) (ret := (some .boolean)) (by decide) rfl ?_
  intro p e s m args below meth c s₁ B hml hv0
  obtain ⟨rfl, hP, hK, hD, hN⟩ := hv0
  have hx := B.exec
  have hb := B.bytes
  have hr := B.returns
  have hts := atoms_spec (ws := wsX5_reaches) B.pre
  have hown : s.vm.findClass RX5 = some m.cls := findClass_of_methodNamed B.named
  have hlocks := B.notSynchronized
  have hv := sp j_ i_ n_  σ0 hpre
  have hl := lv_entry ([.ref (ad (2 + 2 * j_)), .int i_, .int n_]) (n := 3) (Nat.le_of_ble_eq_true rfl)
  rw [lg_entry_eq]
  generalize (lg_sl ([.ref (ad (2 + 2 * j_)), .int i_, .int n_]) ++ List.replicate (3 - (lg_sl ([.ref (ad (2 + 2 * j_)), .int i_, .int n_])).length) Slot.unset).toArray = ls at hl ⊢
  have hl : lv_has ls 3 [(0, .ref (ad (2 + 2 * j_))), (1, .int i_), (2, .int n_)] := hl
  refine W_gen (fun R Z H locs hR hZ hH hlo => ?_)
  have hRf : R.frames = 0 := by rw [hR]; rfl
  have hRl : R.locals = 0 := by rw [hR]; rfl
  have hRc : R.cells = 0 := by rw [hR]; rfl
  have hRs : R.slots = 0 := by rw [hR]; rfl
  have hS : va_S A s.heap H locs := by rw [hH, hlo]; exact va_S.rf
  rw [← hH] at hP
  obtain ⟨Q, hQ⟩ : ∃ q : Int32 → Prop, q = (fun r => r = fn_X5_reaches j_ i_ n_ σ0) := ⟨_, rfl⟩
  rw [← hQ] at hv
  have hinX5 : ∀ w ∈ wsX50, w ∈ wsX5_reaches := by decide +kernel
  refine lv_iload_n hx hb dX5_reaches_0 rfl (lv_at hl 1 rfl) ?_
  refine lv_if_lt (tgt := 22) hx hb dX5_reaches_1 (by decide) (fun c3 => ?_) (fun c3 => ?_)
  · have hv := hv.1 c3
    refine lv_iconst (v := 0) hx hb dX5_reaches_22 (by decide) ?_
    rw [hZ]; rw [hQ] at hv
    exact W.zret (v := 0) hx hb hr rfl (fun t ht hW => ⟨⟨0, (), rfl, hv, (P_of ht hP)⟩, hS.F ht⟩) hS.2.2 dX5_reaches_23
  · have hv := hv.2 c3
    refine lv_iload_n hx hb dX5_reaches_4 rfl (lv_at hl 2 rfl) ?_
    refine lv_if_lt (tgt := 22) hx hb dX5_reaches_5 (by decide) (fun c2 => ?_) (fun c2 => ?_)
    · have hv := hv.1 c2
      refine lv_iconst (v := 0) hx hb dX5_reaches_22 (by decide) ?_
      rw [hZ]; rw [hQ] at hv
      exact W.zret (v := 0) hx hb hr rfl (fun t ht hW => ⟨⟨0, (), rfl, hv, (P_of ht hP)⟩, hS.F ht⟩) hS.2.2 dX5_reaches_23
    · have hv := hv.2 c2
      refine lv_iload_n hx hb dX5_reaches_8 rfl (lv_at hl 1 rfl) ?_
      refine lv_aload_n hx hb dX5_reaches_9 rfl (lv_at hl 0 rfl) ?_
      refine va_get (ci := 5) (v := .int (rdI σ0 (16 + j_))) (C := RX5) (T := TX5) (N := 3) hx hb hts hinX5 hown hK hP (2 + 2 * j_) (wC_sh cy ad σ0 hj_j_) rfl 2 (by decide) (hts (.fieldLink RX5 19 "TaleBans$Sheet" "length" "I") (List.mem_of_getElem? (i := 1) rfl)) (fun x h => h) rfl dX5_reaches_10 ?_
      refine lv_iload_n hx hb dX5_reaches_13 rfl (lv_at hl 2 rfl) ?_
      refine lv_isub hx hb dX5_reaches_14 ?_
      refine lv_icmp_gt (tgt := 22) hx hb dX5_reaches_15 (by decide) (fun c1 => ?_) (fun c1 => ?_)
      · have hv := hv.1 c1
        refine lv_iconst (v := 0) hx hb dX5_reaches_22 (by decide) ?_
        rw [hZ]; rw [hQ] at hv
        exact W.zret (v := 0) hx hb hr rfl (fun t ht hW => ⟨⟨0, (), rfl, hv, (P_of ht hP)⟩, hS.F ht⟩) hS.2.2 dX5_reaches_23
      · have hv := hv.2 c1
        refine lv_iconst (v := 1) hx hb dX5_reaches_18 (by decide) ?_
        refine lv_goto (tgt := 23) hx hb dX5_reaches_19 (by decide) ?_
        rw [hZ]; rw [hQ] at hv
        exact W.zret (v := 1) hx hb hr rfl (fun t ht hW => ⟨⟨1, (), rfl, hv, (P_of ht hP)⟩, hS.F ht⟩) hS.2.2 dX5_reaches_23
set_option maxHeartbeats 4000000 in
set_option maxRecDepth 100000 in
theorem wk_X5_renew (l : Launch) (h_J7_fill_53178 : Ct_J7_fill_53178 l) (sp : Sp_X5_renew) : Ct_X5_renew l := by
  intro D cy ad A j_ lane_ n_  σ0 hj_j_ hpre
  refine Met.ofW (cc := cX5_renew) (maxL := 3) (ret := none) (by decide) rfl ?_
  intro p e s m args below meth c s₁ B hml hv0
  obtain ⟨rfl, hP, hK, hD, hN⟩ := hv0
  have hx := B.exec
  have hb := B.bytes
  have hr := B.returns
  have hts := atoms_spec (ws := wsX5_renew) B.pre
  have hown : s.vm.findClass RX5 = some m.cls := findClass_of_methodNamed B.named
  have hlocks := B.notSynchronized
  have hv := sp j_ lane_ n_  σ0 hpre
  have hl := lv_entry ([.ref (ad (2 + 2 * j_)), .int lane_, .int n_]) (n := 3) (Nat.le_of_ble_eq_true rfl)
  rw [lg_entry_eq]
  generalize (lg_sl ([.ref (ad (2 + 2 * j_)), .int lane_, .int n_]) ++ List.replicate (3 - (lg_sl ([.ref (ad (2 + 2 * j_)), .int lane_, .int n_])).length) Slot.unset).toArray = ls at hl ⊢
  have hl : lv_has ls 3 [(0, .ref (ad (2 + 2 * j_))), (1, .int lane_), (2, .int n_)] := hl
  refine W_gen (fun R Z H locs hR hZ hH hlo => ?_)
  have hRf : R.frames = 1 := by rw [hR]; rfl
  have hRl : R.locals = 23 := by rw [hR]; rfl
  have hRc : R.cells = 0 := by rw [hR]; rfl
  have hRs : R.slots = 0 := by rw [hR]; rfl
  have hS : va_S A s.heap H locs := by rw [hH, hlo]; exact va_S.rf
  rw [← hH] at hP
  obtain ⟨Q, hQ⟩ : ∃ q : S_ → Prop, q = (post_X5_renew j_ lane_ n_  σ0) := ⟨_, rfl⟩
  rw [← hQ] at hv
  have hinX5 : ∀ w ∈ wsX50, w ∈ wsX5_renew := by decide +kernel
  refine lv_aload_n hx hb dX5_renew_0 rfl (lv_at hl 0 rfl) ?_
  refine lv_iload_n hx hb dX5_renew_1 rfl (lv_at hl 1 rfl) ?_
  refine va_put (ci := 5) (v := .int lane_) (ty := .int) (C := RX5) (T := TX5) (N := 3) hx hb hts hinX5 tyX5 tyX5_ok nmX5 hown hK hP hD hS (2 + 2 * j_) (wC_sh cy ad σ0 hj_j_) rfl 1 (by decide) (hts (.fieldLink RX5 15 "TaleBans$Sheet" "lane" "I") (List.mem_of_getElem? (i := 1) rfl)) (fun x h => h) rfl (by decide +kernel) rfl rfl (Nat.le_of_ble_eq_true rfl) dX5_renew_2 (fun H locs hP hD hS => ?_)
  obtain ⟨σ1, e2⟩ : ∃ y : S_, y = wrI σ0 (12 + j_) lane_ := ⟨_, rfl⟩
  have hP : va_P D vwCl (wC cy ad σ1) H := by rw [e2]; exact (wC_sh_lane cy ad σ0 hj_j_ lane_) ▸ hP
  have hD : va_D A (wC cy ad σ1) := by rw [e2]; exact (wC_sh_lane cy ad σ0 hj_j_ lane_) ▸ hD
  have hv := hv σ1 e2
  refine lv_aload_n hx hb dX5_renew_5 rfl (lv_at hl 0 rfl) ?_
  refine lv_iload_n hx hb dX5_renew_6 rfl (lv_at hl 2 rfl) ?_
  refine lv_bipush (v := 60) hx hb dX5_renew_7 (by decide) ?_
  refine va_mmin hx hb (hml.trans hl.1.symm) hown (hts (.methodLink RX5 26 Lib.Math.min.name) (List.mem_of_getElem? (i := 2) rfl)) (hts (.static Lib.Math.min.name) (List.mem_of_getElem? (i := 3) rfl)) (hts (.initialized "java/lang/Math") (List.mem_of_getElem? (i := 4) rfl)) (hts (.code Lib.Math.min.name Lib.Math.min.code 2 (some .int)) (List.mem_of_getElem? (i := 5) rfl)) (le_R hRf (Nat.le_of_ble_eq_true rfl)) (le_R hRl (Nat.le_of_ble_eq_true rfl)) (le_R hRc (Nat.le_refl 0)) (le_R hRs (Nat.le_refl 0)) dX5_renew_9 ?_
  refine va_put (ci := 5) (v := .int (if 60 < n_ then 60 else n_)) (ty := .int) (C := RX5) (T := TX5) (N := 3) hx hb hts hinX5 tyX5 tyX5_ok nmX5 hown hK hP hD hS (2 + 2 * j_) (wC_sh cy ad σ1 hj_j_) rfl 2 (by decide) (hts (.fieldLink RX5 19 "TaleBans$Sheet" "length" "I") (List.mem_of_getElem? (i := 6) rfl)) (fun x h => h) rfl (by decide +kernel) rfl rfl (Nat.le_of_ble_eq_true rfl) dX5_renew_12 (fun H locs hP hD hS => ?_)
  obtain ⟨σ3, e4⟩ : ∃ y : S_, y = wrI σ1 (16 + j_) (if 60 < n_ then 60 else n_) := ⟨_, rfl⟩
  have hP : va_P D vwCl (wC cy ad σ3) H := by rw [e4]; exact (wC_sh_len cy ad σ1 hj_j_ (if 60 < n_ then 60 else n_)) ▸ hP
  have hD : va_D A (wC cy ad σ3) := by rw [e4]; exact (wC_sh_len cy ad σ1 hj_j_ (if 60 < n_ then 60 else n_)) ▸ hD
  have hv := hv σ3 e4
  refine lv_aload_n hx hb dX5_renew_15 rfl (lv_at hl 0 rfl) ?_
  refine va_get (ci := 5) (v := .ref (ad (3 + 2 * j_))) (C := RX5) (T := TX5) (N := 3) hx hb hts hinX5 hown hK hP (2 + 2 * j_) (wC_sh cy ad σ3 hj_j_) rfl 0 (by decide) (hts (.fieldLink RX5 9 "TaleBans$Sheet" "cells" "[I") (List.mem_of_getElem? (i := 7) rfl)) (fun x h => h) rfl dX5_renew_16 ?_
  refine lv_iconst (v := 0) hx hb dX5_renew_19 (by decide) ?_
  refine k_fill (va_runS (As := [.ref (ad (3 + 2 * j_)), .int 0]) (rest := []) ⟨hx, hb, hml, hown, hts⟩ (h_J7_fill_53178 D cy A (wC cy ad σ3) (3 + 2 * j_) (ad (3 + 2 * j_)) 60 (rdA σ3 j_) 0 (wC_shA cy ad σ3 hj_j_) (Nat.le_of_ble_eq_true rfl)) (va_cwS 2 hts gX5_renew_J7_fill_53178 rfl rfl rfl (by decide +kernel) ⟨le_R hRf (Nat.le_of_ble_eq_true rfl), le_R hRl (Nat.le_of_ble_eq_true rfl)⟩) ⟨(fun a U g mk q => ⟨q.1, q.2.1, va_K.moved (u := U) (U := U.calling g mk a) (Vm.Alike.refl U.vm) q.2.2.1, q.2.2.2⟩), (fun U hU hW => ⟨rfl, by rw [hU]; exact hP, va_K.moved hW.alike hK, hD⟩)⟩ rfl rfl hl.1 rfl (lv_room (Nat.le_of_ble_eq_true rfl)) dX5_renew_20 ⟨le_R hRc (Nat.le_refl 0), le_R hRs (Nat.le_refl 0)⟩) hS (fun H locs hP hD hS => ?_)
  obtain ⟨σ5, e6⟩ : ∃ y : S_, y = wrA σ3 j_ (fillF (rdA σ3 j_) 60 0) := ⟨_, rfl⟩
  have hP : va_P D vwCl (wC cy ad σ5) H := by rw [e6]; exact (wC_shA_set cy ad σ3 hj_j_ (fillF (rdA σ3 j_) 60 0)) ▸ hP
  have hD : va_D A (wC cy ad σ5) := by rw [e6]; exact (wC_shA_set cy ad σ3 hj_j_ (fillF (rdA σ3 j_) 60 0)) ▸ hD
  have hv := hv σ5 e6
  rw [hZ]; rw [hQ] at hv
  exact W.vret hx hb hr (fun t ht hW => ⟨⟨σ5, rfl, hv, ⟨P_of ht hP, hD⟩⟩, hS.F ht⟩) hS.2.2 dX5_renew_23
set_option maxHeartbeats 4000000 in
set_option maxRecDepth 100000 in
theorem wk_X5_clear (l : Launch) (sp : Sp_X5_clear) : Ct_X5_clear l := by
  intro D cy ad A j_  σ0 hj_j_ hpre
  refine Met.ofW (cc := cX5_clear) (maxL := 1) (ret := none) (by decide) rfl ?_
  intro p e s m args below meth c s₁ B hml hv0
  obtain ⟨rfl, hP, hK, hD, hN⟩ := hv0
  have hx := B.exec
  have hb := B.bytes
  have hr := B.returns
  have hts := atoms_spec (ws := wsX5_clear) B.pre
  have hown : s.vm.findClass RX5 = some m.cls := findClass_of_methodNamed B.named
  have hlocks := B.notSynchronized
  have hv := sp j_  σ0 hpre
  have hl := lv_entry ([.ref (ad (2 + 2 * j_))]) (n := 1) (Nat.le_of_ble_eq_true rfl)
  rw [lg_entry_eq]
  generalize (lg_sl ([.ref (ad (2 + 2 * j_))]) ++ List.replicate (1 - (lg_sl ([.ref (ad (2 + 2 * j_))])).length) Slot.unset).toArray = ls at hl ⊢
  have hl : lv_has ls 1 [(0, .ref (ad (2 + 2 * j_)))] := hl
  refine W_gen (fun R Z H locs hR hZ hH hlo => ?_)
  have hRf : R.frames = 0 := by rw [hR]; rfl
  have hRl : R.locals = 0 := by rw [hR]; rfl
  have hRc : R.cells = 0 := by rw [hR]; rfl
  have hRs : R.slots = 0 := by rw [hR]; rfl
  have hS : va_S A s.heap H locs := by rw [hH, hlo]; exact va_S.rf
  rw [← hH] at hP
  obtain ⟨Q, hQ⟩ : ∃ q : S_ → Prop, q = (post_X5_clear j_  σ0) := ⟨_, rfl⟩
  rw [← hQ] at hv
  have hinX5 : ∀ w ∈ wsX50, w ∈ wsX5_clear := by decide +kernel
  refine lv_aload_n hx hb dX5_clear_0 rfl (lv_at hl 0 rfl) ?_
  refine lv_iconst (v := (-1)) hx hb dX5_clear_1 (by decide) ?_
  refine va_put (ci := 5) (v := .int (-1)) (ty := .int) (C := RX5) (T := TX5) (N := 3) hx hb hts hinX5 tyX5 tyX5_ok nmX5 hown hK hP hD hS (2 + 2 * j_) (wC_sh cy ad σ0 hj_j_) rfl 1 (by decide) (hts (.fieldLink RX5 15 "TaleBans$Sheet" "lane" "I") (List.mem_of_getElem? (i := 1) rfl)) (fun x h => h) rfl (by decide +kernel) rfl rfl (Nat.le_of_ble_eq_true rfl) dX5_clear_2 (fun H locs hP hD hS => ?_)
  obtain ⟨σ1, e2⟩ : ∃ y : S_, y = wrI σ0 (12 + j_) (-1) := ⟨_, rfl⟩
  have hP : va_P D vwCl (wC cy ad σ1) H := by rw [e2]; exact (wC_sh_lane cy ad σ0 hj_j_ (-1)) ▸ hP
  have hD : va_D A (wC cy ad σ1) := by rw [e2]; exact (wC_sh_lane cy ad σ0 hj_j_ (-1)) ▸ hD
  have hv := hv σ1 e2
  refine lv_aload_n hx hb dX5_clear_5 rfl (lv_at hl 0 rfl) ?_
  refine lv_iconst (v := 0) hx hb dX5_clear_6 (by decide) ?_
  refine va_put (ci := 5) (v := .int 0) (ty := .int) (C := RX5) (T := TX5) (N := 3) hx hb hts hinX5 tyX5 tyX5_ok nmX5 hown hK hP hD hS (2 + 2 * j_) (wC_sh cy ad σ1 hj_j_) rfl 2 (by decide) (hts (.fieldLink RX5 19 "TaleBans$Sheet" "length" "I") (List.mem_of_getElem? (i := 2) rfl)) (fun x h => h) rfl (by decide +kernel) rfl rfl (Nat.le_of_ble_eq_true rfl) dX5_clear_7 (fun H locs hP hD hS => ?_)
  obtain ⟨σ3, e4⟩ : ∃ y : S_, y = wrI σ1 (16 + j_) 0 := ⟨_, rfl⟩
  have hP : va_P D vwCl (wC cy ad σ3) H := by rw [e4]; exact (wC_sh_len cy ad σ1 hj_j_ 0) ▸ hP
  have hD : va_D A (wC cy ad σ3) := by rw [e4]; exact (wC_sh_len cy ad σ1 hj_j_ 0) ▸ hD
  have hv := hv σ3 e4
  rw [hZ]; rw [hQ] at hv
  exact W.vret hx hb hr (fun t ht hW => ⟨⟨σ3, rfl, hv, ⟨P_of ht hP, hD⟩⟩, hS.F ht⟩) hS.2.2 dX5_clear_10
set_option maxHeartbeats 4000000 in
set_option maxRecDepth 100000 in
theorem wk_X5_at (l : Launch) (h_X5_has : Ct_X5_has l) (sp : Sp_X5_at) : Ct_X5_at l := by
  intro D cy ad A j_ i_  σ0 hj_j_ hpre
  refine Met.ofW (cc := cX5_at) (maxL := 2) (ret := (some .int)) (by decide) rfl ?_
  intro p e s m args below meth c s₁ B hml hv0
  obtain ⟨rfl, hP, hK, hD, hN⟩ := hv0
  have hx := B.exec
  have hb := B.bytes
  have hr := B.returns
  have hts := atoms_spec (ws := wsX5_at) B.pre
  have hown : s.vm.findClass RX5 = some m.cls := findClass_of_methodNamed B.named
  have hlocks := B.notSynchronized
  have hv := sp j_ i_  σ0 hpre
  have hl := lv_entry ([.ref (ad (2 + 2 * j_)), .int i_]) (n := 2) (Nat.le_of_ble_eq_true rfl)
  rw [lg_entry_eq]
  generalize (lg_sl ([.ref (ad (2 + 2 * j_)), .int i_]) ++ List.replicate (2 - (lg_sl ([.ref (ad (2 + 2 * j_)), .int i_])).length) Slot.unset).toArray = ls at hl ⊢
  have hl : lv_has ls 2 [(0, .ref (ad (2 + 2 * j_))), (1, .int i_)] := hl
  refine W_gen (fun R Z H locs hR hZ hH hlo => ?_)
  have hRf : R.frames = 2 := by rw [hR]; rfl
  have hRl : R.locals = 42 := by rw [hR]; rfl
  have hRc : R.cells = 0 := by rw [hR]; rfl
  have hRs : R.slots = 0 := by rw [hR]; rfl
  have hS : va_S A s.heap H locs := by rw [hH, hlo]; exact va_S.rf
  rw [← hH] at hP
  obtain ⟨Q, hQ⟩ : ∃ q : Int32 → Prop, q = (fun r => r = fn_X5_at j_ i_ σ0) := ⟨_, rfl⟩
  rw [← hQ] at hv
  have hinX5 : ∀ w ∈ wsX50, w ∈ wsX5_at := by decide +kernel
  refine lv_aload_n hx hb dX5_at_0 rfl (lv_at hl 0 rfl) ?_
  refine lv_iload_n hx hb dX5_at_1 rfl (lv_at hl 1 rfl) ?_
  have hp := True.intro
  refine k_read_i (w := wC cy ad) (va_runV (As := [.int i_]) (rest := []) ⟨hx, hb, hml, hown, hts⟩ (h_X5_has D cy ad A j_ i_ σ0 hj_j_ hp) (cwV 1 hts gX5_at_X5_has rfl rfl rfl (by decide +kernel) ⟨le_R hRf (Nat.le_of_ble_eq_true rfl), le_R hRl (Nat.le_of_ble_eq_true rfl)⟩) ⟨(fun a U g mk q => ⟨q.1, q.2.blind⟩), va_recv hK hP (ci := 5) (q0 := (2 + 2 * j_)) rfl (wC_sh cy ad σ0 hj_j_), (fun U hU hW => ⟨rfl, WdC.pre hP hK hD hN hU hW⟩)⟩ rfl rfl hl.1 rfl (lv_room (Nat.le_of_ble_eq_true rfl)) dX5_at_2 ⟨le_R hRc (Nat.le_refl 0), le_R hRs (Nat.le_refl 0)⟩) hS (fun r H locs hr1 hP hS => ?_)
  subst hr1
  refine lv_if_eq (tgt := 17) hx hb dX5_at_5 (by decide) (fun c1 => ?_) (fun c1 => ?_)
  · have hv := hv.1 c1
    refine lv_iconst (v := 0) hx hb dX5_at_17 (by decide) ?_
    rw [hZ]; rw [hQ] at hv
    exact W.iret (v := 0) hx hb hr (fun t ht hW => ⟨⟨0, (), rfl, hv, (P_of ht hP)⟩, hS.F ht⟩) hS.2.2 dX5_at_18
  · have hv := hv.2 c1
    refine lv_aload_n hx hb dX5_at_8 rfl (lv_at hl 0 rfl) ?_
    refine va_get (ci := 5) (v := .ref (ad (3 + 2 * j_))) (C := RX5) (T := TX5) (N := 3) hx hb hts hinX5 hown hK hP (2 + 2 * j_) (wC_sh cy ad σ0 hj_j_) rfl 0 (by decide) (hts (.fieldLink RX5 9 "TaleBans$Sheet" "cells" "[I") (List.mem_of_getElem? (i := 1) rfl)) (fun x h => h) rfl dX5_at_9 ?_
    refine lv_iload_n hx hb dX5_at_12 rfl (lv_at hl 1 rfl) ?_
    obtain ⟨hi, hv⟩ := hv
    refine va_iald hx hb hK hP (3 + 2 * j_) 0 (wC_shA cy ad σ0 hj_j_) rfl hi dX5_at_13 ?_
    refine lv_goto (tgt := 18) hx hb dX5_at_14 (by decide) ?_
    rw [hZ]; rw [hQ] at hv
    exact W.iret (v := (rdA σ0 j_ (Int32.toNatClampNeg i_))) hx hb hr (fun t ht hW => ⟨⟨(rdA σ0 j_ (Int32.toNatClampNeg i_)), (), rfl, hv, (P_of ht hP)⟩, hS.F ht⟩) hS.2.2 dX5_at_18
set_option maxHeartbeats 4000000 in
set_option maxRecDepth 100000 in
theorem wk_X5_set (l : Launch) (h_X5_cut : Ct_X5_cut l) (h_X5_has : Ct_X5_has l) (sp : Sp_X5_set) : Ct_X5_set l := by
  intro D cy ad A j_ i_ v_  σ0 hj_j_ hpre
  refine Met.ofW (cc := cX5_set) (maxL := 3) (ret := none) (by decide) rfl ?_
  intro p e s m args below meth c s₁ B hml hv0
  obtain ⟨rfl, hP, hK, hD, hN⟩ := hv0
  have hx := B.exec
  have hb := B.bytes
  have hr := B.returns
  have hts := atoms_spec (ws := wsX5_set) B.pre
  have hown : s.vm.findClass RX5 = some m.cls := findClass_of_methodNamed B.named
  have hlocks := B.notSynchronized
  have hv := sp j_ i_ v_  σ0 hpre
  have hl := lv_entry ([.ref (ad (2 + 2 * j_)), .int i_, .int v_]) (n := 3) (Nat.le_of_ble_eq_true rfl)
  rw [lg_entry_eq]
  generalize (lg_sl ([.ref (ad (2 + 2 * j_)), .int i_, .int v_]) ++ List.replicate (3 - (lg_sl ([.ref (ad (2 + 2 * j_)), .int i_, .int v_])).length) Slot.unset).toArray = ls at hl ⊢
  have hl : lv_has ls 3 [(0, .ref (ad (2 + 2 * j_))), (1, .int i_), (2, .int v_)] := hl
  refine W_gen (fun R Z H locs hR hZ hH hlo => ?_)
  have hRf : R.frames = 2 := by rw [hR]; rfl
  have hRl : R.locals = 42 := by rw [hR]; rfl
  have hRc : R.cells = 0 := by rw [hR]; rfl
  have hRs : R.slots = 0 := by rw [hR]; rfl
  have hS : va_S A s.heap H locs := by rw [hH, hlo]; exact va_S.rf
  rw [← hH] at hP
  obtain ⟨Q, hQ⟩ : ∃ q : S_ → Prop, q = (post_X5_set j_ i_ v_  σ0) := ⟨_, rfl⟩
  rw [← hQ] at hv
  have hinX5 : ∀ w ∈ wsX50, w ∈ wsX5_set := by decide +kernel
  refine lv_aload_n hx hb dX5_set_0 rfl (lv_at hl 0 rfl) ?_
  refine lv_iload_n hx hb dX5_set_1 rfl (lv_at hl 1 rfl) ?_
  have hp := True.intro
  refine k_read_i (w := wC cy ad) (va_runV (As := [.int i_]) (rest := []) ⟨hx, hb, hml, hown, hts⟩ (h_X5_has D cy ad A j_ i_ σ0 hj_j_ hp) (cwV 1 hts gX5_set_X5_has rfl rfl rfl (by decide +kernel) ⟨le_R hRf (Nat.le_of_ble_eq_true rfl), le_R hRl (Nat.le_of_ble_eq_true rfl)⟩) ⟨(fun a U g mk q => ⟨q.1, q.2.blind⟩), va_recv hK hP (ci := 5) (q0 := (2 + 2 * j_)) rfl (wC_sh cy ad σ0 hj_j_), (fun U hU hW => ⟨rfl, WdC.pre hP hK hD hN hU hW⟩)⟩ rfl rfl hl.1 rfl (lv_room (Nat.le_of_ble_eq_true rfl)) dX5_set_2 ⟨le_R hRc (Nat.le_refl 0), le_R hRs (Nat.le_refl 0)⟩) hS (fun r H locs hr1 hP hS => ?_)
  subst hr1
  refine lv_if_eq (tgt := 19) hx hb dX5_set_5 (by decide) (fun c3 => ?_) (fun c3 => ?_)
  · have hv := hv.1 c3
    rw [hZ]; rw [hQ] at hv
    exact W.vret hx hb hr (fun t ht hW => ⟨⟨σ0, rfl, hv, ⟨P_of ht hP, hD⟩⟩, hS.F ht⟩) hS.2.2 dX5_set_19
  · have hv := hv.2 c3
    refine lv_aload_n hx hb dX5_set_8 rfl (lv_at hl 0 rfl) ?_
    refine va_get (ci := 5) (v := .ref (ad (3 + 2 * j_))) (C := RX5) (T := TX5) (N := 3) hx hb hts hinX5 hown hK hP (2 + 2 * j_) (wC_sh cy ad σ0 hj_j_) rfl 0 (by decide) (hts (.fieldLink RX5 9 "TaleBans$Sheet" "cells" "[I") (List.mem_of_getElem? (i := 1) rfl)) (fun x h => h) rfl dX5_set_9 ?_
    refine lv_iload_n hx hb dX5_set_12 rfl (lv_at hl 1 rfl) ?_
    refine lv_aload_n hx hb dX5_set_13 rfl (lv_at hl 0 rfl) ?_
    refine lv_iload_n hx hb dX5_set_14 rfl (lv_at hl 2 rfl) ?_
    have hp := True.intro
    refine k_read_i (w := wC cy ad) (va_runV (As := [.int v_]) (rest := [.int i_, .ref (ad (3 + 2 * j_))]) ⟨hx, hb, hml, hown, hts⟩ (h_X5_cut D cy ad A j_ v_ σ0 hj_j_ hp) (cwV 1 hts gX5_set_X5_cut rfl rfl rfl (by decide +kernel) ⟨le_R hRf (Nat.le_of_ble_eq_true rfl), le_R hRl (Nat.le_of_ble_eq_true rfl)⟩) ⟨(fun a U g mk q => ⟨q.1, q.2.blind⟩), va_recv hK hP (ci := 5) (q0 := (2 + 2 * j_)) rfl (wC_sh cy ad σ0 hj_j_), (fun U hU hW => ⟨rfl, WdC.pre hP hK hD hN hU hW⟩)⟩ rfl rfl hl.1 rfl (lv_room (Nat.le_of_ble_eq_true rfl)) dX5_set_15 ⟨le_R hRc (Nat.le_refl 0), le_R hRs (Nat.le_refl 0)⟩) hS (fun r H locs hr1 hP hS => ?_)
    subst hr1
    obtain ⟨hi, hv⟩ := hv
    refine va_iast hx hb hK hP hD hS (3 + 2 * j_) 0 (wC_shA cy ad σ0 hj_j_) rfl hi dX5_set_18 (fun H locs hP hD hS => ?_)
    obtain ⟨σ1, e2⟩ : ∃ y : S_, y = wr2 σ0 j_ (Int32.toNatClampNeg i_) (fn_X5_cut j_ v_ σ0) := ⟨_, rfl⟩
    have hP : va_P D vwCl (wC cy ad σ1) H := by rw [e2]; exact (wC_shA_set cy ad σ0 hj_j_ (upd (rdA σ0 j_) (Int32.toNatClampNeg i_) (fn_X5_cut j_ v_ σ0))) ▸ hP
    have hD : va_D A (wC cy ad σ1) := by rw [e2]; exact (wC_shA_set cy ad σ0 hj_j_ (upd (rdA σ0 j_) (Int32.toNatClampNeg i_) (fn_X5_cut j_ v_ σ0))) ▸ hD
    have hv := hv σ1 e2
    rw [hZ]; rw [hQ] at hv
    exact W.vret hx hb hr (fun t ht hW => ⟨⟨σ1, rfl, hv, ⟨P_of ht hP, hD⟩⟩, hS.F ht⟩) hS.2.2 dX5_set_19
set_option maxHeartbeats 4000000 in
set_option maxRecDepth 100000 in
theorem wk_X5_cut (l : Launch) (sp : Sp_X5_cut) : Ct_X5_cut l := by
  intro D cy ad A j_ v_  σ0 hj_j_ hpre
  refine Met.ofW (cc := cX5_cut) (maxL := 2) (ret := (some .int)) (by decide) rfl ?_
  intro p e s m args below meth c s₁ B hml hv0
  obtain ⟨rfl, hP, hK, hD, hN⟩ := hv0
  have hx := B.exec
  have hb := B.bytes
  have hr := B.returns
  have hts := atoms_spec (ws := wsX5_cut) B.pre
  have hown : s.vm.findClass RX5 = some m.cls := findClass_of_methodNamed B.named
  have hlocks := B.notSynchronized
  have hv := sp j_ v_  σ0 hpre
  have hl := lv_entry ([.ref (ad (2 + 2 * j_)), .int v_]) (n := 2) (Nat.le_of_ble_eq_true rfl)
  rw [lg_entry_eq]
  generalize (lg_sl ([.ref (ad (2 + 2 * j_)), .int v_]) ++ List.replicate (2 - (lg_sl ([.ref (ad (2 + 2 * j_)), .int v_])).length) Slot.unset).toArray = ls at hl ⊢
  have hl : lv_has ls 2 [(0, .ref (ad (2 + 2 * j_))), (1, .int v_)] := hl
  refine W_gen (fun R Z H locs hR hZ hH hlo => ?_)
  have hRf : R.frames = 0 := by rw [hR]; rfl
  have hRl : R.locals = 0 := by rw [hR]; rfl
  have hRc : R.cells = 0 := by rw [hR]; rfl
  have hRs : R.slots = 0 := by rw [hR]; rfl
  have hS : va_S A s.heap H locs := by rw [hH, hlo]; exact va_S.rf
  rw [← hH] at hP
  obtain ⟨Q, hQ⟩ : ∃ q : Int32 → Prop, q = (fun r => r = fn_X5_cut j_ v_ σ0) := ⟨_, rfl⟩
  rw [← hQ] at hv
  have hinX5 : ∀ w ∈ wsX50, w ∈ wsX5_cut := by decide +kernel
  refine lv_aload_n hx hb dX5_cut_0 rfl (lv_at hl 0 rfl) ?_
  refine va_get (ci := 5) (v := .int (rdI σ0 (12 + j_))) (C := RX5) (T := TX5) (N := 3) hx hb hts hinX5 hown hK hP (2 + 2 * j_) (wC_sh cy ad σ0 hj_j_) rfl 1 (by decide) (hts (.fieldLink RX5 15 "TaleBans$Sheet" "lane" "I") (List.mem_of_getElem? (i := 1) rfl)) (fun x h => h) rfl dX5_cut_1 ?_
  by_cases c2 : (rdI σ0 (12 + j_)) = 0
  · have hv := hv.1 c2
    refine lv_lookup (tgt := 32) hx hb dX5_cut_4 rfl (by first | (rw [c2]; done) | (rw [c2]; rfl)) (by decide) ?_
    refine lv_iload_n hx hb dX5_cut_32 rfl (lv_at hl 1 rfl) ?_
    refine lv_i2b hx hb dX5_cut_33 rfl ?_
    rw [hZ]; rw [hQ] at hv
    exact W.iret (v := (Int8.toInt32 (Int32.toInt8 v_))) hx hb hr (fun t ht hW => ⟨⟨(Int8.toInt32 (Int32.toInt8 v_)), (), rfl, hv, (P_of ht hP)⟩, hS.F ht⟩) hS.2.2 dX5_cut_34
  · have hv := hv.2 c2
    by_cases c3 : (rdI σ0 (12 + j_)) = 1
    · have hv := hv.1 c3
      refine lv_lookup (tgt := 35) hx hb dX5_cut_4 rfl (by first | (rw [c3]; done) | (rw [c3]; rfl)) (by decide) ?_
      refine lv_iload_n hx hb dX5_cut_35 rfl (lv_at hl 1 rfl) ?_
      refine lv_i2s hx hb dX5_cut_36 rfl ?_
      rw [hZ]; rw [hQ] at hv
      exact W.iret (v := (Int16.toInt32 (Int32.toInt16 v_))) hx hb hr (fun t ht hW => ⟨⟨(Int16.toInt32 (Int32.toInt16 v_)), (), rfl, hv, (P_of ht hP)⟩, hS.F ht⟩) hS.2.2 dX5_cut_37
    · have hv := hv.2 c3
      refine lv_lookup (tgt := 38) (off := 34) hx hb dX5_cut_4 rfl (show Op.lookupswitch.offset [(0, 28), (1, 31)] 34 _ = 34 from (lv_osw c2 (by decide)).trans ((lv_osw c3 (by decide)).trans (rfl))) (by decide) ?_
      refine lv_iload_n hx hb dX5_cut_38 rfl (lv_at hl 1 rfl) ?_
      rw [hZ]; rw [hQ] at hv
      exact W.iret (v := v_) hx hb hr (fun t ht hW => ⟨⟨v_, (), rfl, hv, (P_of ht hP)⟩, hS.F ht⟩) hS.2.2 dX5_cut_39
set_option maxHeartbeats 4000000 in
set_option maxRecDepth 100000 in
theorem wk_X5_faultOfTaking (l : Launch) (h_X5_hasNothing : Ct_X5_hasNothing l) (h_X5_reaches : Ct_X5_reaches l) (sp : Sp_X5_faultOfTaking) : Ct_X5_faultOfTaking l := by
  intro D cy ad A j_ lane_ i_ n_  σ0 hj_j_ hpre
  refine Met.ofW (cc := cX5_faultOfTaking) (maxL := 4) (ret := (some .int)) (by decide) rfl ?_
  intro p e s m args below meth c s₁ B hml hv0
  obtain ⟨rfl, hP, hK, hD, hN⟩ := hv0
  have hx := B.exec
  have hb := B.bytes
  have hr := B.returns
  have hts := atoms_spec (ws := wsX5_faultOfTaking) B.pre
  have hown : s.vm.findClass RX5 = some m.cls := findClass_of_methodNamed B.named
  have hlocks := B.notSynchronized
  have hv := sp j_ lane_ i_ n_  σ0 hpre
  have hl := lv_entry ([.ref (ad (2 + 2 * j_)), .int lane_, .int i_, .int n_]) (n := 4) (Nat.le_of_ble_eq_true rfl)
  rw [lg_entry_eq]
  generalize (lg_sl ([.ref (ad (2 + 2 * j_)), .int lane_, .int i_, .int n_]) ++ List.replicate (4 - (lg_sl ([.ref (ad (2 + 2 * j_)), .int lane_, .int i_, .int n_])).length) Slot.unset).toArray = ls at hl ⊢
  have hl : lv_has ls 4 [(0, .ref (ad (2 + 2 * j_))), (1, .int lane_), (2, .int i_), (3, .int n_)] := hl
  refine W_gen (fun R Z H locs hR hZ hH hlo => ?_)
  have hRf : R.frames = 1 := by rw [hR]; rfl
  have hRl : R.locals = 22 := by rw [hR]; rfl
  have hRc : R.cells = 0 := by rw [hR]; rfl
  have hRs : R.slots = 0 := by rw [hR]; rfl
  have hS : va_S A s.heap H locs := by rw [hH, hlo]; exact va_S.rf
  rw [← hH] at hP
  obtain ⟨Q, hQ⟩ : ∃ q : Int32 → Prop, q = (fun r => r = fn_X5_faultOfTaking j_ lane_ i_ n_ σ0) := ⟨_, rfl⟩
  rw [← hQ] at hv
  have hinX5 : ∀ w ∈ wsX50, w ∈ wsX5_faultOfTaking := by decide +kernel
  refine lv_aload_n hx hb dX5_faultOfTaking_0 rfl (lv_at hl 0 rfl) ?_
  have hp := True.intro
  refine k_read_i (w := wC cy ad) (va_runV (As := []) (rest := []) ⟨hx, hb, hml, hown, hts⟩ (h_X5_hasNothing D cy ad A j_ σ0 hj_j_ hp) (cwV 0 hts gX5_faultOfTaking_X5_hasNothing rfl rfl rfl (by decide +kernel) ⟨le_R hRf (Nat.le_of_ble_eq_true rfl), le_R hRl (Nat.le_of_ble_eq_true rfl)⟩) ⟨(fun a U g mk q => ⟨q.1, q.2.blind⟩), va_recv hK hP (ci := 5) (q0 := (2 + 2 * j_)) rfl (wC_sh cy ad σ0 hj_j_), (fun U hU hW => ⟨rfl, WdC.pre hP hK hD hN hU hW⟩)⟩ rfl rfl hl.1 rfl (lv_room (Nat.le_of_ble_eq_true rfl)) dX5_faultOfTaking_1 ⟨le_R hRc (Nat.le_refl 0), le_R hRs (Nat.le_refl 0)⟩) hS (fun r H locs hr1 hP hS => ?_)
  subst hr1
  refine lv_if_ne (tgt := 17) hx hb dX5_faultOfTaking_4 (by decide) (fun c8 => ?_) (fun c8 => ?_)
  · have hv := hv.1 c8
    refine lv_aload_n hx hb dX5_faultOfTaking_17 rfl (lv_at hl 0 rfl) ?_
    have hp := True.intro
    refine k_read_i (w := wC cy ad) (va_runV (As := []) (rest := []) ⟨hx, hb, hml, hown, hts⟩ (h_X5_hasNothing D cy ad A j_ σ0 hj_j_ hp) (cwV 0 hts gX5_faultOfTaking_X5_hasNothing rfl rfl rfl (by decide +kernel) ⟨le_R hRf (Nat.le_of_ble_eq_true rfl), le_R hRl (Nat.le_of_ble_eq_true rfl)⟩) ⟨(fun a U g mk q => ⟨q.1, q.2.blind⟩), va_recv hK hP (ci := 5) (q0 := (2 + 2 * j_)) rfl (wC_sh cy ad σ0 hj_j_), (fun U hU hW => ⟨rfl, WdC.pre hP hK hD hN hU hW⟩)⟩ rfl rfl hl.1 rfl (lv_room (Nat.le_of_ble_eq_true rfl)) dX5_faultOfTaking_18 ⟨le_R hRc (Nat.le_refl 0), le_R hRs (Nat.le_refl 0)⟩) hS (fun r H locs hr1 hP hS => ?_)
    subst hr1
    refine lv_if_eq (tgt := 26) hx hb dX5_faultOfTaking_21 (by decide) (fun c3 => ?_) (fun c3 => ?_)
    · have hv := hv.1 c3
      refine lv_iload_n hx hb dX5_faultOfTaking_26 rfl (lv_at hl 3 rfl) ?_
      refine lv_if_ge (tgt := 32) hx hb dX5_faultOfTaking_27 (by decide) (fun c2 => ?_) (fun c2 => ?_)
      · have hv := hv.1 c2
        refine lv_aload_n hx hb dX5_faultOfTaking_32 rfl (lv_at hl 0 rfl) ?_
        refine lv_iload_n hx hb dX5_faultOfTaking_33 rfl (lv_at hl 2 rfl) ?_
        refine lv_iload_n hx hb dX5_faultOfTaking_34 rfl (lv_at hl 3 rfl) ?_
        have hp := True.intro
        refine k_read_i (w := wC cy ad) (va_runV (As := [.int i_, .int n_]) (rest := []) ⟨hx, hb, hml, hown, hts⟩ (h_X5_reaches D cy ad A j_ i_ n_ σ0 hj_j_ hp) (cwV 2 hts gX5_faultOfTaking_X5_reaches rfl rfl rfl (by decide +kernel) ⟨le_R hRf (Nat.le_of_ble_eq_true rfl), le_R hRl (Nat.le_of_ble_eq_true rfl)⟩) ⟨(fun a U g mk q => ⟨q.1, q.2.blind⟩), va_recv hK hP (ci := 5) (q0 := (2 + 2 * j_)) rfl (wC_sh cy ad σ0 hj_j_), (fun U hU hW => ⟨rfl, WdC.pre hP hK hD hN hU hW⟩)⟩ rfl rfl hl.1 rfl (lv_room (Nat.le_of_ble_eq_true rfl)) dX5_faultOfTaking_35 ⟨le_R hRc (Nat.le_refl 0), le_R hRs (Nat.le_refl 0)⟩) hS (fun r H locs hr1 hP hS => ?_)
        subst hr1
        refine lv_if_eq (tgt := 45) hx hb dX5_faultOfTaking_38 (by decide) (fun c1 => ?_) (fun c1 => ?_)
        · have hv := hv.1 c1
          refine lv_iconst (v := 3) hx hb dX5_faultOfTaking_45 (by decide) ?_
          rw [hZ]; rw [hQ] at hv
          exact W.iret (v := 3) hx hb hr (fun t ht hW => ⟨⟨3, (), rfl, hv, (P_of ht hP)⟩, hS.F ht⟩) hS.2.2 dX5_faultOfTaking_46
        · have hv := hv.2 c1
          refine lv_iconst (v := 0) hx hb dX5_faultOfTaking_41 (by decide) ?_
          refine lv_goto (tgt := 46) hx hb dX5_faultOfTaking_42 (by decide) ?_
          rw [hZ]; rw [hQ] at hv
          exact W.iret (v := 0) hx hb hr (fun t ht hW => ⟨⟨0, (), rfl, hv, (P_of ht hP)⟩, hS.F ht⟩) hS.2.2 dX5_faultOfTaking_46
      · have hv := hv.2 c2
        refine lv_iconst (v := 4) hx hb dX5_faultOfTaking_30 (by decide) ?_
        rw [hZ]; rw [hQ] at hv
        exact W.iret (v := 4) hx hb hr (fun t ht hW => ⟨⟨4, (), rfl, hv, (P_of ht hP)⟩, hS.F ht⟩) hS.2.2 dX5_faultOfTaking_31
    · have hv := hv.2 c3
      refine lv_iconst (v := 1) hx hb dX5_faultOfTaking_24 (by decide) ?_
      rw [hZ]; rw [hQ] at hv
      exact W.iret (v := 1) hx hb hr (fun t ht hW => ⟨⟨1, (), rfl, hv, (P_of ht hP)⟩, hS.F ht⟩) hS.2.2 dX5_faultOfTaking_25
  · have hv := hv.2 c8
    refine lv_aload_n hx hb dX5_faultOfTaking_7 rfl (lv_at hl 0 rfl) ?_
    refine va_get (ci := 5) (v := .int (rdI σ0 (12 + j_))) (C := RX5) (T := TX5) (N := 3) hx hb hts hinX5 hown hK hP (2 + 2 * j_) (wC_sh cy ad σ0 hj_j_) rfl 1 (by decide) (hts (.fieldLink RX5 15 "TaleBans$Sheet" "lane" "I") (List.mem_of_getElem? (i := 1) rfl)) (fun x h => h) rfl dX5_faultOfTaking_8 ?_
    refine lv_iload_n hx hb dX5_faultOfTaking_11 rfl (lv_at hl 1 rfl) ?_
    refine lv_icmp_eq (tgt := 17) hx hb dX5_faultOfTaking_12 (by decide) (fun c7 => ?_) (fun c7 => ?_)
    · have hv := hv.1 c7
      refine lv_aload_n hx hb dX5_faultOfTaking_17 rfl (lv_at hl 0 rfl) ?_
      have hp := True.intro
      refine k_read_i (w := wC cy ad) (va_runV (As := []) (rest := []) ⟨hx, hb, hml, hown, hts⟩ (h_X5_hasNothing D cy ad A j_ σ0 hj_j_ hp) (cwV 0 hts gX5_faultOfTaking_X5_hasNothing rfl rfl rfl (by decide +kernel) ⟨le_R hRf (Nat.le_of_ble_eq_true rfl), le_R hRl (Nat.le_of_ble_eq_true rfl)⟩) ⟨(fun a U g mk q => ⟨q.1, q.2.blind⟩), va_recv hK hP (ci := 5) (q0 := (2 + 2 * j_)) rfl (wC_sh cy ad σ0 hj_j_), (fun U hU hW => ⟨rfl, WdC.pre hP hK hD hN hU hW⟩)⟩ rfl rfl hl.1 rfl (lv_room (Nat.le_of_ble_eq_true rfl)) dX5_faultOfTaking_18 ⟨le_R hRc (Nat.le_refl 0), le_R hRs (Nat.le_refl 0)⟩) hS (fun r H locs hr1 hP hS => ?_)
      subst hr1
      refine lv_if_eq (tgt := 26) hx hb dX5_faultOfTaking_21 (by decide) (fun c6 => ?_) (fun c6 => ?_)
      · have hv := hv.1 c6
        refine lv_iload_n hx hb dX5_faultOfTaking_26 rfl (lv_at hl 3 rfl) ?_
        refine lv_if_ge (tgt := 32) hx hb dX5_faultOfTaking_27 (by decide) (fun c5 => ?_) (fun c5 => ?_)
        · have hv := hv.1 c5
          refine lv_aload_n hx hb dX5_faultOfTaking_32 rfl (lv_at hl 0 rfl) ?_
          refine lv_iload_n hx hb dX5_faultOfTaking_33 rfl (lv_at hl 2 rfl) ?_
          refine lv_iload_n hx hb dX5_faultOfTaking_34 rfl (lv_at hl 3 rfl) ?_
          have hp := True.intro
          refine k_read_i (w := wC cy ad) (va_runV (As := [.int i_, .int n_]) (rest := []) ⟨hx, hb, hml, hown, hts⟩ (h_X5_reaches D cy ad A j_ i_ n_ σ0 hj_j_ hp) (cwV 2 hts gX5_faultOfTaking_X5_reaches rfl rfl rfl (by decide +kernel) ⟨le_R hRf (Nat.le_of_ble_eq_true rfl), le_R hRl (Nat.le_of_ble_eq_true rfl)⟩) ⟨(fun a U g mk q => ⟨q.1, q.2.blind⟩), va_recv hK hP (ci := 5) (q0 := (2 + 2 * j_)) rfl (wC_sh cy ad σ0 hj_j_), (fun U hU hW => ⟨rfl, WdC.pre hP hK hD hN hU hW⟩)⟩ rfl rfl hl.1 rfl (lv_room (Nat.le_of_ble_eq_true rfl)) dX5_faultOfTaking_35 ⟨le_R hRc (Nat.le_refl 0), le_R hRs (Nat.le_refl 0)⟩) hS (fun r H locs hr1 hP hS => ?_)
          subst hr1
          refine lv_if_eq (tgt := 45) hx hb dX5_faultOfTaking_38 (by decide) (fun c4 => ?_) (fun c4 => ?_)
          · have hv := hv.1 c4
            refine lv_iconst (v := 3) hx hb dX5_faultOfTaking_45 (by decide) ?_
            rw [hZ]; rw [hQ] at hv
            exact W.iret (v := 3) hx hb hr (fun t ht hW => ⟨⟨3, (), rfl, hv, (P_of ht hP)⟩, hS.F ht⟩) hS.2.2 dX5_faultOfTaking_46
          · have hv := hv.2 c4
            refine lv_iconst (v := 0) hx hb dX5_faultOfTaking_41 (by decide) ?_
            refine lv_goto (tgt := 46) hx hb dX5_faultOfTaking_42 (by decide) ?_
            rw [hZ]; rw [hQ] at hv
            exact W.iret (v := 0) hx hb hr (fun t ht hW => ⟨⟨0, (), rfl, hv, (P_of ht hP)⟩, hS.F ht⟩) hS.2.2 dX5_faultOfTaking_46
        · have hv := hv.2 c5
          refine lv_iconst (v := 4) hx hb dX5_faultOfTaking_30 (by decide) ?_
          rw [hZ]; rw [hQ] at hv
          exact W.iret (v := 4) hx hb hr (fun t ht hW => ⟨⟨4, (), rfl, hv, (P_of ht hP)⟩, hS.F ht⟩) hS.2.2 dX5_faultOfTaking_31
      · have hv := hv.2 c6
        refine lv_iconst (v := 1) hx hb dX5_faultOfTaking_24 (by decide) ?_
        rw [hZ]; rw [hQ] at hv
        exact W.iret (v := 1) hx hb hr (fun t ht hW => ⟨⟨1, (), rfl, hv, (P_of ht hP)⟩, hS.F ht⟩) hS.2.2 dX5_faultOfTaking_25
    · have hv := hv.2 c7
      refine lv_iconst (v := 2) hx hb dX5_faultOfTaking_15 (by decide) ?_
      rw [hZ]; rw [hQ] at hv
      exact W.iret (v := 2) hx hb hr (fun t ht hW => ⟨⟨2, (), rfl, hv, (P_of ht hP)⟩, hS.F ht⟩) hS.2.2 dX5_faultOfTaking_16
set_option maxHeartbeats 4000000 in
set_option maxRecDepth 100000 in
theorem wk_X5_hasOnlyBelow (l : Launch) (h_X5_at : Ct_X5_at l) (h_X8_isOneOf : Ct_X8_isOneOf l) (sp : Sp_X5_hasOnlyBelow) : Ct_X5_hasOnlyBelow l := by
  intro D cy ad A j_ bound_ fr_ n_ Fg Ng σ0 hj_j_ hpre
  refine Met.ofW (cc := cX5_hasOnlyBelow) (maxL := 5) (ret := (some .boolean)) (by decide) rfl ?_
  intro p e s m args below meth c s₁ B hml hv0
  obtain ⟨rfl, hP, hK, hD, hN⟩ := hv0
  have hx := B.exec
  have hb := B.bytes
  have hr := B.returns
  have hts := atoms_spec (ws := wsX5_hasOnlyBelow) B.pre
  have hown : s.vm.findClass RX5 = some m.cls := findClass_of_methodNamed B.named
  have hlocks := B.notSynchronized
  have hv := sp j_ bound_ fr_ n_ Fg Ng σ0 hpre
  have hl := lv_entry ([.ref (ad (2 + 2 * j_)), .int bound_, .int fr_, .int n_]) (n := 5) (Nat.le_of_ble_eq_true rfl)
  rw [lg_entry_eq]
  generalize (lg_sl ([.ref (ad (2 + 2 * j_)), .int bound_, .int fr_, .int n_]) ++ List.replicate (5 - (lg_sl ([.ref (ad (2 + 2 * j_)), .int bound_, .int fr_, .int n_])).length) Slot.unset).toArray = ls at hl ⊢
  have hl : lv_has ls 5 [(0, .ref (ad (2 + 2 * j_))), (1, .int bound_), (2, .int fr_), (3, .int n_)] := hl
  refine W_gen (fun R Z H locs hR hZ hH hlo => ?_)
  have hRf : R.frames = 3 := by rw [hR]; rfl
  have hRl : R.locals = 63 := by rw [hR]; rfl
  have hRc : R.cells = 0 := by rw [hR]; rfl
  have hRs : R.slots = 0 := by rw [hR]; rfl
  have hS : va_S A s.heap H locs := by rw [hH, hlo]; exact va_S.rf
  rw [← hH] at hP
  obtain ⟨Q, hQ⟩ : ∃ q : Int32 → Prop, q = (fun r => post_X5_hasOnlyBelow j_ bound_ fr_ n_ Fg Ng σ0 r) := ⟨_, rfl⟩
  rw [← hQ] at hv
  refine lv_iload_n hx hb dX5_hasOnlyBelow_0 rfl (lv_at hl 2 rfl) ?_
  refine lv_istore (lv' := [(4, .int fr_), (0, .ref (ad (2 + 2 * j_))), (1, .int bound_), (2, .int fr_), (3, .int n_)]) hx hb dX5_hasOnlyBelow_1 hl (by decide) rfl (fun ls hl => ?_)
  obtain ⟨n3, hv⟩ := hv
  have lp3 : ∀ (nn3 : Nat) (x1 : Int32) (H : Heap) (locs : List Loc) (ls : Array Slot), vl_X5_hasOnlyBelow_3 j_ bound_ fr_ n_ σ0 Q nn3 x1 → va_P D vwCl (wC cy ad σ0) H → va_D A (wC cy ad σ0) → va_S A s.heap H locs → lv_has ls 5 [(0, .ref (ad (2 + 2 * j_))), (1, .int bound_), (2, .int fr_), (3, .int n_), (4, .int x1)] → W p l e R s m ([.ref (ad (2 + 2 * j_)), .int bound_, .int fr_, .int n_] : List Value).toArray  below meth c H locs 0 0 Z (F0 m 3 ls []) := by
    intro nn3
    induction nn3 with
    | zero => intro x1 H locs ls hv; exact absurd hv id
    | succ mm3 ih3 =>
      intro x1 H locs ls hv hP hD hS hl
      refine lv_iload hx hb dX5_hasOnlyBelow_3 (lv_at hl 4 rfl) ?_
      refine lv_iload_n hx hb dX5_hasOnlyBelow_5 rfl (lv_at hl 2 rfl) ?_
      refine lv_iload_n hx hb dX5_hasOnlyBelow_6 rfl (lv_at hl 3 rfl) ?_
      refine lv_iadd hx hb dX5_hasOnlyBelow_7 ?_
      refine lv_icmp_ge (tgt := 32) hx hb dX5_hasOnlyBelow_8 (by decide) (fun c3 => ?_) (fun c3 => ?_)
      · have hv := hv.1 c3
        refine lv_iconst (v := 1) hx hb dX5_hasOnlyBelow_32 (by decide) ?_
        rw [hZ]; rw [hQ] at hv
        exact W.zret (v := 1) hx hb hr rfl (fun t ht hW => ⟨⟨1, (), rfl, hv, (P_of ht hP)⟩, hS.F ht⟩) hS.2.2 dX5_hasOnlyBelow_33
      · have hv := hv.2 c3
        refine lv_aload_n hx hb dX5_hasOnlyBelow_11 rfl (lv_at hl 0 rfl) ?_
        refine lv_iload hx hb dX5_hasOnlyBelow_12 (lv_at hl 4 rfl) ?_
        obtain ⟨hp, hv⟩ := hv
        refine k_read_i (w := wC cy ad) (va_runV (As := [.int x1]) (rest := []) ⟨hx, hb, hml, hown, hts⟩ (h_X5_at D cy ad A j_ x1 σ0 hj_j_ hp) (cwV 1 hts gX5_hasOnlyBelow_X5_at rfl rfl rfl (by decide +kernel) ⟨le_R hRf (Nat.le_of_ble_eq_true rfl), le_R hRl (Nat.le_of_ble_eq_true rfl)⟩) ⟨(fun a U g mk q => ⟨q.1, q.2.blind⟩), va_recv hK hP (ci := 5) (q0 := (2 + 2 * j_)) rfl (wC_sh cy ad σ0 hj_j_), (fun U hU hW => ⟨rfl, WdC.pre hP hK hD hN hU hW⟩)⟩ rfl rfl hl.1 rfl (lv_room (Nat.le_of_ble_eq_true rfl)) dX5_hasOnlyBelow_14 ⟨le_R hRc (Nat.le_refl 0), le_R hRs (Nat.le_refl 0)⟩) hS (fun r H locs hr1 hP hS => ?_)
        subst hr1
        refine lv_iload_n hx hb dX5_hasOnlyBelow_17 rfl (lv_at hl 1 rfl) ?_
        refine k_pure_i (va_runSN (As := [.int (fn_X5_at j_ x1 σ0), .int bound_]) (rest := []) ⟨hx, hb, hml, hown, hts⟩ (h_X8_isOneOf (fn_X5_at j_ x1 σ0) bound_) ⟨va_cnB 2 hts gX5_hasOnlyBelow_X8_isOneOf_n22 rfl rfl rfl (nwm_27 hN) (hts (.initialized RX8) (List.mem_of_getElem? (i := 13) rfl)) (by decide +kernel) ⟨le_R hRf (Nat.le_of_ble_eq_true rfl), le_R hRl (Nat.le_of_ble_eq_true rfl)⟩, (hts (.static yX8_isOneOf) (List.mem_of_getElem? (i := 12) rfl)), trivial⟩ ⟨(fun a U g mk q => ⟨q.1, trivial⟩), (fun U hU hW => ⟨rfl, trivial⟩)⟩ rfl rfl hl.1 rfl (lv_room (Nat.le_of_ble_eq_true rfl)) dX5_hasOnlyBelow_18 ⟨le_R hRc (Nat.le_refl 0), le_R hRs (Nat.le_refl 0)⟩) hS hP (fun r H locs hr1 hP hS => ?_)
        subst hr1
        refine lv_if_ne (tgt := 26) hx hb dX5_hasOnlyBelow_21 (by decide) (fun c2 => ?_) (fun c2 => ?_)
        · have hv := hv.1 c2
          refine lv_iinc (v := (x1 + 1)) (lv' := [(4, .int (x1 + 1)), (0, .ref (ad (2 + 2 * j_))), (1, .int bound_), (2, .int fr_), (3, .int n_)]) hx hb dX5_hasOnlyBelow_26 hl (k := 4) rfl rfl (by decide) rfl (fun ls hl => ?_)
          refine lv_goto (tgt := 3) hx hb dX5_hasOnlyBelow_29 (by decide) ?_
          exact ih3 (x1 + 1) _ _ _ hv hP hD hS (lv_sub hl [1, 2, 3, 4, 0] rfl)
        · have hv := hv.2 c2
          refine lv_iconst (v := 0) hx hb dX5_hasOnlyBelow_24 (by decide) ?_
          rw [hZ]; rw [hQ] at hv
          exact W.zret (v := 0) hx hb hr rfl (fun t ht hW => ⟨⟨0, (), rfl, hv, (P_of ht hP)⟩, hS.F ht⟩) hS.2.2 dX5_hasOnlyBelow_25
  exact lp3 n3 fr_ _ _ _ hv hP hD hS (lv_sub hl [1, 2, 3, 4, 0] rfl)
