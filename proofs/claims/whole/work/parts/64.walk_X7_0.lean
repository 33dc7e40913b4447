set_option maxHeartbeats 4000000 in
set_option maxRecDepth 100000 in
theorem wk_X7_leave (l : Launch) (sp : Sp_X7_leave) : Ct_X7_leave l := by
  intro D cy ad A body_  σ0  hpre
  refine Met.ofW (cc := cX7_leave) (maxL := 2) (ret := none) (by decide) rfl ?_
  intro p e s m args below meth c s₁ B hml hv0
  obtain ⟨rfl, hP, hK, hD, hN⟩ := hv0
  have hx := B.exec
  have hb := B.bytes
  have hr := B.returns
  have hts := atoms_spec (ws := wsX7_leave) B.pre
  have hown : s.vm.findClass RX7 = some m.cls := findClass_of_methodNamed B.named
  have hlocks := B.notSynchronized
  have hv := sp body_  σ0 hpre
  have hl := lv_entry ([.ref (ad 10), .int body_]) (n := 2) (Nat.le_of_ble_eq_true rfl)
  rw [lg_entry_eq]
  generalize (lg_sl ([.ref (ad 10), .int body_]) ++ List.replicate (2 - (lg_sl ([.ref (ad 10), .int body_])).length) Slot.unset).toArray = ls at hl ⊢
  have hl : lv_has ls 2 [(0, .ref (ad 10)), (1, .int body_)] := hl
  refine W_gen (fun R Z H locs hR hZ hH hlo => ?_)
  have hRf : R.frames = 0 := by rw [hR]; rfl
  have hRl : R.locals = 0 := by rw [hR]; rfl
  have hRc : R.cells = 0 := by rw [hR]; rfl
  have hRs : R.slots = 0 := by rw [hR]; rfl
  have hS : va_S A s.heap H locs := by rw [hH, hlo]; exact va_S.rf
  rw [← hH] at hP
  obtain ⟨Q, hQ⟩ : ∃ q : S_ → Prop, q = (post_X7_leave body_  σ0) := ⟨_, rfl⟩
  rw [← hQ] at hv
  have hinX7 : ∀ w ∈ wsX70, w ∈ wsX7_leave := by decide +kernel
  refine lv_aload_n hx hb dX7_leave_0 rfl (lv_at hl 0 rfl) ?_
  refine lv_bipush (v := 31) hx hb dX7_leave_1 (by decide) ?_
  refine lv_aload_n hx hb dX7_leave_3 rfl (lv_at hl 0 rfl) ?_
  refine va_get (ci := 7) (v := .int (rdI σ0 1)) (C := RX7) (T := TX7) (N := 1) hx hb hts hinX7 hown hK hP 10 (wC_10 cy ad σ0) rfl 0 (by decide) (hts (.fieldLink RX7 7 "TaleBans$Trace" "number" "I") (List.mem_of_getElem? (i := 1) rfl)) (fun x h => h) rfl dX7_leave_4 ?_
  refine lv_imul hx hb dX7_leave_7 ?_
  refine lv_iload_n hx hb dX7_leave_8 rfl (lv_at hl 1 rfl) ?_
  refine lv_iadd hx hb dX7_leave_9 ?_
  refine va_put (ci := 7) (v := .int ((31 * (rdI σ0 1)) + body_)) (ty := .int) (C := RX7) (T := TX7) (N := 1) hx hb hts hinX7 tyX7 tyX7_ok nmX7 hown hK hP hD hS 10 (wC_10 cy ad σ0) rfl 0 (by decide) (hts (.fieldLink RX7 7 "TaleBans$Trace" "number" "I") (List.mem_of_getElem? (i := 1) rfl)) (fun x h => h) rfl (by decide +kernel) rfl rfl (Nat.le_of_ble_eq_true rfl) dX7_leave_10 (fun H locs hP hD hS => ?_)
  obtain ⟨σ1, e2⟩ : ∃ y : S_, y = wrI σ0 1 ((31 * (rdI σ0 1)) + body_) := ⟨_, rfl⟩
  have hP : va_P D vwCl (wC cy ad σ1) H := by rw [e2]; exact hP
  have hD : va_D A (wC cy ad σ1) := by rw [e2]; exact hD
  have hv := hv σ1 e2
  rw [hZ]; rw [hQ] at hv
  exact W.vret hx hb hr (fun t ht hW => ⟨⟨σ1, rfl, hv, ⟨P_of ht hP, hD⟩⟩, hS.F ht⟩) hS.2.2 dX7_leave_13
