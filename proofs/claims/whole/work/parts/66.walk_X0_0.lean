set_option maxHeartbeats 4000000 in
set_option maxRecDepth 100000 in
theorem wk_X0_kind (l : Launch) (sp : Sp_X0_kind) : Ct_X0_kind l := by
  intro D cy ad A q_  σ0  hpre
  refine Met.ofW (cc := cX0_kind) (maxL := 1) (ret := (some .int)) (by decide) rfl ?_
  intro p e s m args below meth c s₁ B hml hv0
  obtain ⟨rfl, hP, hK, hD, hN⟩ := hv0
  have hx := B.exec
  have hb := B.bytes
  have hr := B.returns
  have hts := atoms_spec (ws := wsX0_kind) B.pre
  have hown : s.vm.findClass RX0 = some m.cls := findClass_of_methodNamed B.named
  have hlocks := B.notSynchronized
  have hv := sp q_  σ0 hpre
  have hl := lv_entry ([.ref ((hget σ0 q_).1)]) (n := 1) (Nat.le_of_ble_eq_true rfl)
  rw [lg_entry_eq]
  generalize (lg_sl ([.ref ((hget σ0 q_).1)]) ++ List.replicate (1 - (lg_sl ([.ref ((hget σ0 q_).1)])).length) Slot.unset).toArray = ls at hl ⊢
  have hl : lv_has ls 1 [(0, .ref ((hget σ0 q_).1))] := hl
  refine W_gen (fun R Z H locs hR hZ hH hlo => ?_)
  have hRf : R.frames = 0 := by rw [hR]; rfl
  have hRl : R.locals = 0 := by rw [hR]; rfl
  have hRc : R.cells = 0 := by rw [hR]; rfl
  have hRs : R.slots = 0 := by rw [hR]; rfl
  have hS : va_S A s.heap H locs := by rw [hH, hlo]; exact va_S.rf
  rw [← hH] at hP
  obtain ⟨Q, hQ⟩ : ∃ q : Int32 → Prop, q = (fun r => r = fn_X0_kind q_ σ0) := ⟨_, rfl⟩
  rw [← hQ] at hv
  refine lv_iconst (v := 1) hx hb dX0_kind_0 (by decide) ?_
  rw [hZ]; rw [hQ] at hv
  exact W.iret (v := 1) hx hb hr (fun t ht hW => ⟨⟨1, (), rfl, hv, (P_of ht hP)⟩, hS.F ht⟩) hS.2.2 dX0_kind_1
set_option maxHeartbeats 4000000 in
set_option maxRecDepth 100000 in
theorem wk_X0_memory (l : Launch) (h_X2_memory : Ct_X2_memory l) (sp : Sp_X0_memory) : Ct_X0_memory l := by
  intro D cy ad A q_  σ0  hpre
  refine Met.ofW (cc := cX0_memory) (maxL := 1) (ret := (some .int)) (by decide) rfl ?_
  intro p e s m args below meth c s₁ B hml hv0
  obtain ⟨rfl, hP, hK, hD, hN⟩ := hv0
  have hx := B.exec
  have hb := B.bytes
  have hr := B.returns
  have hts := atoms_spec (ws := wsX0_memory) B.pre
  have hown : s.vm.findClass RX0 = some m.cls := findClass_of_methodNamed B.named
  have hlocks := B.notSynchronized
  have hv := sp q_  σ0 hpre
  have hl := lv_entry ([.ref ((hget σ0 q_).1)]) (n := 1) (Nat.le_of_ble_eq_true rfl)
  rw [lg_entry_eq]
  generalize (lg_sl ([.ref ((hget σ0 q_).1)]) ++ List.replicate (1 - (lg_sl ([.ref ((hget σ0 q_).1)])).length) Slot.unset).toArray = ls at hl ⊢
  have hl : lv_has ls 1 [(0, .ref ((hget σ0 q_).1))] := hl
  refine W_gen (fun R Z H locs hR hZ hH hlo => ?_)
  have hRf : R.frames = 1 := by rw [hR]; rfl
  have hRl : R.locals = 20 := by rw [hR]; rfl
  have hRc : R.cells = 0 := by rw [hR]; rfl
  have hRs : R.slots = 0 := by rw [hR]; rfl
  have hS : va_S A s.heap H locs := by rw [hH, hlo]; exact va_S.rf
  rw [← hH] at hP
  obtain ⟨Q, hQ⟩ : ∃ q : Int32 → Prop, q = (fun r => r = fn_X0_memory q_ σ0) := ⟨_, rfl⟩
  rw [← hQ] at hv
  refine lv_aload_n hx hb dX0_memory_0 rfl (lv_at hl 0 rfl) ?_
  obtain ⟨⟨hq, hc⟩, hv⟩ := hv
  have hk1 : ∀ (r : Int32) (H : Heap) (locs : List Loc), r = (fn_X2_memory q_ σ0) → va_P D vwCl (wC cy ad σ0) H → va_S A s.heap H locs → W p l e R s m ([.ref ((hget σ0 q_).1)] : List Value).toArray below meth c H locs 0 0 Z (F0 m (1 + 3) ls (.int r :: [])) := by
    intro r H locs hr1 hP hS
    subst hr1
    refine lv_iconst (v := 2) hx hb dX0_memory_4 (by decide) ?_
    refine lv_iadd hx hb dX0_memory_5 ?_
    rw [hZ]; rw [hQ] at hv
    exact W.iret (v := ((fn_X2_memory q_ σ0) + 2)) hx hb hr (fun t ht hW => ⟨⟨((fn_X2_memory q_ σ0) + 2), (), rfl, hv, (P_of ht hP)⟩, hS.F ht⟩) hS.2.2 dX0_memory_6
  rcases hc with hc | hc
  · exact k_read_i (w := wC cy ad) (va_runSU (As := []) (rest := []) (hK.1 0 _ rfl).2 ⟨hx, hb, hml, hown, hts⟩ (h_X2_memory D cy ad A q_ σ0 ⟨hq, isC_0 hc⟩) (va_cwSU 0 hts gX0_memory_X2_memory_s7 rfl rfl rfl (by decide +kernel) ⟨le_R hRf (Nat.le_of_ble_eq_true rfl), le_R hRl (Nat.le_of_ble_eq_true rfl)⟩) ⟨(fun a U g mk q => ⟨q.1, q.2.blind⟩), va_recv hK hP (ci := 0) (q0 := 28 + q_) rfl (wC_hd cy ad rfl hq hc), (fun U hU hW => ⟨rfl, WdC.pre hP hK hD hN hU hW⟩)⟩ rfl rfl hl.1 rfl (lv_room (Nat.le_of_ble_eq_true rfl)) dX0_memory_1 ⟨le_R hRc (Nat.le_refl 0), le_R hRs (Nat.le_refl 0)⟩) hS (fun r H locs hr1 hP hS => hk1 r H locs (hr1) hP hS)
  · exact k_read_i (w := wC cy ad) (va_runSU (As := []) (rest := []) (hK.1 1 _ rfl).2 ⟨hx, hb, hml, hown, hts⟩ (h_X2_memory D cy ad A q_ σ0 ⟨hq, isC_1 hc⟩) (va_cwSU 0 hts gX0_memory_X2_memory_s7 rfl rfl rfl (by decide +kernel) ⟨le_R hRf (Nat.le_of_ble_eq_true rfl), le_R hRl (Nat.le_of_ble_eq_true rfl)⟩) ⟨(fun a U g mk q => ⟨q.1, q.2.blind⟩), va_recv hK hP (ci := 1) (q0 := 28 + q_) rfl (wC_hd cy ad rfl hq hc), (fun U hU hW => ⟨rfl, WdC.pre hP hK hD hN hU hW⟩)⟩ rfl rfl hl.1 rfl (lv_room (Nat.le_of_ble_eq_true rfl)) dX0_memory_1 ⟨le_R hRc (Nat.le_refl 0), le_R hRs (Nat.le_refl 0)⟩) hS (fun r H locs hr1 hP hS => hk1 r H locs (hr1) hP hS)
set_option maxHeartbeats 4000000 in
set_option maxRecDepth 100000 in
theorem wk_X0_telling (l : Launch) (h_X2_telling : Ct_X2_telling l) (h_X7_leave : Ct_X7_leave l) (sp : Sp_X0_telling) : Ct_X0_telling l := by
  intro D cy ad A q_  σ0  hpre
  refine Met.ofW (cc := cX0_telling) (maxL := 2) (ret := (some .int)) (by decide) rfl ?_
  intro p e s m args below meth c s₁ B hml hv0
  obtain ⟨rfl, hP, hK, hD, hN⟩ := hv0
  have hx := B.exec
  have hb := B.bytes
  have hr := B.returns
  have hts := atoms_spec (ws := wsX0_telling) B.pre
  have hown : s.vm.findClass RX0 = some m.cls := findClass_of_methodNamed B.named
  have hlocks := B.notSynchronized
  have hv := sp q_  σ0 hpre
  have hl := lv_entry ([.ref ((hget σ0 q_).1), .ref (ad 10)]) (n := 2) (Nat.le_of_ble_eq_true rfl)
  rw [lg_entry_eq]
  generalize (lg_sl ([.ref ((hget σ0 q_).1), .ref (ad 10)]) ++ List.replicate (2 - (lg_sl ([.ref ((hget σ0 q_).1), .ref (ad 10)])).length) Slot.unset).toArray = ls at hl ⊢
  have hl : lv_has ls 2 [(0, .ref ((hget σ0 q_).1)), (1, .ref (ad 10))] := hl
  refine W_gen (fun R Z H locs hR hZ hH hlo => ?_)
  have hRf : R.frames = 3 := by rw [hR]; rfl
  have hRl : R.locals = 63 := by rw [hR]; rfl
  have hRc : R.cells = 0 := by rw [hR]; rfl
  have hRs : R.slots = 0 := by rw [hR]; rfl
  have hS : va_S A s.heap H locs := by rw [hH, hlo]; exact va_S.rf
  rw [← hH] at hP
  obtain ⟨Q, hQ⟩ : ∃ q : Int32 → S_ → Prop, q = (post_X0_telling q_  σ0) := ⟨_, rfl⟩
  rw [← hQ] at hv
  refine lv_aload_n hx hb dX0_telling_0 rfl (lv_at hl 1 rfl) ?_
  refine lv_iconst (v := 2) hx hb dX0_telling_1 (by decide) ?_
  have hp := True.intro
  refine k_rel_v (w := wC cy ad) (va_runVN (As := [.int 2]) (rest := []) ⟨hx, hb, hml, hown, hts⟩ (h_X7_leave D cy ad A 2 σ0 hp) ⟨va_cnB 1 hts gX0_telling_X7_leave_n11 rfl rfl rfl (nwm_68 hN) (hts (.initialized RX7) (List.mem_of_getElem? (i := 2) rfl)) (by decide +kernel) ⟨le_R hRf (Nat.le_of_ble_eq_true rfl), le_R hRl (Nat.le_of_ble_eq_true rfl)⟩, (hts (.instanceMethod yX7_leave) (List.mem_of_getElem? (i := 1) rfl)), (hts (.selects RX7 yX7_leave yX7_leave) (List.mem_of_getElem? (i := 3) rfl))⟩ ⟨(fun a U g mk q => ⟨q.1, q.2.blind⟩), va_recv hK hP (ci := 7) (q0 := 10) rfl (wC_10 cy ad σ0), (fun U hU hW => ⟨rfl, WdC.pre hP hK hD hN hU hW⟩)⟩ rfl rfl hl.1 rfl (lv_room (Nat.le_of_ble_eq_true rfl)) dX0_telling_2 ⟨le_R hRc (Nat.le_refl 0), le_R hRs (Nat.le_refl 0)⟩) hS (fun σ1 H locs hr1 hP hD hS => ?_)
  have hv := hv σ1 hr1
  refine lv_aload_n hx hb dX0_telling_5 rfl (lv_at hl 0 rfl) ?_
  refine lv_aload_n hx hb dX0_telling_6 rfl (lv_at hl 1 rfl) ?_
  obtain ⟨heq, hv⟩ := hv
  obtain ⟨⟨hq, hc⟩, hv⟩ := hv
  have hk2 : ∀ (r3 : Int32) (σ4 : S_) (H : Heap) (locs : List Loc), post_X2_telling q_ σ1 r3 σ4 → va_P D vwCl (wC cy ad σ4) H → va_D A (wC cy ad σ4) → va_S A s.heap H locs → W p l e R s m ([.ref ((hget σ0 q_).1), .ref (ad 10)] : List Value).toArray below meth c H locs 0 0 Z (F0 m (7 + 3) ls (.int r3 :: [])) := by
    intro r3 σ4 H locs hr1 hP hD hS
    have hv := hv r3 σ4 hr1
    refine lv_bipush (v := 100) hx hb dX0_telling_10 (by decide) ?_
    refine lv_iadd hx hb dX0_telling_12 ?_
    rw [hZ]; rw [hQ] at hv
    exact W.iret (v := (r3 + 100)) hx hb hr (fun t ht hW => ⟨⟨(r3 + 100), σ4, rfl, hv, ⟨P_of ht hP, hD⟩⟩, hS.F ht⟩) hS.2.2 dX0_telling_13
  rcases hc with hc | hc
  · exact k_rel_i (w := wC cy ad) (va_runSU (As := [.ref (ad 10)]) (rest := []) (hK.1 0 _ rfl).2 ⟨hx, hb, hml, hown, hts⟩ (h_X2_telling D cy ad A q_ σ1 ⟨hq, heq.symm ▸ isC_0 hc⟩) (va_cwSU 1 hts gX0_telling_X2_telling_s17 rfl rfl rfl (by decide +kernel) ⟨le_R hRf (Nat.le_of_ble_eq_true rfl), le_R hRl (Nat.le_of_ble_eq_true rfl)⟩) ⟨(fun a U g mk q => ⟨q.1, q.2.blind⟩), va_recv hK hP (ci := 0) (q0 := 28 + q_) rfl (wC_hd cy ad heq hq hc), (fun U hU hW => ⟨by rw [heq], WdC.pre hP hK hD hN hU hW⟩)⟩ rfl rfl hl.1 rfl (lv_room (Nat.le_of_ble_eq_true rfl)) dX0_telling_7 ⟨le_R hRc (Nat.le_refl 0), le_R hRs (Nat.le_refl 0)⟩) hS (fun r σ H locs hr1 hP hD hS => hk2 r σ H locs (hr1) hP hD hS)
  · exact k_rel_i (w := wC cy ad) (va_runSU (As := [.ref (ad 10)]) (rest := []) (hK.1 1 _ rfl).2 ⟨hx, hb, hml, hown, hts⟩ (h_X2_telling D cy ad A q_ σ1 ⟨hq, heq.symm ▸ isC_1 hc⟩) (va_cwSU 1 hts gX0_telling_X2_telling_s17 rfl rfl rfl (by decide +kernel) ⟨le_R hRf (Nat.le_of_ble_eq_true rfl), le_R hRl (Nat.le_of_ble_eq_true rfl)⟩) ⟨(fun a U g mk q => ⟨q.1, q.2.blind⟩), va_recv hK hP (ci := 1) (q0 := 28 + q_) rfl (wC_hd cy ad heq hq hc), (fun U hU hW => ⟨by rw [heq], WdC.pre hP hK hD hN hU hW⟩)⟩ rfl rfl hl.1 rfl (lv_room (Nat.le_of_ble_eq_true rfl)) dX0_telling_7 ⟨le_R hRc (Nat.le_refl 0), le_R hRs (Nat.le_refl 0)⟩) hS (fun r σ H locs hr1 hP hD hS => hk2 r σ H locs (hr1) hP hD hS)
