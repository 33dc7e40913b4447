set_option maxHeartbeats 4000000 in
set_option maxRecDepth 100000 in
theorem wk_X2_kind (l : Launch) (sp : Sp_X2_kind) : Ct_X2_kind l := by
  intro D cy ad A q_  σ0  hpre
  refine Met.ofW (cc := cX2_kind) (maxL := 1) (ret := (some .int)) (by decide) rfl ?_
  intro p e s m args below meth c s₁ B hml hv0
  obtain ⟨rfl, hP, hK, hD, hN⟩ := hv0
  have hx := B.exec
  have hb := B.bytes
  have hr := B.returns
  have hts := atoms_spec (ws := wsX2_kind) B.pre
  have hown : s.vm.findClass RX2 = some m.cls := findClass_of_methodNamed B.named
  have hlocks := B.notSynchronized
  have hv := sp q_  σ0 hpre
  have hl := lv_entry ([.ref ((hget σ0 q_).1)]) (n := 1) (Nat.le_of_ble_eq_true rfl)
  rw [lg_entry_eq]
  generalize (lg_sl ([.ref ((hget σ0 q_).1)]) ++ List.replicate (1 - (lg_sl ([.ref ((hget σ0 q_).1)])).length) Slot.unset).toArray = ls at hl ⊢
  have hl : lv_has ls 1 [(0, .ref ((hget σ0 q_).1))] := hl
  refine W_gen (fun R Z H locs hR hZ hH hlo => ?_)
  have hRf : R.frames = 0 := by rw [hR]; rfl
  have hRl : R.locals = 0 := by rw [hR]; rfl
  have hRc : R.cells = 0 := by rw [hR]; rfl
  have hRs : R.slots = 0 := by rw [hR]; rfl
  have hS : va_S A s.heap H locs := by rw [hH, hlo]; exact va_S.rf
  rw [← hH] at hP
  obtain ⟨Q, hQ⟩ : ∃ q : Int32 → Prop, q = (fun r => r = fn_X2_kind q_ σ0) := ⟨_, rfl⟩
  rw [← hQ] at hv
  refine lv_iconst (v := 0) hx hb dX2_kind_0 (by decide) ?_
  rw [hZ]; rw [hQ] at hv
  exact W.iret (v := 0) hx hb hr (fun t ht hW => ⟨⟨0, (), rfl, hv, (P_of ht hP)⟩, hS.F ht⟩) hS.2.2 dX2_kind_1
set_option maxHeartbeats 4000000 in
set_option maxRecDepth 100000 in
theorem wk_X2_memory (l : Launch) (sp : Sp_X2_memory) : Ct_X2_memory l := by
  intro D cy ad A q_  σ0  hpre
  refine Met.ofW (cc := cX2_memory) (maxL := 1) (ret := (some .int)) (by decide) rfl ?_
  intro p e s m args below meth c s₁ B hml hv0
  obtain ⟨rfl, hP, hK, hD, hN⟩ := hv0
  have hx := B.exec
  have hb := B.bytes
  have hr := B.returns
  have hts := atoms_spec (ws := wsX2_memory) B.pre
  have hown : s.vm.findClass RX2 = some m.cls := findClass_of_methodNamed B.named
  have hlocks := B.notSynchronized
  have hv := sp q_  σ0 hpre
  have hl := lv_entry ([.ref ((hget σ0 q_).1)]) (n := 1) (Nat.le_of_ble_eq_true rfl)
  rw [lg_entry_eq]
  generalize (lg_sl ([.ref ((hget σ0 q_).1)]) ++ List.replicate (1 - (lg_sl ([.ref ((hget σ0 q_).1)])).length) Slot.unset).toArray = ls at hl ⊢
  have hl : lv_has ls 1 [(0, .ref ((hget σ0 q_).1))] := hl
  refine W_gen (fun R Z H locs hR hZ hH hlo => ?_)
  have hRf : R.frames = 0 := by rw [hR]; rfl
  have hRl : R.locals = 0 := by rw [hR]; rfl
  have hRc : R.cells = 0 := by rw [hR]; rfl
  have hRs : R.slots = 0 := by rw [hR]; rfl
  have hS : va_S A s.heap H locs := by rw [hH, hlo]; exact va_S.rf
  rw [← hH] at hP
  obtain ⟨Q, hQ⟩ : ∃ q : Int32 → Prop, q = (fun r => r = fn_X2_memory q_ σ0) := ⟨_, rfl⟩
  rw [← hQ] at hv
  have hinX0 : ∀ w ∈ wsX00, w ∈ wsX2_memory := by decide +kernel
  have hinX1 : ∀ w ∈ wsX10, w ∈ wsX2_memory := by decide +kernel
  have hinX2 : ∀ w ∈ wsX20, w ∈ wsX2_memory := by decide +kernel
  refine lv_aload_n hx hb dX2_memory_0 rfl (lv_at hl 0 rfl) ?_
  obtain ⟨⟨hq, hc⟩, hv⟩ := hv
  have hk1 : W p l e R s m ([.ref ((hget σ0 q_).1)] : List Value).toArray below meth c H locs 0 0 Z (F0 m (1 + 3) ls [.int ((hget σ0 q_).2.2.2.1)]) := by
    rw [hZ]; rw [hQ] at hv
    exact W.iret (v := (hget σ0 q_).2.2.2.1) hx hb hr (fun t ht hW => ⟨⟨(hget σ0 q_).2.2.2.1, (), rfl, hv, (P_of ht hP)⟩, hS.F ht⟩) hS.2.2 dX2_memory_4
  rcases hc with hc | hc | hc
  · exact va_get (ci := 0) (v := .int ((hget σ0 q_).2.2.2.1)) (C := RX0) (T := TX0) (N := 3) hx hb hts hinX0 hown hK hP (28 + q_) (wC_hd cy ad rfl hq hc) rfl 1 (by decide) (hts (.fieldLink RX2 13 "TaleBans$Herder" "minds" "I") (List.mem_of_getElem? (i := 1) rfl)) (fun x h => h) rfl dX2_memory_1 hk1
  · exact va_get (ci := 1) (v := .int ((hget σ0 q_).2.2.2.1)) (C := RX1) (T := TX1) (N := 3) hx hb hts hinX1 hown hK hP (28 + q_) (wC_hd cy ad rfl hq hc) rfl 1 (by decide) (hts (.fieldLink RX2 13 "TaleBans$Herder" "minds" "I") (List.mem_of_getElem? (i := 1) rfl)) (fun x h => h) rfl dX2_memory_1 hk1
  · exact va_get (ci := 2) (v := .int ((hget σ0 q_).2.2.2.1)) (C := RX2) (T := TX2) (N := 3) hx hb hts hinX2 hown hK hP (28 + q_) (wC_hd cy ad rfl hq hc) rfl 1 (by decide) (hts (.fieldLink RX2 13 "TaleBans$Herder" "minds" "I") (List.mem_of_getElem? (i := 1) rfl)) (fun x h => h) rfl dX2_memory_1 hk1
set_option maxHeartbeats 4000000 in
set_option maxRecDepth 100000 in
theorem wk_X2_herderTelling (l : Launch) (h_X7_leave : Ct_X7_leave l) (sp : Sp_X2_herderTelling) : Ct_X2_herderTelling l := by
  intro D cy ad A q_  σ0  hpre
  refine Met.ofW (cc := cX2_herderTelling) (maxL := 2) (ret := (some .int)) (by decide) rfl ?_
  intro p e s m args below meth c s₁ B hml hv0
  obtain ⟨rfl, hP, hK, hD, hN⟩ := hv0
  have hx := B.exec
  have hb := B.bytes
  have hr := B.returns
  have hts := atoms_spec (ws := wsX2_herderTelling) B.pre
  have hown : s.vm.findClass RX2 = some m.cls := findClass_of_methodNamed B.named
  have hlocks := B.notSynchronized
  have hv := sp q_  σ0 hpre
  have hl := lv_entry ([.ref ((hget σ0 q_).1), .ref (ad 10)]) (n := 2) (Nat.le_of_ble_eq_true rfl)
  rw [lg_entry_eq]
  generalize (lg_sl ([.ref ((hget σ0 q_).1), .ref (ad 10)]) ++ List.replicate (2 - (lg_sl ([.ref ((hget σ0 q_).1), .ref (ad 10)])).length) Slot.unset).toArray = ls at hl ⊢
  have hl : lv_has ls 2 [(0, .ref ((hget σ0 q_).1)), (1, .ref (ad 10))] := hl
  refine W_gen (fun R Z H locs hR hZ hH hlo => ?_)
  have hRf : R.frames = 1 := by rw [hR]; rfl
  have hRl : R.locals = 21 := by rw [hR]; rfl
  have hRc : R.cells = 0 := by rw [hR]; rfl
  have hRs : R.slots = 0 := by rw [hR]; rfl
  have hS : va_S A s.heap H locs := by rw [hH, hlo]; exact va_S.rf
  rw [← hH] at hP
  obtain ⟨Q, hQ⟩ : ∃ q : Int32 → S_ → Prop, q = (post_X2_herderTelling q_  σ0) := ⟨_, rfl⟩
  rw [← hQ] at hv
  have hinX0 : ∀ w ∈ wsX00, w ∈ wsX2_herderTelling := by decide +kernel
  have hinX1 : ∀ w ∈ wsX10, w ∈ wsX2_herderTelling := by decide +kernel
  have hinX2 : ∀ w ∈ wsX20, w ∈ wsX2_herderTelling := by decide +kernel
  refine lv_aload_n hx hb dX2_herderTelling_0 rfl (lv_at hl 1 rfl) ?_
  refine lv_iconst (v := 1) hx hb dX2_herderTelling_1 (by decide) ?_
  have hp := True.intro
  refine k_rel_v (w := wC cy ad) (va_runVN (As := [.int 1]) (rest := []) ⟨hx, hb, hml, hown, hts⟩ (h_X7_leave D cy ad A 1 σ0 hp) ⟨va_cnB 1 hts gX2_herderTelling_X7_leave_n23 rfl rfl rfl (nwm_70 hN) (hts (.initialized RX7) (List.mem_of_getElem? (i := 3) rfl)) (by decide +kernel) ⟨le_R hRf (Nat.le_of_ble_eq_true rfl), le_R hRl (Nat.le_of_ble_eq_true rfl)⟩, (hts (.instanceMethod yX7_leave) (List.mem_of_getElem? (i := 2) rfl)), (hts (.selects RX7 yX7_leave yX7_leave) (List.mem_of_getElem? (i := 4) rfl))⟩ ⟨(fun a U g mk q => ⟨q.1, q.2.blind⟩), va_recv hK hP (ci := 7) (q0 := 10) rfl (wC_10 cy ad σ0), (fun U hU hW => ⟨rfl, WdC.pre hP hK hD hN hU hW⟩)⟩ rfl rfl hl.1 rfl (lv_room (Nat.le_of_ble_eq_true rfl)) dX2_herderTelling_2 ⟨le_R hRc (Nat.le_refl 0), le_R hRs (Nat.le_refl 0)⟩) hS (fun σ1 H locs hr1 hP hD hS => ?_)
  have hv := hv σ1 hr1
  refine lv_aload_n hx hb dX2_herderTelling_5 rfl (lv_at hl 0 rfl) ?_
  obtain ⟨heq, hv⟩ := hv
  obtain ⟨⟨hq, hc⟩, hv⟩ := hv
  have hk2 : W p l e R s m ([.ref ((hget σ0 q_).1), .ref (ad 10)] : List Value).toArray below meth c H locs 0 0 Z (F0 m (6 + 3) ls [.int ((hget σ0 q_).2.2.2.1)]) := by
    rw [hZ]; rw [hQ] at hv
    exact W.iret (v := (hget σ0 q_).2.2.2.1) hx hb hr (fun t ht hW => ⟨⟨(hget σ0 q_).2.2.2.1, σ1, rfl, hv, ⟨P_of ht hP, hD⟩⟩, hS.F ht⟩) hS.2.2 dX2_herderTelling_9
  rcases hc with hc | hc | hc
  · exact va_get (ci := 0) (v := .int ((hget σ0 q_).2.2.2.1)) (C := RX0) (T := TX0) (N := 3) hx hb hts hinX0 hown hK hP (28 + q_) (wC_hd cy ad heq hq hc) rfl 1 (by decide) (hts (.fieldLink RX2 13 "TaleBans$Herder" "minds" "I") (List.mem_of_getElem? (i := 1) rfl)) (fun x h => h) rfl dX2_herderTelling_6 hk2
  · exact va_get (ci := 1) (v := .int ((hget σ0 q_).2.2.2.1)) (C := RX1) (T := TX1) (N := 3) hx hb hts hinX1 hown hK hP (28 + q_) (wC_hd cy ad heq hq hc) rfl 1 (by decide) (hts (.fieldLink RX2 13 "TaleBans$Herder" "minds" "I") (List.mem_of_getElem? (i := 1) rfl)) (fun x h => h) rfl dX2_herderTelling_6 hk2
  · exact va_get (ci := 2) (v := .int ((hget σ0 q_).2.2.2.1)) (C := RX2) (T := TX2) (N := 3) hx hb hts hinX2 hown hK hP (28 + q_) (wC_hd cy ad heq hq hc) rfl 1 (by decide) (hts (.fieldLink RX2 13 "TaleBans$Herder" "minds" "I") (List.mem_of_getElem? (i := 1) rfl)) (fun x h => h) rfl dX2_herderTelling_6 hk2
set_option maxHeartbeats 4000000 in
set_option maxRecDepth 100000 in
theorem wk_X2_telling (l : Launch) (h_X2_herderTelling : Ct_X2_herderTelling l) (sp : Sp_X2_telling) : Ct_X2_telling l := by
  intro D cy ad A q_  σ0  hpre
  refine Met.ofW (cc := cX2_telling) (maxL := 2) (ret := (some .int)) (by decide) rfl ?_
  intro p e s m args below meth c s₁ B hml hv0
  obtain ⟨rfl, hP, hK, hD, hN⟩ := hv0
  have hx := B.exec
  have hb := B.bytes
  have hr := B.returns
  have hts := atoms_spec (ws := wsX2_telling) B.pre
  have hown : s.vm.findClass RX2 = some m.cls := findClass_of_methodNamed B.named
  have hlocks := B.notSynchronized
  have hv := sp q_  σ0 hpre
  have hl := lv_entry ([.ref ((hget σ0 q_).1), .ref (ad 10)]) (n := 2) (Nat.le_of_ble_eq_true rfl)
  rw [lg_entry_eq]
  generalize (lg_sl ([.ref ((hget σ0 q_).1), .ref (ad 10)]) ++ List.replicate (2 - (lg_sl ([.ref ((hget σ0 q_).1), .ref (ad 10)])).length) Slot.unset).toArray = ls at hl ⊢
  have hl : lv_has ls 2 [(0, .ref ((hget σ0 q_).1)), (1, .ref (ad 10))] := hl
  refine W_gen (fun R Z H locs hR hZ hH hlo => ?_)
  have hRf : R.frames = 2 := by rw [hR]; rfl
  have hRl : R.locals = 42 := by rw [hR]; rfl
  have hRc : R.cells = 0 := by rw [hR]; rfl
  have hRs : R.slots = 0 := by rw [hR]; rfl
  have hS : va_S A s.heap H locs := by rw [hH, hlo]; exact va_S.rf
  rw [← hH] at hP
  obtain ⟨Q, hQ⟩ : ∃ q : Int32 → S_ → Prop, q = (post_X2_telling q_  σ0) := ⟨_, rfl⟩
  rw [← hQ] at hv
  refine lv_aload_n hx hb dX2_telling_0 rfl (lv_at hl 0 rfl) ?_
  refine lv_aload_n hx hb dX2_telling_1 rfl (lv_at hl 1 rfl) ?_
  obtain ⟨⟨hq, hc⟩, hv⟩ := hv
  have hk1 : ∀ (r2 : Int32) (σ3 : S_) (H : Heap) (locs : List Loc), post_X2_herderTelling q_ σ0 r2 σ3 → va_P D vwCl (wC cy ad σ3) H → va_D A (wC cy ad σ3) → va_S A s.heap H locs → W p l e R s m ([.ref ((hget σ0 q_).1), .ref (ad 10)] : List Value).toArray below meth c H locs 0 0 Z (F0 m (2 + 3) ls (.int r2 :: [])) := by
    intro r2 σ3 H locs hr1 hP hD hS
    have hv := hv r2 σ3 hr1
    rw [hZ]; rw [hQ] at hv
    exact W.iret (v := r2) hx hb hr (fun t ht hW => ⟨⟨r2, σ3, rfl, hv, ⟨P_of ht hP, hD⟩⟩, hS.F ht⟩) hS.2.2 dX2_telling_5
  rcases hc with hc | hc | hc
  · exact k_rel_i (w := wC cy ad) (va_runU (As := [.ref (ad 10)]) (rest := []) ⟨hx, hb, hml, hown, hts⟩ (h_X2_herderTelling D cy ad A q_ σ0 ⟨hq, isC_0 hc⟩) (va_cwU 1 hts gX2_telling_X2_herderTelling_u19X0 rfl rfl rfl rfl (by decide +kernel) ⟨le_R hRf (Nat.le_of_ble_eq_true rfl), le_R hRl (Nat.le_of_ble_eq_true rfl)⟩) ⟨(fun a U g mk q => ⟨q.1, q.2.blind⟩), va_recv hK hP (ci := 0) (q0 := 28 + q_) rfl (wC_hd cy ad rfl hq hc), (fun U hU hW => ⟨rfl, WdC.pre hP hK hD hN hU hW⟩)⟩ rfl rfl hl.1 rfl (lv_room (Nat.le_of_ble_eq_true rfl)) dX2_telling_2 ⟨le_R hRc (Nat.le_refl 0), le_R hRs (Nat.le_refl 0)⟩) hS (fun r σ H locs hr1 hP hD hS => hk1 r σ H locs (hr1) hP hD hS)
  · exact k_rel_i (w := wC cy ad) (va_runU (As := [.ref (ad 10)]) (rest := []) ⟨hx, hb, hml, hown, hts⟩ (h_X2_herderTelling D cy ad A q_ σ0 ⟨hq, isC_1 hc⟩) (va_cwU 1 hts gX2_telling_X2_herderTelling_u19X1 rfl rfl rfl rfl (by decide +kernel) ⟨le_R hRf (Nat.le_of_ble_eq_true rfl), le_R hRl (Nat.le_of_ble_eq_true rfl)⟩) ⟨(fun a U g mk q => ⟨q.1, q.2.blind⟩), va_recv hK hP (ci := 1) (q0 := 28 + q_) rfl (wC_hd cy ad rfl hq hc), (fun U hU hW => ⟨rfl, WdC.pre hP hK hD hN hU hW⟩)⟩ rfl rfl hl.1 rfl (lv_room (Nat.le_of_ble_eq_true rfl)) dX2_telling_2 ⟨le_R hRc (Nat.le_refl 0), le_R hRs (Nat.le_refl 0)⟩) hS (fun r σ H locs hr1 hP hD hS => hk1 r σ H locs (hr1) hP hD hS)
  · exact k_rel_i (w := wC cy ad) (va_runV (As := [.ref (ad 10)]) (rest := []) ⟨hx, hb, hml, hown, hts⟩ (h_X2_herderTelling D cy ad A q_ σ0 ⟨hq, isC_2 hc⟩) (cwV 1 hts gX2_telling_X2_herderTelling rfl rfl rfl (by decide +kernel) ⟨le_R hRf (Nat.le_of_ble_eq_true rfl), le_R hRl (Nat.le_of_ble_eq_true rfl)⟩) ⟨(fun a U g mk q => ⟨q.1, q.2.blind⟩), va_recv hK hP (ci := 2) (q0 := 28 + q_) rfl (wC_hd cy ad rfl hq hc), (fun U hU hW => ⟨rfl, WdC.pre hP hK hD hN hU hW⟩)⟩ rfl rfl hl.1 rfl (lv_room (Nat.le_of_ble_eq_true rfl)) dX2_telling_2 ⟨le_R hRc (Nat.le_refl 0), le_R hRs (Nat.le_refl 0)⟩) hS (fun r σ H locs hr1 hP hD hS => hk1 r σ H locs (hr1) hP hD hS)
set_option maxHeartbeats 4000000 in
set_option maxRecDepth 100000 in
theorem wk_X2_greeting (l : Launch) (h_X7_leave : Ct_X7_leave l) (sp : Sp_X2_greeting) : Ct_X2_greeting l := by
  intro D cy ad A q_  σ0  hpre
  refine Met.ofW (cc := cX2_greeting) (maxL := 2) (ret := (some .int)) (by decide) rfl ?_
  intro p e s m args below meth c s₁ B hml hv0
  obtain ⟨rfl, hP, hK, hD, hN⟩ := hv0
  have hx := B.exec
  have hb := B.bytes
  have hr := B.returns
  have hts := atoms_spec (ws := wsX2_greeting) B.pre
  have hown : s.vm.findClass RX2 = some m.cls := findClass_of_methodNamed B.named
  have hlocks := B.notSynchronized
  have hv := sp q_  σ0 hpre
  have hl := lv_entry ([.ref ((hget σ0 q_).1), .ref (ad 10)]) (n := 2) (Nat.le_of_ble_eq_true rfl)
  rw [lg_entry_eq]
  generalize (lg_sl ([.ref ((hget σ0 q_).1), .ref (ad 10)]) ++ List.replicate (2 - (lg_sl ([.ref ((hget σ0 q_).1), .ref (ad 10)])).length) Slot.unset).toArray = ls at hl ⊢
  have hl : lv_has ls 2 [(0, .ref ((hget σ0 q_).1)), (1, .ref (ad 10))] := hl
  refine W_gen (fun R Z H locs hR hZ hH hlo => ?_)
  have hRf : R.frames = 1 := by rw [hR]; rfl
  have hRl : R.locals = 21 := by rw [hR]; rfl
  have hRc : R.cells = 0 := by rw [hR]; rfl
  have hRs : R.slots = 0 := by rw [hR]; rfl
  have hS : va_S A s.heap H locs := by rw [hH, hlo]; exact va_S.rf
  rw [← hH] at hP
  obtain ⟨Q, hQ⟩ : ∃ q : Int32 → S_ → Prop, q = (post_X2_greeting q_  σ0) := ⟨_, rfl⟩
  rw [← hQ] at hv
  have hinX0 : ∀ w ∈ wsX00, w ∈ wsX2_greeting := by decide +kernel
  have hinX1 : ∀ w ∈ wsX10, w ∈ wsX2_greeting := by decide +kernel
  have hinX2 : ∀ w ∈ wsX20, w ∈ wsX2_greeting := by decide +kernel
  refine lv_aload_n hx hb dX2_greeting_0 rfl (lv_at hl 1 rfl) ?_
  refine lv_iconst (v := 4) hx hb dX2_greeting_1 (by decide) ?_
  have hp := True.intro
  refine k_rel_v (w := wC cy ad) (va_runVN (As := [.int 4]) (rest := []) ⟨hx, hb, hml, hown, hts⟩ (h_X7_leave D cy ad A 4 σ0 hp) ⟨va_cnB 1 hts gX2_greeting_X7_leave_n23 rfl rfl rfl (nwm_70 hN) (hts (.initialized RX7) (List.mem_of_getElem? (i := 3) rfl)) (by decide +kernel) ⟨le_R hRf (Nat.le_of_ble_eq_true rfl), le_R hRl (Nat.le_of_ble_eq_true rfl)⟩, (hts (.instanceMethod yX7_leave) (List.mem_of_getElem? (i := 2) rfl)), (hts (.selects RX7 yX7_leave yX7_leave) (List.mem_of_getElem? (i := 4) rfl))⟩ ⟨(fun a U g mk q => ⟨q.1, q.2.blind⟩), va_recv hK hP (ci := 7) (q0 := 10) rfl (wC_10 cy ad σ0), (fun U hU hW => ⟨rfl, WdC.pre hP hK hD hN hU hW⟩)⟩ rfl rfl hl.1 rfl (lv_room (Nat.le_of_ble_eq_true rfl)) dX2_greeting_2 ⟨le_R hRc (Nat.le_refl 0), le_R hRs (Nat.le_refl 0)⟩) hS (fun σ1 H locs hr1 hP hD hS => ?_)
  have hv := hv σ1 hr1
  refine lv_aload_n hx hb dX2_greeting_5 rfl (lv_at hl 0 rfl) ?_
  obtain ⟨heq, hv⟩ := hv
  obtain ⟨⟨hq, hc⟩, hv⟩ := hv
  have hk2 : W p l e R s m ([.ref ((hget σ0 q_).1), .ref (ad 10)] : List Value).toArray below meth c H locs 0 0 Z (F0 m (6 + 3) ls [.int ((hget σ0 q_).2.2.1)]) := by
    rw [hZ]; rw [hQ] at hv
    exact W.iret (v := (hget σ0 q_).2.2.1) hx hb hr (fun t ht hW => ⟨⟨(hget σ0 q_).2.2.1, σ1, rfl, hv, ⟨P_of ht hP, hD⟩⟩, hS.F ht⟩) hS.2.2 dX2_greeting_9
  rcases hc with hc | hc | hc
  · exact va_get (ci := 0) (v := .int ((hget σ0 q_).2.2.1)) (C := RX0) (T := TX0) (N := 3) hx hb hts hinX0 hown hK hP (28 + q_) (wC_hd cy ad heq hq hc) rfl 0 (by decide) (hts (.fieldLink RX2 7 "TaleBans$Herder" "number" "I") (List.mem_of_getElem? (i := 1) rfl)) (fun x h => h) rfl dX2_greeting_6 hk2
  · exact va_get (ci := 1) (v := .int ((hget σ0 q_).2.2.1)) (C := RX1) (T := TX1) (N := 3) hx hb hts hinX1 hown hK hP (28 + q_) (wC_hd cy ad heq hq hc) rfl 0 (by decide) (hts (.fieldLink RX2 7 "TaleBans$Herder" "number" "I") (List.mem_of_getElem? (i := 1) rfl)) (fun x h => h) rfl dX2_greeting_6 hk2
  · exact va_get (ci := 2) (v := .int ((hget σ0 q_).2.2.1)) (C := RX2) (T := TX2) (N := 3) hx hb hts hinX2 hown hK hP (28 + q_) (wC_hd cy ad heq hq hc) rfl 0 (by decide) (hts (.fieldLink RX2 7 "TaleBans$Herder" "number" "I") (List.mem_of_getElem? (i := 1) rfl)) (fun x h => h) rfl dX2_greeting_6 hk2
