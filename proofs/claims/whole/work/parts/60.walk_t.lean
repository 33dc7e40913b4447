set_option maxHeartbeats 4000000 in
set_option maxRecDepth 100000 in
theorem wk_X2_kind (l : Launch) (sp : ∀ (q_ : Nat) (σ0 : S_), pre_X2_kind q_ σ0 → vc_X2_kind q_ σ0 (fun r => r = fn_X2_kind q_ σ0)) : Ct_X2_kind l := by
  intro D cy ad A q_  σ0  hpre
  refine Met.ofW (cc := cX2_kind) (maxL := 1) (ret := (some .int)) (by decide) rfl ?_
  intro p e s m args below meth c s₁ B hml hv0
  obtain ⟨rfl, hP, hK, hD, hN⟩ := hv0
  have hx := B.exec
  have hb := B.bytes
  have hr := B.returns
  have hts := atoms_spec (ws := wsX2_kind) B.pre
  have hown : s.vm.findClass RX2 = some m.cls := findClass_of_methodNamed B.named
  have hlocks := B.notSynchronized
  have hv := sp q_  σ0 hpre
  have hl := lv_entry ([.ref ((hget σ0 q_).1)]) (n := 1) (Nat.le_of_ble_eq_true rfl)
  rw [lg_entry_eq]
  generalize (lg_sl ([.ref ((hget σ0 q_).1)]) ++ List.replicate (1 - (lg_sl ([.ref ((hget σ0 q_).1)])).length) Slot.unset).toArray = ls at hl ⊢
  have hl : lv_has ls 1 [(0, .ref ((hget σ0 q_).1))] := hl
  refine W_gen (fun R Z H locs hR hZ hH hlo => ?_)
  have hRf : R.frames = 0 := by rw [hR]; rfl
  have hRl : R.locals = 0 := by rw [hR]; rfl
  have hRc : R.cells = 0 := by rw [hR]; rfl
  have hRs : R.slots = 0 := by rw [hR]; rfl
  have hS : va_S A s.heap H locs := by rw [hH, hlo]; exact va_S.rf
  rw [← hH] at hP
  obtain ⟨Q, hQ⟩ : ∃ q : Int32 → Prop, q = (fun r => r = fn_X2_kind q_ σ0) := ⟨_, rfl⟩
  rw [← hQ] at hv
  refine lv_iconst (v := 0) hx hb dX2_kind_0 (by decide) ?_
  rw [hZ]; rw [hQ] at hv
  exact W.iret (v := 0) hx hb hr (fun t ht hW => ⟨⟨0, (), rfl, hv, (P_of ht hP)⟩, hS.F ht⟩) hS.2.2 dX2_kind_1
set_option maxHeartbeats 4000000 in
set_option maxRecDepth 100000 in
theorem wk_X2_memory (l : Launch) (sp : ∀ (q_ : Nat) (σ0 : S_), pre_X2_memory q_ σ0 → vc_X2_memory q_ σ0 (fun r => r = fn_X2_memory q_ σ0)) : Ct_X2_memory l := by
  intro D cy ad A q_  σ0  hpre
  refine Met.ofW (cc := cX2_memory) (maxL := 1) (ret := (some .int)) (by decide) rfl ?_
  intro p e s m args below meth c s₁ B hml hv0
  obtain ⟨rfl, hP, hK, hD, hN⟩ := hv0
  have hx := B.exec
  have hb := B.bytes
  have hr := B.returns
  have hts := atoms_spec (ws := wsX2_memory) B.pre
  have hown : s.vm.findClass RX2 = some m.cls := findClass_of_methodNamed B.named
  have hlocks := B.notSynchronized
  have hv := sp q_  σ0 hpre
  have hl := lv_entry ([.ref ((hget σ0 q_).1)]) (n := 1) (Nat.le_of_ble_eq_true rfl)
  rw [lg_entry_eq]
  generalize (lg_sl ([.ref ((hget σ0 q_).1)]) ++ List.replicate (1 - (lg_sl ([.ref ((hget σ0 q_).1)])).length) Slot.unset).toArray = ls at hl ⊢
  have hl : lv_has ls 1 [(0, .ref ((hget σ0 q_).1))] := hl
  refine W_gen (fun R Z H locs hR hZ hH hlo => ?_)
  have hRf : R.frames = 0 := by rw [hR]; rfl
  have hRl : R.locals = 0 := by rw [hR]; rfl
  have hRc : R.cells = 0 := by rw [hR]; rfl
  have hRs : R.slots = 0 := by rw [hR]; rfl
  have hS : va_S A s.heap H locs := by rw [hH, hlo]; exact va_S.rf
  rw [← hH] at hP
  obtain ⟨Q, hQ⟩ : ∃ q : Int32 → Prop, q = (fun r => r = fn_X2_memory q_ σ0) := ⟨_, rfl⟩
  rw [← hQ] at hv
  have hinX0 : ∀ w ∈ wsX00, w ∈ wsX2_memory := by decide +kernel
  have hinX1 : ∀ w ∈ wsX10, w ∈ wsX2_memory := by decide +kernel
  have hinX2 : ∀ w ∈ wsX20, w ∈ wsX2_memory := by decide +kernel
  refine lv_aload_n hx hb dX2_memory_0 rfl (lv_at hl 0 rfl) ?_
  obtain ⟨⟨hq, hc⟩, hv⟩ := hv
  have hk1 : W p l e R s m ([.ref ((hget σ0 q_).1)] : List Value).toArray below meth c H locs 0 0 Z (F0 m (1 + 3) ls [.int ((hget σ0 q_).2.2.2.1)]) := by
    rw [hZ]; rw [hQ] at hv
    exact W.iret (v := (hget σ0 q_).2.2.2.1) hx hb hr (fun t ht hW => ⟨⟨(hget σ0 q_).2.2.2.1, (), rfl, hv, (P_of ht hP)⟩, hS.F ht⟩) hS.2.2 dX2_memory_4
  rcases hc with hc | hc | hc
  · exact va_get (ci := 0) (v := .int ((hget σ0 q_).2.2.2.1)) (C := RX0) (T := TX0) (N := 3) hx hb hts hinX0 hown hK hP (28 + q_) (wC_hd cy ad rfl hq hc) rfl 1 (by decide) (hts (.fieldLink RX2 13 "TaleBans$Herder" "minds" "I") (List.mem_of_getElem? (i := 1) rfl)) (fun x h => h) rfl dX2_memory_1 hk1
  · exact va_get (ci := 1) (v := .int ((hget σ0 q_).2.2.2.1)) (C := RX1) (T := TX1) (N := 3) hx hb hts hinX1 hown hK hP (28 + q_) (wC_hd cy ad rfl hq hc) rfl 1 (by decide) (hts (.fieldLink RX2 13 "TaleBans$Herder" "minds" "I") (List.mem_of_getElem? (i := 1) rfl)) (fun x h => h) rfl dX2_memory_1 hk1
  · exact va_get (ci := 2) (v := .int ((hget σ0 q_).2.2.2.1)) (C := RX2) (T := TX2) (N := 3) hx hb hts hinX2 hown hK hP (28 + q_) (wC_hd cy ad rfl hq hc) rfl 1 (by decide) (hts (.fieldLink RX2 13 "TaleBans$Herder" "minds" "I") (List.mem_of_getElem? (i := 1) rfl)) (fun x h => h) rfl dX2_memory_1 hk1
set_option maxHeartbeats 4000000 in
set_option maxRecDepth 100000 in
theorem wk_X2_herderTelling (l : Launch) (h_X7_leave : Ct_X7_leave l) (sp : ∀ (q_ : Nat) (σ0 : S_), pre_X2_herderTelling q_ σ0 → vc_X2_herderTelling q_ σ0 (post_X2_herderTelling q_ σ0)) : Ct_X2_herderTelling l := by
  intro D cy ad A q_  σ0  hpre
  refine Met.ofW (cc := cX2_herderTelling) (maxL := 2) (ret := (some .int)) (by decide) rfl ?_
  intro p e s m args below meth c s₁ B hml hv0
  obtain ⟨rfl, hP, hK, hD, hN⟩ := hv0
  have hx := B.exec
  have hb := B.bytes
  have hr := B.returns
  have hts := atoms_spec (ws := wsX2_herderTelling) B.pre
  have hown : s.vm.findClass RX2 = some m.cls := findClass_of_methodNamed B.named
  have hlocks := B.notSynchronized
  have hv := sp q_  σ0 hpre
  have hl := lv_entry ([.ref ((hget σ0 q_).1), .ref (ad 10)]) (n := 2) (Nat.le_of_ble_eq_true rfl)
  rw [lg_entry_eq]
  generalize (lg_sl ([.ref ((hget σ0 q_).1), .ref (ad 10)]) ++ List.replicate (2 - (lg_sl ([.ref ((hget σ0 q_).1), .ref (ad 10)])).length) Slot.unset).toArray = ls at hl ⊢
  have hl : lv_has ls 2 [(0, .ref ((hget σ0 q_).1)), (1, .ref (ad 10))] := hl
  refine W_gen (fun R Z H locs hR hZ hH hlo => ?_)
  have hRf : R.frames = 1 := by rw [hR]; rfl
  have hRl : R.locals = 21 := by rw [hR]; rfl
  have hRc : R.cells = 0 := by rw [hR]; rfl
  have hRs : R.slots = 0 := by rw [hR]; rfl
  have hS : va_S A s.heap H locs := by rw [hH, hlo]; exact va_S.rf
  rw [← hH] at hP
  obtain ⟨Q, hQ⟩ : ∃ q : Int32 → S_ → Prop, q = (post_X2_herderTelling q_  σ0) := ⟨_, rfl⟩
  rw [← hQ] at hv
  have hinX0 : ∀ w ∈ wsX00, w ∈ wsX2_herderTelling := by decide +kernel
  have hinX1 : ∀ w ∈ wsX10, w ∈ wsX2_herderTelling := by decide +kernel
  have hinX2 : ∀ w ∈ wsX20, w ∈ wsX2_herderTelling := by decide +kernel
  refine lv_aload_n hx hb dX2_herderTelling_0 rfl (lv_at hl 1 rfl) ?_
  refine lv_iconst (v := 1) hx hb dX2_herderTelling_1 (by decide) ?_
  have hp := True.intro
  refine k_rel_v (w := wC cy ad) (va_runVN (As := [.int 1]) (rest := []) ⟨hx, hb, hml, hown, hts⟩ (h_X7_leave D cy ad A 1 σ0 hp) ⟨va_cnB 1 hts gX2_herderTelling_X7_leave_n23 rfl rfl rfl (nwm_70 hN) (hts (.initialized RX7) (List.mem_of_getElem? (i := 3) rfl)) (by decide +kernel) ⟨le_R hRf (Nat.le_of_ble_eq_true rfl), le_R hRl (Nat.le_of_ble_eq_true rfl)⟩, (hts (.instanceMethod yX7_leave) (List.mem_of_getElem? (i := 2) rfl)), (hts (.selects RX7 yX7_leave yX7_leave) (List.mem_of_getElem? (i := 4) rfl))⟩ ⟨(fun a U g mk q => ⟨q.1, q.2.blind⟩), va_recv hK hP (ci := 7) (q0 := 10) rfl (wC_10 cy ad σ0), (fun U hU hW => ⟨rfl, WdC.pre hP hK hD hN hU hW⟩)⟩ rfl rfl hl.1 rfl (lv_room (Nat.le_of_ble_eq_true rfl)) dX2_herderTelling_2 ⟨le_R hRc (Nat.le_refl 0), le_R hRs (Nat.le_refl 0)⟩) hS (fun σ1 H locs hr1 hP hD hS => ?_)
  have hv := hv σ1 hr1
  refine lv_aload_n hx hb dX2_herderTelling_5 rfl (lv_at hl 0 rfl) ?_
  obtain ⟨heq, hv⟩ := hv
  obtain ⟨⟨hq, hc⟩, hv⟩ := hv
  have hk2 : W p l e R s m ([.ref ((hget σ0 q_).1), .ref (ad 10)] : List Value).toArray below meth c H locs 0 0 Z (F0 m (6 + 3) ls [.int ((hget σ0 q_).2.2.2.1)]) := by
    rw [hZ]; rw [hQ] at hv
    exact W.iret (v := (hget σ0 q_).2.2.2.1) hx hb hr (fun t ht hW => ⟨⟨(hget σ0 q_).2.2.2.1, σ1, rfl, hv, ⟨P_of ht hP, hD⟩⟩, hS.F ht⟩) hS.2.2 dX2_herderTelling_9
  rcases hc with hc | hc | hc
  · exact va_get (ci := 0) (v := .int ((hget σ0 q_).2.2.2.1)) (C := RX0) (T := TX0) (N := 3) hx hb hts hinX0 hown hK hP (28 + q_) (wC_hd cy ad heq hq hc) rfl 1 (by decide) (hts (.fieldLink RX2 13 "TaleBans$Herder" "minds" "I") (List.mem_of_getElem? (i := 1) rfl)) (fun x h => h) rfl dX2_herderTelling_6 hk2
  · exact va_get (ci := 1) (v := .int ((hget σ0 q_).2.2.2.1)) (C := RX1) (T := TX1) (N := 3) hx hb hts hinX1 hown hK hP (28 + q_) (wC_hd cy ad heq hq hc) rfl 1 (by decide) (hts (.fieldLink RX2 13 "TaleBans$Herder" "minds" "I") (List.mem_of_getElem? (i := 1) rfl)) (fun x h => h) rfl dX2_herderTelling_6 hk2
  · exact va_get (ci := 2) (v := .int ((hget σ0 q_).2.2.2.1)) (C := RX2) (T := TX2) (N := 3) hx hb hts hinX2 hown hK hP (28 + q_) (wC_hd cy ad heq hq hc) rfl 1 (by decide) (hts (.fieldLink RX2 13 "TaleBans$Herder" "minds" "I") (List.mem_of_getElem? (i := 1) rfl)) (fun x h => h) rfl dX2_herderTelling_6 hk2
set_option maxHeartbeats 4000000 in
set_option maxRecDepth 100000 in
theorem wk_X2_telling (l : Launch) (h_X2_herderTelling : Ct_X2_herderTelling l) (sp : ∀ (q_ : Nat) (σ0 : S_), pre_X2_telling q_ σ0 → vc_X2_telling q_ σ0 (post_X2_telling q_ σ0)) : Ct_X2_telling l := by
  intro D cy ad A q_  σ0  hpre
  refine Met.ofW (cc := cX2_telling) (maxL := 2) (ret := (some .int)) (by decide) rfl ?_
  intro p e s m args below meth c s₁ B hml hv0
  obtain ⟨rfl, hP, hK, hD, hN⟩ := hv0
  have hx := B.exec
  have hb := B.bytes
  have hr := B.returns
  have hts := atoms_spec (ws := wsX2_telling) B.pre
  have hown : s.vm.findClass RX2 = some m.cls := findClass_of_methodNamed B.named
  have hlocks := B.notSynchronized
  have hv := sp q_  σ0 hpre
  have hl := lv_entry ([.ref ((hget σ0 q_).1), .ref (ad 10)]) (n := 2) (Nat.le_of_ble_eq_true rfl)
  rw [lg_entry_eq]
  generalize (lg_sl ([.ref ((hget σ0 q_).1), .ref (ad 10)]) ++ List.replicate (2 - (lg_sl ([.ref ((hget σ0 q_).1), .ref (ad 10)])).length) Slot.unset).toArray = ls at hl ⊢
  have hl : lv_has ls 2 [(0, .ref ((hget σ0 q_).1)), (1, .ref (ad 10))] := hl
  refine W_gen (fun R Z H locs hR hZ hH hlo => ?_)
  have hRf : R.frames = 2 := by rw [hR]; rfl
  have hRl : R.locals = 42 := by rw [hR]; rfl
  have hRc : R.cells = 0 := by rw [hR]; rfl
  have hRs : R.slots = 0 := by rw [hR]; rfl
  have hS : va_S A s.heap H locs := by rw [hH, hlo]; exact va_S.rf
  rw [← hH] at hP
  obtain ⟨Q, hQ⟩ : ∃ q : Int32 → S_ → Prop, q = (post_X2_telling q_  σ0) := ⟨_, rfl⟩
  rw [← hQ] at hv
  refine lv_aload_n hx hb dX2_telling_0 rfl (lv_at hl 0 rfl) ?_
  refine lv_aload_n hx hb dX2_telling_1 rfl (lv_at hl 1 rfl) ?_
  obtain ⟨⟨hq, hc⟩, hv⟩ := hv
  have hk1 : ∀ (r2 : Int32) (σ3 : S_) (H : Heap) (locs : List Loc), post_X2_herderTelling q_ σ0 r2 σ3 → va_P D vwCl (wC cy ad σ3) H → va_D A (wC cy ad σ3) → va_S A s.heap H locs → W p l e R s m ([.ref ((hget σ0 q_).1), .ref (ad 10)] : List Value).toArray below meth c H locs 0 0 Z (F0 m (2 + 3) ls (.int r2 :: [])) := by
    intro r2 σ3 H locs hr1 hP hD hS
    have hv := hv r2 σ3 hr1
    rw [hZ]; rw [hQ] at hv
    exact W.iret (v := r2) hx hb hr (fun t ht hW => ⟨⟨r2, σ3, rfl, hv, ⟨P_of ht hP, hD⟩⟩, hS.F ht⟩) hS.2.2 dX2_telling_5
  rcases hc with hc | hc | hc
  · exact k_rel_i (w := wC cy ad) (va_runU (As := [.ref (ad 10)]) (rest := []) ⟨hx, hb, hml, hown, hts⟩ (h_X2_herderTelling D cy ad A q_ σ0 ⟨hq, isC_0 hc⟩) (va_cwU 1 hts gX2_telling_X2_herderTelling_u19X0 rfl rfl rfl rfl (by decide +kernel) ⟨le_R hRf (Nat.le_of_ble_eq_true rfl), le_R hRl (Nat.le_of_ble_eq_true rfl)⟩) ⟨(fun a U g mk q => ⟨q.1, q.2.blind⟩), va_recv hK hP (ci := 0) (q0 := 28 + q_) rfl (wC_hd cy ad rfl hq hc), (fun U hU hW => ⟨rfl, WdC.pre hP hK hD hN hU hW⟩)⟩ rfl rfl hl.1 rfl (lv_room (Nat.le_of_ble_eq_true rfl)) dX2_telling_2 ⟨le_R hRc (Nat.le_refl 0), le_R hRs (Nat.le_refl 0)⟩) hS (fun r σ H locs hr1 hP hD hS => hk1 r σ H locs (hr1) hP hD hS)
  · exact k_rel_i (w := wC cy ad) (va_runU (As := [.ref (ad 10)]) (rest := []) ⟨hx, hb, hml, hown, hts⟩ (h_X2_herderTelling D cy ad A q_ σ0 ⟨hq, isC_1 hc⟩) (va_cwU 1 hts gX2_telling_X2_herderTelling_u19X1 rfl rfl rfl rfl (by decide +kernel) ⟨le_R hRf (Nat.le_of_ble_eq_true rfl), le_R hRl (Nat.le_of_ble_eq_true rfl)⟩) ⟨(fun a U g mk q => ⟨q.1, q.2.blind⟩), va_recv hK hP (ci := 1) (q0 := 28 + q_) rfl (wC_hd cy ad rfl hq hc), (fun U hU hW => ⟨rfl, WdC.pre hP hK hD hN hU hW⟩)⟩ rfl rfl hl.1 rfl (lv_room (Nat.le_of_ble_eq_true rfl)) dX2_telling_2 ⟨le_R hRc (Nat.le_refl 0), le_R hRs (Nat.le_refl 0)⟩) hS (fun r σ H locs hr1 hP hD hS => hk1 r σ H locs (hr1) hP hD hS)
  · exact k_rel_i (w := wC cy ad) (va_runV (As := [.ref (ad 10)]) (rest := []) ⟨hx, hb, hml, hown, hts⟩ (h_X2_herderTelling D cy ad A q_ σ0 ⟨hq, isC_2 hc⟩) (cwV 1 hts gX2_telling_X2_herderTelling rfl rfl rfl (by decide +kernel) ⟨le_R hRf (Nat.le_of_ble_eq_true rfl), le_R hRl (Nat.le_of_ble_eq_true rfl)⟩) ⟨(fun a U g mk q => ⟨q.1, q.2.blind⟩), va_recv hK hP (ci := 2) (q0 := 28 + q_) rfl (wC_hd cy ad rfl hq hc), (fun U hU hW => ⟨rfl, WdC.pre hP hK hD hN hU hW⟩)⟩ rfl rfl hl.1 rfl (lv_room (Nat.le_of_ble_eq_true rfl)) dX2_telling_2 ⟨le_R hRc (Nat.le_refl 0), le_R hRs (Nat.le_refl 0)⟩) hS (fun r σ H locs hr1 hP hD hS => hk1 r σ H locs (hr1) hP hD hS)
set_option maxHeartbeats 4000000 in
set_option maxRecDepth 100000 in
theorem wk_X2_greeting (l : Launch) (h_X7_leave : Ct_X7_leave l) (sp : ∀ (q_ : Nat) (σ0 : S_), pre_X2_greeting q_ σ0 → vc_X2_greeting q_ σ0 (post_X2_greeting q_ σ0)) : Ct_X2_greeting l := by
  intro D cy ad A q_  σ0  hpre
  refine Met.ofW (cc := cX2_greeting) (maxL := 2) (ret := (some .int)) (by decide) rfl ?_
  intro p e s m args below meth c s₁ B hml hv0
  obtain ⟨rfl, hP, hK, hD, hN⟩ := hv0
  have hx := B.exec
  have hb := B.bytes
  have hr := B.returns
  have hts := atoms_spec (ws := wsX2_greeting) B.pre
  have hown : s.vm.findClass RX2 = some m.cls := findClass_of_methodNamed B.named
  have hlocks := B.notSynchronized
  have hv := sp q_  σ0 hpre
  have hl := lv_entry ([.ref ((hget σ0 q_).1), .ref (ad 10)]) (n := 2) (Nat.le_of_ble_eq_true rfl)
  rw [lg_entry_eq]
  generalize (lg_sl ([.ref ((hget σ0 q_).1), .ref (ad 10)]) ++ List.replicate (2 - (lg_sl ([.ref ((hget σ0 q_).1), .ref (ad 10)])).length) Slot.unset).toArray = ls at hl ⊢
  have hl : lv_has ls 2 [(0, .ref ((hget σ0 q_).1)), (1, .ref (ad 10))] := hl
  refine W_gen (fun R Z H locs hR hZ hH hlo => ?_)
  have hRf : R.frames = 1 := by rw [hR]; rfl
  have hRl : R.locals = 21 := by rw [hR]; rfl
  have hRc : R.cells = 0 := by rw [hR]; rfl
  have hRs : R.slots = 0 := by rw [hR]; rfl
  have hS : va_S A s.heap H locs := by rw [hH, hlo]; exact va_S.rf
  rw [← hH] at hP
  obtain ⟨Q, hQ⟩ : ∃ q : Int32 → S_ → Prop, q = (post_X2_greeting q_  σ0) := ⟨_, rfl⟩
  rw [← hQ] at hv
  have hinX0 : ∀ w ∈ wsX00, w ∈ wsX2_greeting := by decide +kernel
  have hinX1 : ∀ w ∈ wsX10, w ∈ wsX2_greeting := by decide +kernel
  have hinX2 : ∀ w ∈ wsX20, w ∈ wsX2_greeting := by decide +kernel
  refine lv_aload_n hx hb dX2_greeting_0 rfl (lv_at hl 1 rfl) ?_
  refine lv_iconst (v := 4) hx hb dX2_greeting_1 (by decide) ?_
  have hp := True.intro
  refine k_rel_v (w := wC cy ad) (va_runVN (As := [.int 4]) (rest := []) ⟨hx, hb, hml, hown, hts⟩ (h_X7_leave D cy ad A 4 σ0 hp) ⟨va_cnB 1 hts gX2_greeting_X7_leave_n23 rfl rfl rfl (nwm_70 hN) (hts (.initialized RX7) (List.mem_of_getElem? (i := 3) rfl)) (by decide +kernel) ⟨le_R hRf (Nat.le_of_ble_eq_true rfl), le_R hRl (Nat.le_of_ble_eq_true rfl)⟩, (hts (.instanceMethod yX7_leave) (List.mem_of_getElem? (i := 2) rfl)), (hts (.selects RX7 yX7_leave yX7_leave) (List.mem_of_getElem? (i := 4) rfl))⟩ ⟨(fun a U g mk q => ⟨q.1, q.2.blind⟩), va_recv hK hP (ci := 7) (q0 := 10) rfl (wC_10 cy ad σ0), (fun U hU hW => ⟨rfl, WdC.pre hP hK hD hN hU hW⟩)⟩ rfl rfl hl.1 rfl (lv_room (Nat.le_of_ble_eq_true rfl)) dX2_greeting_2 ⟨le_R hRc (Nat.le_refl 0), le_R hRs (Nat.le_refl 0)⟩) hS (fun σ1 H locs hr1 hP hD hS => ?_)
  have hv := hv σ1 hr1
  refine lv_aload_n hx hb dX2_greeting_5 rfl (lv_at hl 0 rfl) ?_
  obtain ⟨heq, hv⟩ := hv
  obtain ⟨⟨hq, hc⟩, hv⟩ := hv
  have hk2 : W p l e R s m ([.ref ((hget σ0 q_).1), .ref (ad 10)] : List Value).toArray below meth c H locs 0 0 Z (F0 m (6 + 3) ls [.int ((hget σ0 q_).2.2.1)]) := by
    rw [hZ]; rw [hQ] at hv
    exact W.iret (v := (hget σ0 q_).2.2.1) hx hb hr (fun t ht hW => ⟨⟨(hget σ0 q_).2.2.1, σ1, rfl, hv, ⟨P_of ht hP, hD⟩⟩, hS.F ht⟩) hS.2.2 dX2_greeting_9
  rcases hc with hc | hc | hc
  · exact va_get (ci := 0) (v := .int ((hget σ0 q_).2.2.1)) (C := RX0) (T := TX0) (N := 3) hx hb hts hinX0 hown hK hP (28 + q_) (wC_hd cy ad heq hq hc) rfl 0 (by decide) (hts (.fieldLink RX2 7 "TaleBans$Herder" "number" "I") (List.mem_of_getElem? (i := 1) rfl)) (fun x h => h) rfl dX2_greeting_6 hk2
  · exact va_get (ci := 1) (v := .int ((hget σ0 q_).2.2.1)) (C := RX1) (T := TX1) (N := 3) hx hb hts hinX1 hown hK hP (28 + q_) (wC_hd cy ad heq hq hc) rfl 0 (by decide) (hts (.fieldLink RX2 7 "TaleBans$Herder" "number" "I") (List.mem_of_getElem? (i := 1) rfl)) (fun x h => h) rfl dX2_greeting_6 hk2
  · exact va_get (ci := 2) (v := .int ((hget σ0 q_).2.2.1)) (C := RX2) (T := TX2) (N := 3) hx hb hts hinX2 hown hK hP (28 + q_) (wC_hd cy ad heq hq hc) rfl 0 (by decide) (hts (.fieldLink RX2 7 "TaleBans$Herder" "number" "I") (List.mem_of_getElem? (i := 1) rfl)) (fun x h => h) rfl dX2_greeting_6 hk2
set_option maxHeartbeats 4000000 in
set_option maxRecDepth 100000 in
theorem wk_X0_kind (l : Launch) (sp : ∀ (q_ : Nat) (σ0 : S_), pre_X0_kind q_ σ0 → vc_X0_kind q_ σ0 (fun r => r = fn_X0_kind q_ σ0)) : Ct_X0_kind l := by
  intro D cy ad A q_  σ0  hpre
  refine Met.ofW (cc := cX0_kind) (maxL := 1) (ret := (some .int)) (by decide) rfl ?_
  intro p e s m args below meth c s₁ B hml hv0
  obtain ⟨rfl, hP, hK, hD, hN⟩ := hv0
  have hx := B.exec
  have hb := B.bytes
  have hr := B.returns
  have hts := atoms_spec (ws := wsX0_kind) B.pre
  have hown : s.vm.findClass RX0 = some m.cls := findClass_of_methodNamed B.named
  have hlocks := B.notSynchronized
  have hv := sp q_  σ0 hpre
  have hl := lv_entry ([.ref ((hget σ0 q_).1)]) (n := 1) (Nat.le_of_ble_eq_true rfl)
  rw [lg_entry_eq]
  generalize (lg_sl ([.ref ((hget σ0 q_).1)]) ++ List.replicate (1 - (lg_sl ([.ref ((hget σ0 q_).1)])).length) Slot.unset).toArray = ls at hl ⊢
  have hl : lv_has ls 1 [(0, .ref ((hget σ0 q_).1))] := hl
  refine W_gen (fun R Z H locs hR hZ hH hlo => ?_)
  have hRf : R.frames = 0 := by rw [hR]; rfl
  have hRl : R.locals = 0 := by rw [hR]; rfl
  have hRc : R.cells = 0 := by rw [hR]; rfl
  have hRs : R.slots = 0 := by rw [hR]; rfl
  have hS : va_S A s.heap H locs := by rw [hH, hlo]; exact va_S.rf
  rw [← hH] at hP
  obtain ⟨Q, hQ⟩ : ∃ q : Int32 → Prop, q = (fun r => r = fn_X0_kind q_ σ0) := ⟨_, rfl⟩
  rw [← hQ] at hv
  refine lv_iconst (v := 1) hx hb dX0_kind_0 (by decide) ?_
  rw [hZ]; rw [hQ] at hv
  exact W.iret (v := 1) hx hb hr (fun t ht hW => ⟨⟨1, (), rfl, hv, (P_of ht hP)⟩, hS.F ht⟩) hS.2.2 dX0_kind_1
set_option maxHeartbeats 4000000 in
set_option maxRecDepth 100000 in
theorem wk_X0_memory (l : Launch) (h_X2_memory : Ct_X2_memory l) (sp : ∀ (q_ : Nat) (σ0 : S_), pre_X0_memory q_ σ0 → vc_X0_memory q_ σ0 (fun r => r = fn_X0_memory q_ σ0)) : Ct_X0_memory l := by
  intro D cy ad A q_  σ0  hpre
  refine Met.ofW (cc := cX0_memory) (maxL := 1) (ret := (some .int)) (by decide) rfl ?_
  intro p e s m args below meth c s₁ B hml hv0
  obtain ⟨rfl, hP, hK, hD, hN⟩ := hv0
  have hx := B.exec
  have hb := B.bytes
  have hr := B.returns
  have hts := atoms_spec (ws := wsX0_memory) B.pre
  have hown : s.vm.findClass RX0 = some m.cls := findClass_of_methodNamed B.named
  have hlocks := B.notSynchronized
  have hv := sp q_  σ0 hpre
  have hl := lv_entry ([.ref ((hget σ0 q_).1)]) (n := 1) (Nat.le_of_ble_eq_true rfl)
  rw [lg_entry_eq]
  generalize (lg_sl ([.ref ((hget σ0 q_).1)]) ++ List.replicate (1 - (lg_sl ([.ref ((hget σ0 q_).1)])).length) Slot.unset).toArray = ls at hl ⊢
  have hl : lv_has ls 1 [(0, .ref ((hget σ0 q_).1))] := hl
  refine W_gen (fun R Z H locs hR hZ hH hlo => ?_)
  have hRf : R.frames = 1 := by rw [hR]; rfl
  have hRl : R.locals = 20 := by rw [hR]; rfl
  have hRc : R.cells = 0 := by rw [hR]; rfl
  have hRs : R.slots = 0 := by rw [hR]; rfl
  have hS : va_S A s.heap H locs := by rw [hH, hlo]; exact va_S.rf
  rw [← hH] at hP
  obtain ⟨Q, hQ⟩ : ∃ q : Int32 → Prop, q = (fun r => r = fn_X0_memory q_ σ0) := ⟨_, rfl⟩
  rw [← hQ] at hv
  refine lv_aload_n hx hb dX0_memory_0 rfl (lv_at hl 0 rfl) ?_
  obtain ⟨⟨hq, hc⟩, hv⟩ := hv
  have hk1 : ∀ (r : Int32) (H : Heap) (locs : List Loc), r = (fn_X2_memory q_ σ0) → va_P D vwCl (wC cy ad σ0) H → va_S A s.heap H locs → W p l e R s m ([.ref ((hget σ0 q_).1)] : List Value).toArray below meth c H locs 0 0 Z (F0 m (1 + 3) ls (.int r :: [])) := by
    intro r H locs hr1 hP hS
    subst hr1
    refine lv_iconst (v := 2) hx hb dX0_memory_4 (by decide) ?_
    refine lv_iadd hx hb dX0_memory_5 ?_
    rw [hZ]; rw [hQ] at hv
    exact W.iret (v := ((fn_X2_memory q_ σ0) + 2)) hx hb hr (fun t ht hW => ⟨⟨((fn_X2_memory q_ σ0) + 2), (), rfl, hv, (P_of ht hP)⟩, hS.F ht⟩) hS.2.2 dX0_memory_6
  rcases hc with hc | hc
  · exact k_read_i (w := wC cy ad) (va_runSU (As := []) (rest := []) ⟨hx, hb, hml, hown, hts⟩ (h_X2_memory D cy ad A q_ σ0 ⟨hq, isC_0 hc⟩) (va_cwSU 0 hts gX0_memory_X2_memory_s7 rfl rfl rfl (by decide +kernel) ⟨le_R hRf (Nat.le_of_ble_eq_true rfl), le_R hRl (Nat.le_of_ble_eq_true rfl)⟩) ⟨(fun a U g mk q => ⟨q.1, q.2.blind⟩), va_recv hK hP (ci := 0) (q0 := 28 + q_) rfl (wC_hd cy ad rfl hq hc), (fun U hU hW => ⟨rfl, WdC.pre hP hK hD hN hU hW⟩)⟩ rfl rfl hl.1 rfl (lv_room (Nat.le_of_ble_eq_true rfl)) dX0_memory_1 ⟨le_R hRc (Nat.le_refl 0), le_R hRs (Nat.le_refl 0)⟩) hS (fun r H locs hr1 hP hS => hk1 r H locs (hr1) hP hS)
  · exact k_read_i (w := wC cy ad) (va_runSU (As := []) (rest := []) ⟨hx, hb, hml, hown, hts⟩ (h_X2_memory D cy ad A q_ σ0 ⟨hq, isC_1 hc⟩) (va_cwSU 0 hts gX0_memory_X2_memory_s7 rfl rfl rfl (by decide +kernel) ⟨le_R hRf (Nat.le_of_ble_eq_true rfl), le_R hRl (Nat.le_of_ble_eq_true rfl)⟩) ⟨(fun a U g mk q => ⟨q.1, q.2.blind⟩), va_recv hK hP (ci := 1) (q0 := 28 + q_) rfl (wC_hd cy ad rfl hq hc), (fun U hU hW => ⟨rfl, WdC.pre hP hK hD hN hU hW⟩)⟩ rfl rfl hl.1 rfl (lv_room (Nat.le_of_ble_eq_true rfl)) dX0_memory_1 ⟨le_R hRc (Nat.le_refl 0), le_R hRs (Nat.le_refl 0)⟩) hS (fun r H locs hr1 hP hS => hk1 r H locs (hr1) hP hS)
set_option maxHeartbeats 4000000 in
set_option maxRecDepth 100000 in
theorem wk_X0_telling (l : Launch) (h_X2_telling : Ct_X2_telling l) (h_X7_leave : Ct_X7_leave l) (sp : ∀ (q_ : Nat) (σ0 : S_), pre_X0_telling q_ σ0 → vc_X0_telling q_ σ0 (post_X0_telling q_ σ0)) : Ct_X0_telling l := by
  intro D cy ad A q_  σ0  hpre
  refine Met.ofW (cc := cX0_telling) (maxL := 2) (ret := (some .int)) (by decide) rfl ?_
  intro p e s m args below meth c s₁ B hml hv0
  obtain ⟨rfl, hP, hK, hD, hN⟩ := hv0
  have hx := B.exec
  have hb := B.bytes
  have hr := B.returns
  have hts := atoms_spec (ws := wsX0_telling) B.pre
  have hown : s.vm.findClass RX0 = some m.cls := findClass_of_methodNamed B.named
  have hlocks := B.notSynchronized
  have hv := sp q_  σ0 hpre
  have hl := lv_entry ([.ref ((hget σ0 q_).1), .ref (ad 10)]) (n := 2) (Nat.le_of_ble_eq_true rfl)
  rw [lg_entry_eq]
  generalize (lg_sl ([.ref ((hget σ0 q_).1), .ref (ad 10)]) ++ List.replicate (2 - (lg_sl ([.ref ((hget σ0 q_).1), .ref (ad 10)])).length) Slot.unset).toArray = ls at hl ⊢
  have hl : lv_has ls 2 [(0, .ref ((hget σ0 q_).1)), (1, .ref (ad 10))] := hl
  refine W_gen (fun R Z H locs hR hZ hH hlo => ?_)
  have hRf : R.frames = 3 := by rw [hR]; rfl
  have hRl : R.locals = 63 := by rw [hR]; rfl
  have hRc : R.cells = 0 := by rw [hR]; rfl
  have hRs : R.slots = 0 := by rw [hR]; rfl
  have hS : va_S A s.heap H locs := by rw [hH, hlo]; exact va_S.rf
  rw [← hH] at hP
  obtain ⟨Q, hQ⟩ : ∃ q : Int32 → S_ → Prop, q = (post_X0_telling q_  σ0) := ⟨_, rfl⟩
  rw [← hQ] at hv
  refine lv_aload_n hx hb dX0_telling_0 rfl (lv_at hl 1 rfl) ?_
  refine lv_iconst (v := 2) hx hb dX0_telling_1 (by decide) ?_
  have hp := True.intro
  refine k_rel_v (w := wC cy ad) (va_runVN (As := [.int 2]) (rest := []) ⟨hx, hb, hml, hown, hts⟩ (h_X7_leave D cy ad A 2 σ0 hp) ⟨va_cnB 1 hts gX0_telling_X7_leave_n11 rfl rfl rfl (nwm_68 hN) (hts (.initialized RX7) (List.mem_of_getElem? (i := 2) rfl)) (by decide +kernel) ⟨le_R hRf (Nat.le_of_ble_eq_true rfl), le_R hRl (Nat.le_of_ble_eq_true rfl)⟩, (hts (.instanceMethod yX7_leave) (List.mem_of_getElem? (i := 1) rfl)), (hts (.selects RX7 yX7_leave yX7_leave) (List.mem_of_getElem? (i := 3) rfl))⟩ ⟨(fun a U g mk q => ⟨q.1, q.2.blind⟩), va_recv hK hP (ci := 7) (q0 := 10) rfl (wC_10 cy ad σ0), (fun U hU hW => ⟨rfl, WdC.pre hP hK hD hN hU hW⟩)⟩ rfl rfl hl.1 rfl (lv_room (Nat.le_of_ble_eq_true rfl)) dX0_telling_2 ⟨le_R hRc (Nat.le_refl 0), le_R hRs (Nat.le_refl 0)⟩) hS (fun σ1 H locs hr1 hP hD hS => ?_)
  have hv := hv σ1 hr1
  refine lv_aload_n hx hb dX0_telling_5 rfl (lv_at hl 0 rfl) ?_
  refine lv_aload_n hx hb dX0_telling_6 rfl (lv_at hl 1 rfl) ?_
  obtain ⟨heq, hv⟩ := hv
  obtain ⟨⟨hq, hc⟩, hv⟩ := hv
  have hk2 : ∀ (r3 : Int32) (σ4 : S_) (H : Heap) (locs : List Loc), post_X2_telling q_ σ1 r3 σ4 → va_P D vwCl (wC cy ad σ4) H → va_D A (wC cy ad σ4) → va_S A s.heap H locs → W p l e R s m ([.ref ((hget σ0 q_).1), .ref (ad 10)] : List Value).toArray below meth c H locs 0 0 Z (F0 m (7 + 3) ls (.int r3 :: [])) := by
    intro r3 σ4 H locs hr1 hP hD hS
    have hv := hv r3 σ4 hr1
    refine lv_bipush (v := 100) hx hb dX0_telling_10 (by decide) ?_
    refine lv_iadd hx hb dX0_telling_12 ?_
    rw [hZ]; rw [hQ] at hv
    exact W.iret (v := (r3 + 100)) hx hb hr (fun t ht hW => ⟨⟨(r3 + 100), σ4, rfl, hv, ⟨P_of ht hP, hD⟩⟩, hS.F ht⟩) hS.2.2 dX0_telling_13
  rcases hc with hc | hc
  · exact k_rel_i (w := wC cy ad) (va_runSU (As := [.ref (ad 10)]) (rest := []) ⟨hx, hb, hml, hown, hts⟩ (h_X2_telling D cy ad A q_ σ1 ⟨hq, heq.symm ▸ isC_0 hc⟩) (va_cwSU 1 hts gX0_telling_X2_telling_s17 rfl rfl rfl (by decide +kernel) ⟨le_R hRf (Nat.le_of_ble_eq_true rfl), le_R hRl (Nat.le_of_ble_eq_true rfl)⟩) ⟨(fun a U g mk q => ⟨q.1, q.2.blind⟩), va_recv hK hP (ci := 0) (q0 := 28 + q_) rfl (wC_hd cy ad heq hq hc), (fun U hU hW => ⟨by rw [heq], WdC.pre hP hK hD hN hU hW⟩)⟩ rfl rfl hl.1 rfl (lv_room (Nat.le_of_ble_eq_true rfl)) dX0_telling_7 ⟨le_R hRc (Nat.le_refl 0), le_R hRs (Nat.le_refl 0)⟩) hS (fun r σ H locs hr1 hP hD hS => hk2 r σ H locs (hr1) hP hD hS)
  · exact k_rel_i (w := wC cy ad) (va_runSU (As := [.ref (ad 10)]) (rest := []) ⟨hx, hb, hml, hown, hts⟩ (h_X2_telling D cy ad A q_ σ1 ⟨hq, heq.symm ▸ isC_1 hc⟩) (va_cwSU 1 hts gX0_telling_X2_telling_s17 rfl rfl rfl (by decide +kernel) ⟨le_R hRf (Nat.le_of_ble_eq_true rfl), le_R hRl (Nat.le_of_ble_eq_true rfl)⟩) ⟨(fun a U g mk q => ⟨q.1, q.2.blind⟩), va_recv hK hP (ci := 1) (q0 := 28 + q_) rfl (wC_hd cy ad heq hq hc), (fun U hU hW => ⟨by rw [heq], WdC.pre hP hK hD hN hU hW⟩)⟩ rfl rfl hl.1 rfl (lv_room (Nat.le_of_ble_eq_true rfl)) dX0_telling_7 ⟨le_R hRc (Nat.le_refl 0), le_R hRs (Nat.le_refl 0)⟩) hS (fun r σ H locs hr1 hP hD hS => hk2 r σ H locs (hr1) hP hD hS)
set_option maxHeartbeats 4000000 in
set_option maxRecDepth 100000 in
theorem wk_X1_kind (l : Launch) (sp : ∀ (q_ : Nat) (σ0 : S_), pre_X1_kind q_ σ0 → vc_X1_kind q_ σ0 (fun r => r = fn_X1_kind q_ σ0)) : Ct_X1_kind l := by
  intro D cy ad A q_  σ0  hpre
  refine Met.ofW (cc := cX1_kind) (maxL := 1) (ret := (some .int)) (by decide) rfl ?_
  intro p e s m args below meth c s₁ B hml hv0
  obtain ⟨rfl, hP, hK, hD, hN⟩ := hv0
  have hx := B.exec
  have hb := B.bytes
  have hr := B.returns
  have hts := atoms_spec (ws := wsX1_kind) B.pre
  have hown : s.vm.findClass RX1 = some m.cls := findClass_of_methodNamed B.named
  have hlocks := B.notSynchronized
  have hv := sp q_  σ0 hpre
  have hl := lv_entry ([.ref ((hget σ0 q_).1)]) (n := 1) (Nat.le_of_ble_eq_true rfl)
  rw [lg_entry_eq]
  generalize (lg_sl ([.ref ((hget σ0 q_).1)]) ++ List.replicate (1 - (lg_sl ([.ref ((hget σ0 q_).1)])).length) Slot.unset).toArray = ls at hl ⊢
  have hl : lv_has ls 1 [(0, .ref ((hget σ0 q_).1))] := hl
  refine W_gen (fun R Z H locs hR hZ hH hlo => ?_)
  have hRf : R.frames = 0 := by rw [hR]; rfl
  have hRl : R.locals = 0 := by rw [hR]; rfl
  have hRc : R.cells = 0 := by rw [hR]; rfl
  have hRs : R.slots = 0 := by rw [hR]; rfl
  have hS : va_S A s.heap H locs := by rw [hH, hlo]; exact va_S.rf
  rw [← hH] at hP
  obtain ⟨Q, hQ⟩ : ∃ q : Int32 → Prop, q = (fun r => r = fn_X1_kind q_ σ0) := ⟨_, rfl⟩
  rw [← hQ] at hv
  refine lv_iconst (v := 2) hx hb dX1_kind_0 (by decide) ?_
  rw [hZ]; rw [hQ] at hv
  exact W.iret (v := 2) hx hb hr (fun t ht hW => ⟨⟨2, (), rfl, hv, (P_of ht hP)⟩, hS.F ht⟩) hS.2.2 dX1_kind_1
set_option maxHeartbeats 4000000 in
set_option maxRecDepth 100000 in
theorem wk_X1_memory (l : Launch) (h_X0_memory : Ct_X0_memory l) (sp : ∀ (q_ : Nat) (σ0 : S_), pre_X1_memory q_ σ0 → vc_X1_memory q_ σ0 (fun r => r = fn_X1_memory q_ σ0)) : Ct_X1_memory l := by
  intro D cy ad A q_  σ0  hpre
  refine Met.ofW (cc := cX1_memory) (maxL := 1) (ret := (some .int)) (by decide) rfl ?_
  intro p e s m args below meth c s₁ B hml hv0
  obtain ⟨rfl, hP, hK, hD, hN⟩ := hv0
  have hx := B.exec
  have hb := B.bytes
  have hr := B.returns
  have hts := atoms_spec (ws := wsX1_memory) B.pre
  have hown : s.vm.findClass RX1 = some m.cls := findClass_of_methodNamed B.named
  have hlocks := B.notSynchronized
  have hv := sp q_  σ0 hpre
  have hl := lv_entry ([.ref ((hget σ0 q_).1)]) (n := 1) (Nat.le_of_ble_eq_true rfl)
  rw [lg_entry_eq]
  generalize (lg_sl ([.ref ((hget σ0 q_).1)]) ++ List.replicate (1 - (lg_sl ([.ref ((hget σ0 q_).1)])).length) Slot.unset).toArray = ls at hl ⊢
  have hl : lv_has ls 1 [(0, .ref ((hget σ0 q_).1))] := hl
  refine W_gen (fun R Z H locs hR hZ hH hlo => ?_)
  have hRf : R.frames = 2 := by rw [hR]; rfl
  have hRl : R.locals = 40 := by rw [hR]; rfl
  have hRc : R.cells = 0 := by rw [hR]; rfl
  have hRs : R.slots = 0 := by rw [hR]; rfl
  have hS : va_S A s.heap H locs := by rw [hH, hlo]; exact va_S.rf
  rw [← hH] at hP
  obtain ⟨Q, hQ⟩ : ∃ q : Int32 → Prop, q = (fun r => r = fn_X1_memory q_ σ0) := ⟨_, rfl⟩
  rw [← hQ] at hv
  refine lv_iconst (v := 2) hx hb dX1_memory_0 (by decide) ?_
  refine lv_aload_n hx hb dX1_memory_1 rfl (lv_at hl 0 rfl) ?_
  obtain ⟨⟨hq, hc⟩, hv⟩ := hv
  have hk1 : ∀ (r : Int32) (H : Heap) (locs : List Loc), r = (fn_X0_memory q_ σ0) → va_P D vwCl (wC cy ad σ0) H → va_S A s.heap H locs → W p l e R s m ([.ref ((hget σ0 q_).1)] : List Value).toArray below meth c H locs 0 0 Z (F0 m (2 + 3) ls (.int r :: [.int 2])) := by
    intro r H locs hr1 hP hS
    subst hr1
    refine lv_imul hx hb dX1_memory_5 ?_
    rw [hZ]; rw [hQ] at hv
    exact W.iret (v := (2 * (fn_X0_memory q_ σ0))) hx hb hr (fun t ht hW => ⟨⟨(2 * (fn_X0_memory q_ σ0)), (), rfl, hv, (P_of ht hP)⟩, hS.F ht⟩) hS.2.2 dX1_memory_6
  exact k_read_i (w := wC cy ad) (va_runSU (As := []) (rest := [.int 2]) ⟨hx, hb, hml, hown, hts⟩ (h_X0_memory D cy ad A q_ σ0 ⟨hq, Or.inr hc⟩) (va_cwSU 0 hts gX1_memory_X0_memory_s7 rfl rfl rfl (by decide +kernel) ⟨le_R hRf (Nat.le_of_ble_eq_true rfl), le_R hRl (Nat.le_of_ble_eq_true rfl)⟩) ⟨(fun a U g mk q => ⟨q.1, q.2.blind⟩), va_recv hK hP (ci := 1) (q0 := 28 + q_) rfl (wC_hd cy ad rfl hq hc), (fun U hU hW => ⟨rfl, WdC.pre hP hK hD hN hU hW⟩)⟩ rfl rfl hl.1 rfl (lv_room (Nat.le_of_ble_eq_true rfl)) dX1_memory_2 ⟨le_R hRc (Nat.le_refl 0), le_R hRs (Nat.le_refl 0)⟩) hS (fun r H locs hr1 hP hS => hk1 r H locs (hr1) hP hS)
set_option maxHeartbeats 4000000 in
set_option maxRecDepth 100000 in
theorem wk_X1_telling (l : Launch) (h_X0_telling : Ct_X0_telling l) (h_X2_herderTelling : Ct_X2_herderTelling l) (h_X7_leave : Ct_X7_leave l) (sp : ∀ (q_ : Nat) (σ0 : S_), pre_X1_telling q_ σ0 → vc_X1_telling q_ σ0 (post_X1_telling q_ σ0)) : Ct_X1_telling l := by
  intro D cy ad A q_  σ0  hpre
  refine Met.ofW (cc := cX1_telling) (maxL := 3) (ret := (some .int)) (by decide) rfl ?_
  intro p e s m args below meth c s₁ B hml hv0
  obtain ⟨rfl, hP, hK, hD, hN⟩ := hv0
  have hx := B.exec
  have hb := B.bytes
  have hr := B.returns
  have hts := atoms_spec (ws := wsX1_telling) B.pre
  have hown : s.vm.findClass RX1 = some m.cls := findClass_of_methodNamed B.named
  have hlocks := B.notSynchronized
  have hv := sp q_  σ0 hpre
  have hl := lv_entry ([.ref ((hget σ0 q_).1), .ref (ad 10)]) (n := 3) (Nat.le_of_ble_eq_true rfl)
  rw [lg_entry_eq]
  generalize (lg_sl ([.ref ((hget σ0 q_).1), .ref (ad 10)]) ++ List.replicate (3 - (lg_sl ([.ref ((hget σ0 q_).1), .ref (ad 10)])).length) Slot.unset).toArray = ls at hl ⊢
  have hl : lv_has ls 3 [(0, .ref ((hget σ0 q_).1)), (1, .ref (ad 10))] := hl
  refine W_gen (fun R Z H locs hR hZ hH hlo => ?_)
  have hRf : R.frames = 4 := by rw [hR]; rfl
  have hRl : R.locals = 84 := by rw [hR]; rfl
  have hRc : R.cells = 0 := by rw [hR]; rfl
  have hRs : R.slots = 0 := by rw [hR]; rfl
  have hS : va_S A s.heap H locs := by rw [hH, hlo]; exact va_S.rf
  rw [← hH] at hP
  obtain ⟨Q, hQ⟩ : ∃ q : Int32 → S_ → Prop, q = (post_X1_telling q_  σ0) := ⟨_, rfl⟩
  rw [← hQ] at hv
  refine lv_aload_n hx hb dX1_telling_0 rfl (lv_at hl 1 rfl) ?_
  refine lv_iconst (v := 3) hx hb dX1_telling_1 (by decide) ?_
  have hp := True.intro
  refine k_rel_v (w := wC cy ad) (va_runVN (As := [.int 3]) (rest := []) ⟨hx, hb, hml, hown, hts⟩ (h_X7_leave D cy ad A 3 σ0 hp) ⟨va_cnB 1 hts gX1_telling_X7_leave_n11 rfl rfl rfl (nwm_69 hN) (hts (.initialized RX7) (List.mem_of_getElem? (i := 2) rfl)) (by decide +kernel) ⟨le_R hRf (Nat.le_of_ble_eq_true rfl), le_R hRl (Nat.le_of_ble_eq_true rfl)⟩, (hts (.instanceMethod yX7_leave) (List.mem_of_getElem? (i := 1) rfl)), (hts (.selects RX7 yX7_leave yX7_leave) (List.mem_of_getElem? (i := 3) rfl))⟩ ⟨(fun a U g mk q => ⟨q.1, q.2.blind⟩), va_recv hK hP (ci := 7) (q0 := 10) rfl (wC_10 cy ad σ0), (fun U hU hW => ⟨rfl, WdC.pre hP hK hD hN hU hW⟩)⟩ rfl rfl hl.1 rfl (lv_room (Nat.le_of_ble_eq_true rfl)) dX1_telling_2 ⟨le_R hRc (Nat.le_refl 0), le_R hRs (Nat.le_refl 0)⟩) hS (fun σ1 H locs hr1 hP hD hS => ?_)
  have hv := hv σ1 hr1
  refine lv_aload_n hx hb dX1_telling_5 rfl (lv_at hl 0 rfl) ?_
  refine lv_aload_n hx hb dX1_telling_6 rfl (lv_at hl 1 rfl) ?_
  obtain ⟨heq, hv⟩ := hv
  obtain ⟨⟨hq, hc⟩, hv⟩ := hv
  have hk2 : ∀ (r3 : Int32) (σ4 : S_) (H : Heap) (locs : List Loc), post_X0_telling q_ σ1 r3 σ4 → va_P D vwCl (wC cy ad σ4) H → va_D A (wC cy ad σ4) → va_S A s.heap H locs → W p l e R s m ([.ref ((hget σ0 q_).1), .ref (ad 10)] : List Value).toArray below meth c H locs 0 0 Z (F0 m (7 + 3) ls (.int r3 :: [])) := by
    intro r3 σ4 H locs hr1 hP hD hS
    have hv := hv r3 σ4 hr1
    refine lv_istore_n (lv' := [(2, .int r3), (0, .ref ((hget σ0 q_).1)), (1, .ref (ad 10))]) hx hb dX1_telling_10 rfl hl (by decide) rfl (fun ls hl => ?_)
    refine lv_iload_n hx hb dX1_telling_11 rfl (lv_at hl 0 rfl) ?_
    refine lv_aload_n hx hb dX1_telling_12 rfl (lv_at hl 1 rfl) ?_
    refine lv_aload_n hx hb dX1_telling_13 rfl (lv_at hl 2 rfl) ?_
    obtain ⟨heq, hv⟩ := hv
    obtain ⟨⟨hq, hc⟩, hv⟩ := hv
    have hk5 : ∀ (r6 : Int32) (σ7 : S_) (H : Heap) (locs : List Loc), post_X2_herderTelling q_ σ4 r6 σ7 → va_P D vwCl (wC cy ad σ7) H → va_D A (wC cy ad σ7) → va_S A s.heap H locs → W p l e R s m ([.ref ((hget σ0 q_).1), .ref (ad 10)] : List Value).toArray below meth c H locs 0 0 Z (F0 m (14 + 3) ls (.int r6 :: [.int r3])) := by
      intro r6 σ7 H locs hr1 hP hD hS
      have hv := hv r6 σ7 hr1
      refine lv_iadd hx hb dX1_telling_17 ?_
      rw [hZ]; rw [hQ] at hv
      exact W.iret (v := (r3 + r6)) hx hb hr (fun t ht hW => ⟨⟨(r3 + r6), σ7, rfl, hv, ⟨P_of ht hP, hD⟩⟩, hS.F ht⟩) hS.2.2 dX1_telling_18
    exact k_rel_i (w := wC cy ad) (va_runU (As := [.ref (ad 10)]) (rest := [.int r3]) ⟨hx, hb, hml, hown, hts⟩ (h_X2_herderTelling D cy ad A q_ σ4 ⟨hq, heq.symm ▸ isC_1 hc⟩) (va_cwU 1 hts gX1_telling_X2_herderTelling_u21X1 rfl rfl rfl rfl (by decide +kernel) ⟨le_R hRf (Nat.le_of_ble_eq_true rfl), le_R hRl (Nat.le_of_ble_eq_true rfl)⟩) ⟨(fun a U g mk q => ⟨q.1, q.2.blind⟩), va_recv hK hP (ci := 1) (q0 := 28 + q_) rfl (wC_hd cy ad heq hq hc), (fun U hU hW => ⟨by rw [heq], WdC.pre hP hK hD hN hU hW⟩)⟩ rfl rfl hl.1 rfl (lv_room (Nat.le_of_ble_eq_true rfl)) dX1_telling_14 ⟨le_R hRc (Nat.le_refl 0), le_R hRs (Nat.le_refl 0)⟩) hS (fun r σ H locs hr1 hP hD hS => hk5 r σ H locs (hr1) hP hD hS)
  exact k_rel_i (w := wC cy ad) (va_runSU (As := [.ref (ad 10)]) (rest := []) ⟨hx, hb, hml, hown, hts⟩ (h_X0_telling D cy ad A q_ σ1 ⟨hq, heq.symm ▸ Or.inr hc⟩) (va_cwSU 1 hts gX1_telling_X0_telling_s17 rfl rfl rfl (by decide +kernel) ⟨le_R hRf (Nat.le_of_ble_eq_true rfl), le_R hRl (Nat.le_of_ble_eq_true rfl)⟩) ⟨(fun a U g mk q => ⟨q.1, q.2.blind⟩), va_recv hK hP (ci := 1) (q0 := 28 + q_) rfl (wC_hd cy ad heq hq hc), (fun U hU hW => ⟨by rw [heq], WdC.pre hP hK hD hN hU hW⟩)⟩ rfl rfl hl.1 rfl (lv_room (Nat.le_of_ble_eq_true rfl)) dX1_telling_7 ⟨le_R hRc (Nat.le_refl 0), le_R hRs (Nat.le_refl 0)⟩) hS (fun r σ H locs hr1 hP hD hS => hk2 r σ H locs (hr1) hP hD hS)
set_option maxHeartbeats 4000000 in
set_option maxRecDepth 100000 in
theorem wk_X1_greeting (l : Launch) (h_X7_leave : Ct_X7_leave l) (sp : ∀ (q_ : Nat) (σ0 : S_), pre_X1_greeting q_ σ0 → vc_X1_greeting q_ σ0 (post_X1_greeting q_ σ0)) : Ct_X1_greeting l := by
  intro D cy ad A q_  σ0  hpre
  refine Met.ofW (cc := cX1_greeting) (maxL := 2) (ret := (some .int)) (by decide) rfl ?_
  intro p e s m args below meth c s₁ B hml hv0
  obtain ⟨rfl, hP, hK, hD, hN⟩ := hv0
  have hx := B.exec
  have hb := B.bytes
  have hr := B.returns
  have hts := atoms_spec (ws := wsX1_greeting) B.pre
  have hown : s.vm.findClass RX1 = some m.cls := findClass_of_methodNamed B.named
  have hlocks := B.notSynchronized
  have hv := sp q_  σ0 hpre
  have hl := lv_entry ([.ref ((hget σ0 q_).1), .ref (ad 10)]) (n := 2) (Nat.le_of_ble_eq_true rfl)
  rw [lg_entry_eq]
  generalize (lg_sl ([.ref ((hget σ0 q_).1), .ref (ad 10)]) ++ List.replicate (2 - (lg_sl ([.ref ((hget σ0 q_).1), .ref (ad 10)])).length) Slot.unset).toArray = ls at hl ⊢
  have hl : lv_has ls 2 [(0, .ref ((hget σ0 q_).1)), (1, .ref (ad 10))] := hl
  refine W_gen (fun R Z H locs hR hZ hH hlo => ?_)
  have hRf : R.frames = 1 := by rw [hR]; rfl
  have hRl : R.locals = 21 := by rw [hR]; rfl
  have hRc : R.cells = 0 := by rw [hR]; rfl
  have hRs : R.slots = 0 := by rw [hR]; rfl
  have hS : va_S A s.heap H locs := by rw [hH, hlo]; exact va_S.rf
  rw [← hH] at hP
  obtain ⟨Q, hQ⟩ : ∃ q : Int32 → S_ → Prop, q = (post_X1_greeting q_  σ0) := ⟨_, rfl⟩
  rw [← hQ] at hv
  refine lv_aload_n hx hb dX1_greeting_0 rfl (lv_at hl 1 rfl) ?_
  refine lv_iconst (v := 5) hx hb dX1_greeting_1 (by decide) ?_
  have hp := True.intro
  refine k_rel_v (w := wC cy ad) (va_runVN (As := [.int 5]) (rest := []) ⟨hx, hb, hml, hown, hts⟩ (h_X7_leave D cy ad A 5 σ0 hp) ⟨va_cnB 1 hts gX1_greeting_X7_leave_n11 rfl rfl rfl (nwm_69 hN) (hts (.initialized RX7) (List.mem_of_getElem? (i := 2) rfl)) (by decide +kernel) ⟨le_R hRf (Nat.le_of_ble_eq_true rfl), le_R hRl (Nat.le_of_ble_eq_true rfl)⟩, (hts (.instanceMethod yX7_leave) (List.mem_of_getElem? (i := 1) rfl)), (hts (.selects RX7 yX7_leave yX7_leave) (List.mem_of_getElem? (i := 3) rfl))⟩ ⟨(fun a U g mk q => ⟨q.1, q.2.blind⟩), va_recv hK hP (ci := 7) (q0 := 10) rfl (wC_10 cy ad σ0), (fun U hU hW => ⟨rfl, WdC.pre hP hK hD hN hU hW⟩)⟩ rfl rfl hl.1 rfl (lv_room (Nat.le_of_ble_eq_true rfl)) dX1_greeting_2 ⟨le_R hRc (Nat.le_refl 0), le_R hRs (Nat.le_refl 0)⟩) hS (fun σ1 H locs hr1 hP hD hS => ?_)
  have hv := hv σ1 hr1
  refine lv_bipush (v := 70) hx hb dX1_greeting_5 (by decide) ?_
  rw [hZ]; rw [hQ] at hv
  exact W.iret (v := 70) hx hb hr (fun t ht hW => ⟨⟨70, σ1, rfl, hv, ⟨P_of ht hP, hD⟩⟩, hS.F ht⟩) hS.2.2 dX1_greeting_7
set_option maxHeartbeats 4000000 in
set_option maxRecDepth 100000 in
theorem wk_J6_bitCount_0f7a4 (l : Launch) (sp : ∀ (x_ : Int32), vc_J6_bitCount_0f7a4 x_ (fun r => r = fn_J6_bitCount_0f7a4 x_)) : Ct_J6_bitCount_0f7a4 l := by
  intro x_
  refine Met.ofW (cc := cJ6_bitCount_0f7a4) (maxL := 1) (ret := (some .int)) (by decide) rfl ?_
  intro p e s m args below meth c s₁ B hml hv0
  obtain ⟨rfl, -⟩ := hv0
  have hx := B.exec
  have hb := B.bytes
  have hr := B.returns
  have hts := atoms_spec (ws := wsJ6_bitCount_0f7a4) B.pre
  have hown : s.vm.findClass RJ6 = some m.cls := findClass_of_methodNamed B.named
  have hlocks := B.notSynchronized
  have hv := sp x_
  have hl := lv_entry ([.int x_]) (n := 1) (Nat.le_of_ble_eq_true rfl)
  rw [lg_entry_eq]
  generalize (lg_sl ([.int x_]) ++ List.replicate (1 - (lg_sl ([.int x_])).length) Slot.unset).toArray = ls at hl ⊢
  have hl : lv_has ls 1 [(0, .int x_)] := hl
  refine W_gen (fun R Z H locs hR hZ hH hlo => ?_)
  have hRf : R.frames = 0 := by rw [hR]; rfl
  have hRl : R.locals = 0 := by rw [hR]; rfl
  have hRc : R.cells = 0 := by rw [hR]; rfl
  have hRs : R.slots = 0 := by rw [hR]; rfl
  have hS : va_S (fun _ => False) s.heap H locs := by rw [hH, hlo]; exact va_S.rf
  obtain ⟨Q, hQ⟩ : ∃ q : Int32 → Prop, q = (fun r => r = fn_J6_bitCount_0f7a4 x_) := ⟨_, rfl⟩
  rw [← hQ] at hv
  refine lv_iload_n hx hb dJ6_bitCount_0f7a4_0 rfl (lv_at hl 0 rfl) ?_
  refine lv_iload_n hx hb dJ6_bitCount_0f7a4_1 rfl (lv_at hl 0 rfl) ?_
  refine lv_iconst (v := 1) hx hb dJ6_bitCount_0f7a4_2 (by decide) ?_
  refine lv_iushr (v := (UInt32.toInt32 (Int32.toUInt32 x_ >>> (Int32.toUInt32 1 &&& Int32.toUInt32 31)))) hx hb dJ6_bitCount_0f7a4_3 rfl ?_
  refine lv_ldcw (v := (1431655765)) hx hb hown (hts (.constant RJ6 265 (1431655765)) (List.mem_of_getElem? (i := 1) rfl)) dJ6_bitCount_0f7a4_4 ?_
  refine lv_iand hx hb dJ6_bitCount_0f7a4_7 ?_
  refine lv_isub hx hb dJ6_bitCount_0f7a4_8 ?_
  refine lv_topi (fun x1 h10 => ?_)
  have hv := hv x1 h10
  refine lv_istore_n (lv' := [(0, .int x1)]) hx hb dJ6_bitCount_0f7a4_9 rfl hl (by decide) rfl (fun ls hl => ?_)
  refine lv_iload_n hx hb dJ6_bitCount_0f7a4_10 rfl (lv_at hl 0 rfl) ?_
  refine lv_ldcw (v := (858993459)) hx hb hown (hts (.constant RJ6 266 (858993459)) (List.mem_of_getElem? (i := 2) rfl)) dJ6_bitCount_0f7a4_11 ?_
  refine lv_iand hx hb dJ6_bitCount_0f7a4_14 ?_
  refine lv_iload_n hx hb dJ6_bitCount_0f7a4_15 rfl (lv_at hl 0 rfl) ?_
  refine lv_iconst (v := 2) hx hb dJ6_bitCount_0f7a4_16 (by decide) ?_
  refine lv_iushr (v := (UInt32.toInt32 (Int32.toUInt32 x1 >>> (Int32.toUInt32 2 &&& Int32.toUInt32 31)))) hx hb dJ6_bitCount_0f7a4_17 rfl ?_
  refine lv_ldcw (v := (858993459)) hx hb hown (hts (.constant RJ6 266 (858993459)) (List.mem_of_getElem? (i := 2) rfl)) dJ6_bitCount_0f7a4_18 ?_
  refine lv_iand hx hb dJ6_bitCount_0f7a4_21 ?_
  refine lv_iadd hx hb dJ6_bitCount_0f7a4_22 ?_
  refine lv_topi (fun x2 h9 => ?_)
  have hv := hv x2 h9
  refine lv_istore_n (lv' := [(0, .int x2)]) hx hb dJ6_bitCount_0f7a4_23 rfl hl (by decide) rfl (fun ls hl => ?_)
  refine lv_iload_n hx hb dJ6_bitCount_0f7a4_24 rfl (lv_at hl 0 rfl) ?_
  refine lv_iload_n hx hb dJ6_bitCount_0f7a4_25 rfl (lv_at hl 0 rfl) ?_
  refine lv_iconst (v := 4) hx hb dJ6_bitCount_0f7a4_26 (by decide) ?_
  refine lv_iushr (v := (UInt32.toInt32 (Int32.toUInt32 x2 >>> (Int32.toUInt32 4 &&& Int32.toUInt32 31)))) hx hb dJ6_bitCount_0f7a4_27 rfl ?_
  refine lv_iadd hx hb dJ6_bitCount_0f7a4_28 ?_
  refine lv_ldcw (v := (252645135)) hx hb hown (hts (.constant RJ6 267 (252645135)) (List.mem_of_getElem? (i := 3) rfl)) dJ6_bitCount_0f7a4_29 ?_
  refine lv_iand hx hb dJ6_bitCount_0f7a4_32 ?_
  refine lv_topi (fun x3 h8 => ?_)
  have hv := hv x3 h8
  refine lv_istore_n (lv' := [(0, .int x3)]) hx hb dJ6_bitCount_0f7a4_33 rfl hl (by decide) rfl (fun ls hl => ?_)
  refine lv_iload_n hx hb dJ6_bitCount_0f7a4_34 rfl (lv_at hl 0 rfl) ?_
  refine lv_iload_n hx hb dJ6_bitCount_0f7a4_35 rfl (lv_at hl 0 rfl) ?_
  refine lv_bipush (v := 8) hx hb dJ6_bitCount_0f7a4_36 (by decide) ?_
  refine lv_iushr (v := (UInt32.toInt32 (Int32.toUInt32 x3 >>> (Int32.toUInt32 8 &&& Int32.toUInt32 31)))) hx hb dJ6_bitCount_0f7a4_38 rfl ?_
  refine lv_iadd hx hb dJ6_bitCount_0f7a4_39 ?_
  refine lv_topi (fun x4 h7 => ?_)
  have hv := hv x4 h7
  refine lv_istore_n (lv' := [(0, .int x4)]) hx hb dJ6_bitCount_0f7a4_40 rfl hl (by decide) rfl (fun ls hl => ?_)
  refine lv_iload_n hx hb dJ6_bitCount_0f7a4_41 rfl (lv_at hl 0 rfl) ?_
  refine lv_iload_n hx hb dJ6_bitCount_0f7a4_42 rfl (lv_at hl 0 rfl) ?_
  refine lv_bipush (v := 16) hx hb dJ6_bitCount_0f7a4_43 (by decide) ?_
  refine lv_iushr (v := (UInt32.toInt32 (Int32.toUInt32 x4 >>> (Int32.toUInt32 16 &&& Int32.toUInt32 31)))) hx hb dJ6_bitCount_0f7a4_45 rfl ?_
  refine lv_iadd hx hb dJ6_bitCount_0f7a4_46 ?_
  refine lv_topi (fun x5 h6 => ?_)
  have hv := hv x5 h6
  refine lv_istore_n (lv' := [(0, .int x5)]) hx hb dJ6_bitCount_0f7a4_47 rfl hl (by decide) rfl (fun ls hl => ?_)
  refine lv_iload_n hx hb dJ6_bitCount_0f7a4_48 rfl (lv_at hl 0 rfl) ?_
  refine lv_bipush (v := 63) hx hb dJ6_bitCount_0f7a4_49 (by decide) ?_
  refine lv_iand hx hb dJ6_bitCount_0f7a4_51 ?_
  rw [hZ]; rw [hQ] at hv
  exact W.iret (v := (x5 &&& 63)) hx hb hr (fun t ht hW => ⟨⟨(x5 &&& 63), (), rfl, hv, trivial⟩, hS.F ht⟩) hS.2.2 dJ6_bitCount_0f7a4_52
set_option maxHeartbeats 4000000 in
set_option maxRecDepth 100000 in
theorem wk_X6_goesOn (l : Launch) (sp : ∀ (place_ : Int32) (code_ : Int32), vc_X6_goesOn place_ code_ (fun r => r = fn_X6_goesOn place_ code_)) : Ct_X6_goesOn l := by
  intro place_ code_
  refine Met.ofW (cc := cX6_goesOn) (maxL := 2) (ret := (some .boolean)) (by decide) rfl ?_
  intro p e s m args below meth c s₁ B hml hv0
  obtain ⟨rfl, -⟩ := hv0
  have hx := B.exec
  have hb := B.bytes
  have hr := B.returns
  have hts := atoms_spec (ws := wsX6_goesOn) B.pre
  have hown : s.vm.findClass RX6 = some m.cls := findClass_of_methodNamed B.named
  have hlocks := B.notSynchronized
  have hv := sp place_ code_
  have hl := lv_entry ([.int place_, .int code_]) (n := 2) (Nat.le_of_ble_eq_true rfl)
  rw [lg_entry_eq]
  generalize (lg_sl ([.int place_, .int code_]) ++ List.replicate (2 - (lg_sl ([.int place_, .int code_])).length) Slot.unset).toArray = ls at hl ⊢
  have hl : lv_has ls 2 [(0, .int place_), (1, .int code_)] := hl
  refine W_gen (fun R Z H locs hR hZ hH hlo => ?_)
  have hRf : R.frames = 0 := by rw [hR]; rfl
  have hRl : R.locals = 0 := by rw [hR]; rfl
  have hRc : R.cells = 0 := by rw [hR]; rfl
  have hRs : R.slots = 0 := by rw [hR]; rfl
  have hS : va_S (fun _ => False) s.heap H locs := by rw [hH, hlo]; exact va_S.rf
  obtain ⟨Q, hQ⟩ : ∃ q : Int32 → Prop, q = (fun r => r = fn_X6_goesOn place_ code_) := ⟨_, rfl⟩
  rw [← hQ] at hv
  refine lv_iload_n hx hb dX6_goesOn_0 rfl (lv_at hl 0 rfl) ?_
  refine lv_if_ne (tgt := 16) hx hb dX6_goesOn_1 (by decide) (fun c15 => ?_) (fun c15 => ?_)
  · have hv := hv.1 c15
    refine lv_iload_n hx hb dX6_goesOn_16 rfl (lv_at hl 0 rfl) ?_
    refine lv_bipush (v := 24) hx hb dX6_goesOn_17 (by decide) ?_
    refine lv_icmp_le (tgt := 24) hx hb dX6_goesOn_19 (by decide) (fun c13 => ?_) (fun c13 => ?_)
    · have hv := hv.1 c13
      refine lv_iload_n hx hb dX6_goesOn_24 rfl (lv_at hl 0 rfl) ?_
      refine lv_iconst (v := 4) hx hb dX6_goesOn_25 (by decide) ?_
      obtain ⟨hne, hv⟩ := hv
      refine lv_irem hx hb dX6_goesOn_26 hne ?_
      by_cases c3 : (place_ - place_ / 4 * 4) = 1
      · have hv := hv.1 c3
        refine lv_tableIn (tgt := 52) hx hb dX6_goesOn_27 (by rw [c3]; decide) (by rw [c3]; decide) (by first | (rw [c3]; done) | (rw [c3]; rfl)) (by decide) ?_
        refine lv_iload_n hx hb dX6_goesOn_52 rfl (lv_at hl 1 rfl) ?_
        refine lv_bipush (v := 59) hx hb dX6_goesOn_53 (by decide) ?_
        refine lv_icmp_ne (tgt := 62) hx hb dX6_goesOn_55 (by decide) (fun c2 => ?_) (fun c2 => ?_)
        · have hv := hv.1 c2
          refine lv_iconst (v := 0) hx hb dX6_goesOn_62 (by decide) ?_
          rw [hZ]; rw [hQ] at hv
          exact W.zret (v := 0) hx hb hr rfl (fun t ht hW => ⟨⟨0, (), rfl, hv, trivial⟩, hS.F ht⟩) hS.2.2 dX6_goesOn_63
        · have hv := hv.2 c2
          refine lv_iconst (v := 1) hx hb dX6_goesOn_58 (by decide) ?_
          refine lv_goto (tgt := 63) hx hb dX6_goesOn_59 (by decide) ?_
          rw [hZ]; rw [hQ] at hv
          exact W.zret (v := 1) hx hb hr rfl (fun t ht hW => ⟨⟨1, (), rfl, hv, trivial⟩, hS.F ht⟩) hS.2.2 dX6_goesOn_63
      · have hv := hv.2 c3
        by_cases c7 : (place_ - place_ / 4 * 4) = 2
        · have hv := hv.1 c7
          refine lv_tableIn (tgt := 64) hx hb dX6_goesOn_27 (by rw [c7]; decide) (by rw [c7]; decide) (by first | (rw [c7]; done) | (rw [c7]; rfl)) (by decide) ?_
          refine lv_iload_n hx hb dX6_goesOn_64 rfl (lv_at hl 1 rfl) ?_
          refine lv_bipush (v := 104) hx hb dX6_goesOn_65 (by decide) ?_
          refine lv_icmp_eq (tgt := 82) hx hb dX6_goesOn_67 (by decide) (fun c6 => ?_) (fun c6 => ?_)
          · have hv := hv.1 c6
            refine lv_iconst (v := 1) hx hb dX6_goesOn_82 (by decide) ?_
            refine lv_goto (tgt := 87) hx hb dX6_goesOn_83 (by decide) ?_
            rw [hZ]; rw [hQ] at hv
            exact W.zret (v := 1) hx hb hr rfl (fun t ht hW => ⟨⟨1, (), rfl, hv, trivial⟩, hS.F ht⟩) hS.2.2 dX6_goesOn_87
          · have hv := hv.2 c6
            refine lv_iload_n hx hb dX6_goesOn_70 rfl (lv_at hl 1 rfl) ?_
            refine lv_bipush (v := 98) hx hb dX6_goesOn_71 (by decide) ?_
            refine lv_icmp_eq (tgt := 82) hx hb dX6_goesOn_73 (by decide) (fun c5 => ?_) (fun c5 => ?_)
            · have hv := hv.1 c5
              refine lv_iconst (v := 1) hx hb dX6_goesOn_82 (by decide) ?_
              refine lv_goto (tgt := 87) hx hb dX6_goesOn_83 (by decide) ?_
              rw [hZ]; rw [hQ] at hv
              exact W.zret (v := 1) hx hb hr rfl (fun t ht hW => ⟨⟨1, (), rfl, hv, trivial⟩, hS.F ht⟩) hS.2.2 dX6_goesOn_87
            · have hv := hv.2 c5
              refine lv_iload_n hx hb dX6_goesOn_76 rfl (lv_at hl 1 rfl) ?_
              refine lv_bipush (v := 103) hx hb dX6_goesOn_77 (by decide) ?_
              refine lv_icmp_ne (tgt := 86) hx hb dX6_goesOn_79 (by decide) (fun c4 => ?_) (fun c4 => ?_)
              · have hv := hv.1 c4
                refine lv_iconst (v := 0) hx hb dX6_goesOn_86 (by decide) ?_
                rw [hZ]; rw [hQ] at hv
                exact W.zret (v := 0) hx hb hr rfl (fun t ht hW => ⟨⟨0, (), rfl, hv, trivial⟩, hS.F ht⟩) hS.2.2 dX6_goesOn_87
              · have hv := hv.2 c4
                refine lv_iconst (v := 1) hx hb dX6_goesOn_82 (by decide) ?_
                refine lv_goto (tgt := 87) hx hb dX6_goesOn_83 (by decide) ?_
                rw [hZ]; rw [hQ] at hv
                exact W.zret (v := 1) hx hb hr rfl (fun t ht hW => ⟨⟨1, (), rfl, hv, trivial⟩, hS.F ht⟩) hS.2.2 dX6_goesOn_87
        · have hv := hv.2 c7
          by_cases c10 : (place_ - place_ / 4 * 4) = 3
          · have hv := hv.1 c10
            refine lv_tableIn (tgt := 88) hx hb dX6_goesOn_27 (by rw [c10]; decide) (by rw [c10]; decide) (by first | (rw [c10]; done) | (rw [c10]; rfl)) (by decide) ?_
            refine lv_iload_n hx hb dX6_goesOn_88 rfl (lv_at hl 1 rfl) ?_
            refine lv_bipush (v := 49) hx hb dX6_goesOn_89 (by decide) ?_
            refine lv_icmp_lt (tgt := 104) hx hb dX6_goesOn_91 (by decide) (fun c9 => ?_) (fun c9 => ?_)
            · have hv := hv.1 c9
              refine lv_iconst (v := 0) hx hb dX6_goesOn_104 (by decide) ?_
              rw [hZ]; rw [hQ] at hv
              exact W.zret (v := 0) hx hb hr rfl (fun t ht hW => ⟨⟨0, (), rfl, hv, trivial⟩, hS.F ht⟩) hS.2.2 dX6_goesOn_105
            · have hv := hv.2 c9
              refine lv_iload_n hx hb dX6_goesOn_94 rfl (lv_at hl 1 rfl) ?_
              refine lv_bipush (v := 53) hx hb dX6_goesOn_95 (by decide) ?_
              refine lv_icmp_gt (tgt := 104) hx hb dX6_goesOn_97 (by decide) (fun c8 => ?_) (fun c8 => ?_)
              · have hv := hv.1 c8
                refine lv_iconst (v := 0) hx hb dX6_goesOn_104 (by decide) ?_
                rw [hZ]; rw [hQ] at hv
                exact W.zret (v := 0) hx hb hr rfl (fun t ht hW => ⟨⟨0, (), rfl, hv, trivial⟩, hS.F ht⟩) hS.2.2 dX6_goesOn_105
              · have hv := hv.2 c8
                refine lv_iconst (v := 1) hx hb dX6_goesOn_100 (by decide) ?_
                refine lv_goto (tgt := 105) hx hb dX6_goesOn_101 (by decide) ?_
                rw [hZ]; rw [hQ] at hv
                exact W.zret (v := 1) hx hb hr rfl (fun t ht hW => ⟨⟨1, (), rfl, hv, trivial⟩, hS.F ht⟩) hS.2.2 dX6_goesOn_105
          · have hv := hv.2 c10
            refine lv_tableOut (tgt := 106) hx hb dX6_goesOn_27 (sw_out (lo := 1) (hi := 3) (place_ - place_ / 4 * 4) (fun k h1 h2 hk => by
              have h3 : k = 1 ∨ k = 2 ∨ k = 3 := by omega
              rcases h3 with rfl | rfl | rfl
              · exact c3 hk
              · exact c7 hk
              · exact c10 hk)) (by decide) ?_
            refine lv_iload_n hx hb dX6_goesOn_106 rfl (lv_at hl 1 rfl) ?_
            refine lv_bipush (v := 48) hx hb dX6_goesOn_107 (by decide) ?_
            refine lv_icmp_lt (tgt := 122) hx hb dX6_goesOn_109 (by decide) (fun c12 => ?_) (fun c12 => ?_)
            · have hv := hv.1 c12
              refine lv_iconst (v := 0) hx hb dX6_goesOn_122 (by decide) ?_
              rw [hZ]; rw [hQ] at hv
              exact W.zret (v := 0) hx hb hr rfl (fun t ht hW => ⟨⟨0, (), rfl, hv, trivial⟩, hS.F ht⟩) hS.2.2 dX6_goesOn_123
            · have hv := hv.2 c12
              refine lv_iload_n hx hb dX6_goesOn_112 rfl (lv_at hl 1 rfl) ?_
              refine lv_bipush (v := 50) hx hb dX6_goesOn_113 (by decide) ?_
              refine lv_icmp_gt (tgt := 122) hx hb dX6_goesOn_115 (by decide) (fun c11 => ?_) (fun c11 => ?_)
              · have hv := hv.1 c11
                refine lv_iconst (v := 0) hx hb dX6_goesOn_122 (by decide) ?_
                rw [hZ]; rw [hQ] at hv
                exact W.zret (v := 0) hx hb hr rfl (fun t ht hW => ⟨⟨0, (), rfl, hv, trivial⟩, hS.F ht⟩) hS.2.2 dX6_goesOn_123
              · have hv := hv.2 c11
                refine lv_iconst (v := 1) hx hb dX6_goesOn_118 (by decide) ?_
                refine lv_goto (tgt := 123) hx hb dX6_goesOn_119 (by decide) ?_
                rw [hZ]; rw [hQ] at hv
                exact W.zret (v := 1) hx hb hr rfl (fun t ht hW => ⟨⟨1, (), rfl, hv, trivial⟩, hS.F ht⟩) hS.2.2 dX6_goesOn_123
    · have hv := hv.2 c13
      refine lv_iconst (v := 0) hx hb dX6_goesOn_22 (by decide) ?_
      rw [hZ]; rw [hQ] at hv
      exact W.zret (v := 0) hx hb hr rfl (fun t ht hW => ⟨⟨0, (), rfl, hv, trivial⟩, hS.F ht⟩) hS.2.2 dX6_goesOn_23
  · have hv := hv.2 c15
    refine lv_iload_n hx hb dX6_goesOn_4 rfl (lv_at hl 1 rfl) ?_
    refine lv_bipush (v := 115) hx hb dX6_goesOn_5 (by decide) ?_
    refine lv_icmp_ne (tgt := 14) hx hb dX6_goesOn_7 (by decide) (fun c14 => ?_) (fun c14 => ?_)
    · have hv := hv.1 c14
      refine lv_iconst (v := 0) hx hb dX6_goesOn_14 (by decide) ?_
      rw [hZ]; rw [hQ] at hv
      exact W.zret (v := 0) hx hb hr rfl (fun t ht hW => ⟨⟨0, (), rfl, hv, trivial⟩, hS.F ht⟩) hS.2.2 dX6_goesOn_15
    · have hv := hv.2 c14
      refine lv_iconst (v := 1) hx hb dX6_goesOn_10 (by decide) ?_
      refine lv_goto (tgt := 15) hx hb dX6_goesOn_11 (by decide) ?_
      rw [hZ]; rw [hQ] at hv
      exact W.zret (v := 1) hx hb hr rfl (fun t ht hW => ⟨⟨1, (), rfl, hv, trivial⟩, hS.F ht⟩) hS.2.2 dX6_goesOn_15
set_option maxHeartbeats 4000000 in
set_option maxRecDepth 100000 in
theorem wk_X6_isEmpty (l : Launch) (sp : ∀ (σ0 : S_), True → vc_X6_isEmpty σ0 (fun r => r = fn_X6_isEmpty σ0)) : Ct_X6_isEmpty l := by
  intro D cy ad A   σ0  hpre
  refine Met.ofW (cc := cX6_isEmpty) (maxL := 1) (ret := (some .boolean)) (by decide) rfl ?_
  intro p e s m args below meth c s₁ B hml hv0
  obtain ⟨rfl, hP, hK, hD, hN⟩ := hv0
  have hx := B.exec
  have hb := B.bytes
  have hr := B.returns
  have hts := atoms_spec (ws := wsX6_isEmpty) B.pre
  have hown : s.vm.findClass RX6 = some m.cls := findClass_of_methodNamed B.named
  have hlocks := B.notSynchronized
  have hv := sp   σ0 hpre
  have hl := lv_entry ([.ref (ad 11)]) (n := 1) (Nat.le_of_ble_eq_true rfl)
  rw [lg_entry_eq]
  generalize (lg_sl ([.ref (ad 11)]) ++ List.replicate (1 - (lg_sl ([.ref (ad 11)])).length) Slot.unset).toArray = ls at hl ⊢
  have hl : lv_has ls 1 [(0, .ref (ad 11))] := hl
  refine W_gen (fun R Z H locs hR hZ hH hlo => ?_)
  have hRf : R.frames = 0 := by rw [hR]; rfl
  have hRl : R.locals = 0 := by rw [hR]; rfl
  have hRc : R.cells = 0 := by rw [hR]; rfl
  have hRs : R.slots = 0 := by rw [hR]; rfl
  have hS : va_S A s.heap H locs := by rw [hH, hlo]; exact va_S.rf
  rw [← hH] at hP
  obtain ⟨Q, hQ⟩ : ∃ q : Int32 → Prop, q = (fun r => r = fn_X6_isEmpty  σ0) := ⟨_, rfl⟩
  rw [← hQ] at hv
  have hinX6 : ∀ w ∈ wsX60, w ∈ wsX6_isEmpty := by decide +kernel
  refine lv_aload_n hx hb dX6_isEmpty_0 rfl (lv_at hl 0 rfl) ?_
  refine va_get (ci := 6) (v := .int (rdI σ0 2)) (C := RX6) (T := TX6) (N := 8) hx hb hts hinX6 hown hK hP 11 (wC_11 cy ad σ0) rfl 5 (by decide) (hts (.fieldLink RX6 51 "TaleBans$Steppe" "persons" "I") (List.mem_of_getElem? (i := 1) rfl)) (fun x h => h) rfl dX6_isEmpty_1 ?_
  refine lv_if_ne (tgt := 11) hx hb dX6_isEmpty_4 (by decide) (fun c1 => ?_) (fun c1 => ?_)
  · have hv := hv.1 c1
    refine lv_iconst (v := 0) hx hb dX6_isEmpty_11 (by decide) ?_
    rw [hZ]; rw [hQ] at hv
    exact W.zret (v := 0) hx hb hr rfl (fun t ht hW => ⟨⟨0, (), rfl, hv, (P_of ht hP)⟩, hS.F ht⟩) hS.2.2 dX6_isEmpty_12
  · have hv := hv.2 c1
    refine lv_iconst (v := 1) hx hb dX6_isEmpty_7 (by decide) ?_
    refine lv_goto (tgt := 12) hx hb dX6_isEmpty_8 (by decide) ?_
    rw [hZ]; rw [hQ] at hv
    exact W.zret (v := 1) hx hb hr rfl (fun t ht hW => ⟨⟨1, (), rfl, hv, (P_of ht hP)⟩, hS.F ht⟩) hS.2.2 dX6_isEmpty_12
set_option maxHeartbeats 4000000 in
set_option maxRecDepth 100000 in
theorem wk_X6_firstFault (l : Launch) (h_X5_at : Ct_X5_at l) (h_X6_goesOn : Ct_X6_goesOn l) (sp : ∀ (j_ : Nat) (fr_ : Int32) (n_ : Int32) (σ0 : S_), pre_X6_firstFault j_ fr_ n_ σ0 → vc_X6_firstFault j_ fr_ n_ σ0 (fun r => r = fn_X6_firstFault j_ fr_ n_ σ0)) : Ct_X6_firstFault l := by
  intro D cy ad A j_ fr_ n_  σ0 hj_j_ hpre
  refine Met.ofW (cc := cX6_firstFault) (maxL := 4) (ret := (some .int)) (by decide) rfl ?_
  intro p e s m args below meth c s₁ B hml hv0
  obtain ⟨rfl, hP, hK, hD, hN⟩ := hv0
  have hx := B.exec
  have hb := B.bytes
  have hr := B.returns
  have hts := atoms_spec (ws := wsX6_firstFault) B.pre
  have hown : s.vm.findClass RX6 = some m.cls := findClass_of_methodNamed B.named
  have hlocks := B.notSynchronized
  have hv := sp j_ fr_ n_  σ0 hpre
  have hl := lv_entry ([.ref (ad (2 + 2 * j_)), .int fr_, .int n_]) (n := 4) (Nat.le_of_ble_eq_true rfl)
  rw [lg_entry_eq]
  generalize (lg_sl ([.ref (ad (2 + 2 * j_)), .int fr_, .int n_]) ++ List.replicate (4 - (lg_sl ([.ref (ad (2 + 2 * j_)), .int fr_, .int n_])).length) Slot.unset).toArray = ls at hl ⊢
  have hl : lv_has ls 4 [(0, .ref (ad (2 + 2 * j_))), (1, .int fr_), (2, .int n_)] := hl
  refine W_gen (fun R Z H locs hR hZ hH hlo => ?_)
  have hRf : R.frames = 3 := by rw [hR]; rfl
  have hRl : R.locals = 63 := by rw [hR]; rfl
  have hRc : R.cells = 0 := by rw [hR]; rfl
  have hRs : R.slots = 0 := by rw [hR]; rfl
  have hS : va_S A s.heap H locs := by rw [hH, hlo]; exact va_S.rf
  rw [← hH] at hP
  obtain ⟨Q, hQ⟩ : ∃ q : Int32 → Prop, q = (fun r => r = fn_X6_firstFault j_ fr_ n_ σ0) := ⟨_, rfl⟩
  rw [← hQ] at hv
  refine lv_iconst (v := 0) hx hb dX6_firstFault_0 (by decide) ?_
  refine lv_istore_n (lv' := [(3, .int 0), (0, .ref (ad (2 + 2 * j_))), (1, .int fr_), (2, .int n_)]) hx hb dX6_firstFault_1 rfl hl (by decide) rfl (fun ls hl => ?_)
  obtain ⟨n2, hv⟩ := hv
  have lp2 : ∀ (n : Nat) (x1 : Int32) (H : Heap) (locs : List Loc) (ls : Array Slot), vl_X6_firstFault_2 j_ fr_ n_ σ0 Q n x1 → va_P D vwCl (wC cy ad σ0) H → va_D A (wC cy ad σ0) → va_S A s.heap H locs → lv_has ls 4 [(0, .ref (ad (2 + 2 * j_))), (1, .int fr_), (2, .int n_), (3, .int x1)] → W p l e R s m ([.ref (ad (2 + 2 * j_)), .int fr_, .int n_] : List Value).toArray  below meth c H locs 0 0 Z (F0 m 2 ls []) := by
    intro n
    induction n with
    | zero => intro x1 H locs ls hv; exact absurd hv id
    | succ n ih2 =>
      intro x1 H locs ls hv hP hD hS hl
      refine lv_iload_n hx hb dX6_firstFault_2 rfl (lv_at hl 3 rfl) ?_
      refine lv_iload_n hx hb dX6_firstFault_3 rfl (lv_at hl 2 rfl) ?_
      refine lv_icmp_ge (tgt := 29) hx hb dX6_firstFault_4 (by decide) (fun c9 => ?_) (fun c9 => ?_)
      · have hv := hv.1 c9
        refine lv_iload_n hx hb dX6_firstFault_29 rfl (lv_at hl 2 rfl) ?_
        refine lv_iconst (v := 4) hx hb dX6_firstFault_30 (by decide) ?_
        obtain ⟨hne, hv⟩ := hv
        refine lv_irem hx hb dX6_firstFault_31 hne ?_
        refine lv_iconst (v := 1) hx hb dX6_firstFault_32 (by decide) ?_
        obtain ⟨P2, hv, hvr⟩ := hv
        have jn3 : ∀ (b4 : Int32) (H : Heap) (locs : List Loc) (ls : Array Slot), P2 b4 → va_P D vwCl (wC cy ad σ0) H → va_S A s.heap H locs → lv_has ls 4 [(0, .ref (ad (2 + 2 * j_))), (1, .int fr_), (2, .int n_), (3, .int x1)] → W p l e R s m ([.ref (ad (2 + 2 * j_)), .int fr_, .int n_] : List Value).toArray below meth c H locs 0 0 Z (F0 m 47 ls [.int b4]) := by
          intro b4 H locs ls hv hP hS hl
          have hv := hvr b4 hv
          refine lv_istore_n (lv' := [(3, .int b4), (0, .ref (ad (2 + 2 * j_))), (1, .int fr_), (2, .int n_)]) hx hb dX6_firstFault_47 rfl hl (by decide) rfl (fun ls hl => ?_)
          refine lv_iload_n hx hb dX6_firstFault_48 rfl (lv_at hl 0 rfl) ?_
          refine lv_if_eq (tgt := 57) hx hb dX6_firstFault_49 (by decide) (fun c7 => ?_) (fun c7 => ?_)
          · have hv := hv.1 c7
            refine lv_iload_n hx hb dX6_firstFault_57 rfl (lv_at hl 3 rfl) ?_
            rw [hZ]; rw [hQ] at hv
            exact W.iret (v := n_) hx hb hr (fun t ht hW => ⟨⟨n_, (), rfl, hv, (P_of ht hP)⟩, hS.F ht⟩) hS.2.2 dX6_firstFault_58
          · have hv := hv.2 c7
            refine lv_bipush (v := (-9)) hx hb dX6_firstFault_52 (by decide) ?_
            refine lv_goto (tgt := 58) hx hb dX6_firstFault_54 (by decide) ?_
            rw [hZ]; rw [hQ] at hv
            exact W.iret (v := (-9)) hx hb hr (fun t ht hW => ⟨⟨(-9), (), rfl, hv, (P_of ht hP)⟩, hS.F ht⟩) hS.2.2 dX6_firstFault_58
        refine lv_icmp_ne (tgt := 46) hx hb dX6_firstFault_33 (by decide) (fun c6 => ?_) (fun c6 => ?_)
        · have hv := hv.1 c6
          refine lv_iconst (v := 0) hx hb dX6_firstFault_46 (by decide) ?_
          exact jn3 0 _ _ _ hv hP hS hl
        · have hv := hv.2 c6
          refine lv_iload_n hx hb dX6_firstFault_36 rfl (lv_at hl 2 rfl) ?_
          refine lv_bipush (v := 8) hx hb dX6_firstFault_37 (by decide) ?_
          refine lv_icmp_le (tgt := 46) hx hb dX6_firstFault_39 (by decide) (fun c5 => ?_) (fun c5 => ?_)
          · have hv := hv.1 c5
            refine lv_iconst (v := 0) hx hb dX6_firstFault_46 (by decide) ?_
            exact jn3 0 _ _ _ hv hP hS hl
          · have hv := hv.2 c5
            refine lv_iconst (v := 1) hx hb dX6_firstFault_42 (by decide) ?_
            refine lv_goto (tgt := 47) hx hb dX6_firstFault_43 (by decide) ?_
            exact jn3 1 _ _ _ hv hP hS hl
      · have hv := hv.2 c9
        refine lv_iload_n hx hb dX6_firstFault_7 rfl (lv_at hl 3 rfl) ?_
        refine lv_aload_n hx hb dX6_firstFault_8 rfl (lv_at hl 0 rfl) ?_
        refine lv_iload_n hx hb dX6_firstFault_9 rfl (lv_at hl 1 rfl) ?_
        refine lv_iload_n hx hb dX6_firstFault_10 rfl (lv_at hl 3 rfl) ?_
        refine lv_iadd hx hb dX6_firstFault_11 ?_
        obtain ⟨hp, hv⟩ := hv
        refine k_read_i (w := wC cy ad) (va_runVN (As := [.int (fr_ + x1)]) (rest := [.int x1]) ⟨hx, hb, hml, hown, hts⟩ (h_X5_at D cy ad A j_ (fr_ + x1) σ0 hj_j_ hp) ⟨va_cnB 1 hts gX6_firstFault_X5_at_n35 rfl rfl rfl (nwm_26 hN) (hts (.initialized RX5) (List.mem_of_getElem? (i := 2) rfl)) (by decide +kernel) ⟨le_R hRf (Nat.le_of_ble_eq_true rfl), le_R hRl (Nat.le_of_ble_eq_true rfl)⟩, (hts (.instanceMethod yX5_at) (List.mem_of_getElem? (i := 1) rfl)), (hts (.selects RX5 yX5_at yX5_at) (List.mem_of_getElem? (i := 3) rfl))⟩ ⟨(fun a U g mk q => ⟨q.1, q.2.blind⟩), va_recv hK hP (ci := 5) (q0 := (2 + 2 * j_)) rfl (wC_sh cy ad σ0 hj_j_), (fun U hU hW => ⟨rfl, WdC.pre hP hK hD hN hU hW⟩)⟩ rfl rfl hl.1 rfl (lv_room (Nat.le_of_ble_eq_true rfl)) dX6_firstFault_12 ⟨le_R hRc (Nat.le_refl 0), le_R hRs (Nat.le_refl 0)⟩) hS (fun r H locs hr1 hP hS => ?_)
        subst hr1
        refine k_pure_i (va_runS (As := [.int x1, .int (fn_X5_at j_ (fr_ + x1) σ0)]) (rest := []) ⟨hx, hb, hml, hown, hts⟩ (h_X6_goesOn x1 (fn_X5_at j_ (fr_ + x1) σ0)) (va_cwS 2 hts gX6_firstFault_X6_goesOn rfl rfl rfl (by decide +kernel) ⟨le_R hRf (Nat.le_of_ble_eq_true rfl), le_R hRl (Nat.le_of_ble_eq_true rfl)⟩) ⟨(fun a U g mk q => ⟨q.1, trivial⟩), (fun U hU hW => ⟨rfl, trivial⟩)⟩ rfl rfl hl.1 rfl (lv_room (Nat.le_of_ble_eq_true rfl)) dX6_firstFault_15 ⟨le_R hRc (Nat.le_refl 0), le_R hRs (Nat.le_refl 0)⟩) hS hP (fun r H locs hr1 hP hS => ?_)
        subst hr1
        refine lv_if_ne (tgt := 23) hx hb dX6_firstFault_18 (by decide) (fun c8 => ?_) (fun c8 => ?_)
        · have hv := hv.1 c8
          refine lv_iinc (v := (x1 + 1)) (lv' := [(3, .int (x1 + 1)), (0, .ref (ad (2 + 2 * j_))), (1, .int fr_), (2, .int n_)]) hx hb dX6_firstFault_23 hl (k := 3) rfl rfl (by decide) rfl (fun ls hl => ?_)
          refine lv_goto (tgt := 2) hx hb dX6_firstFault_26 (by decide) ?_
          exact ih2 (x1 + 1) _ _ _ hv hP hD hS (lv_sub hl [1, 2, 3, 0] rfl)
        · have hv := hv.2 c8
          refine lv_iload_n hx hb dX6_firstFault_21 rfl (lv_at hl 3 rfl) ?_
          rw [hZ]; rw [hQ] at hv
          exact W.iret (v := x1) hx hb hr (fun t ht hW => ⟨⟨x1, (), rfl, hv, (P_of ht hP)⟩, hS.F ht⟩) hS.2.2 dX6_firstFault_22
  exact lp2 n2 0 _ _ _ hv hP hD hS (lv_sub hl [1, 2, 3, 0] rfl)
set_option maxHeartbeats 4000000 in
set_option maxRecDepth 100000 in
theorem wk_X6_firstUnmet (l : Launch) (h_X3_at : Ct_X3_at l) (h_X8_isIn : Ct_X8_isIn l) (sp : ∀ (banned_ : Int32) (σ0 : S_), pre_X6_firstUnmet banned_ σ0 → vc_X6_firstUnmet banned_ σ0 (fun r => r = fn_X6_firstUnmet banned_ σ0)) : Ct_X6_firstUnmet l := by
  intro D cy ad A banned_  σ0  hpre
  refine Met.ofW (cc := cX6_firstUnmet) (maxL := 3) (ret := (some .int)) (by decide) rfl ?_
  intro p e s m args below meth c s₁ B hml hv0
  obtain ⟨rfl, hP, hK, hD, hN⟩ := hv0
  have hx := B.exec
  have hb := B.bytes
  have hr := B.returns
  have hts := atoms_spec (ws := wsX6_firstUnmet) B.pre
  have hown : s.vm.findClass RX6 = some m.cls := findClass_of_methodNamed B.named
  have hlocks := B.notSynchronized
  have hv := sp banned_  σ0 hpre
  have hl := lv_entry ([.ref (ad 11), .int banned_]) (n := 3) (Nat.le_of_ble_eq_true rfl)
  rw [lg_entry_eq]
  generalize (lg_sl ([.ref (ad 11), .int banned_]) ++ List.replicate (3 - (lg_sl ([.ref (ad 11), .int banned_])).length) Slot.unset).toArray = ls at hl ⊢
  have hl : lv_has ls 3 [(0, .ref (ad 11)), (1, .int banned_)] := hl
  refine W_gen (fun R Z H locs hR hZ hH hlo => ?_)
  have hRf : R.frames = 2 := by rw [hR]; rfl
  have hRl : R.locals = 43 := by rw [hR]; rfl
  have hRc : R.cells = 0 := by rw [hR]; rfl
  have hRs : R.slots = 0 := by rw [hR]; rfl
  have hS : va_S A s.heap H locs := by rw [hH, hlo]; exact va_S.rf
  rw [← hH] at hP
  obtain ⟨Q, hQ⟩ : ∃ q : Int32 → Prop, q = (fun r => r = fn_X6_firstUnmet banned_ σ0) := ⟨_, rfl⟩
  rw [← hQ] at hv
  have hinX3 : ∀ w ∈ wsX30, w ∈ wsX6_firstUnmet := by decide +kernel
  have hinX6 : ∀ w ∈ wsX60, w ∈ wsX6_firstUnmet := by decide +kernel
  refine lv_iconst (v := 0) hx hb dX6_firstUnmet_0 (by decide) ?_
  refine lv_istore_n (lv' := [(2, .int 0), (0, .ref (ad 11)), (1, .int banned_)]) hx hb dX6_firstUnmet_1 rfl hl (by decide) rfl (fun ls hl => ?_)
  obtain ⟨n2, hv⟩ := hv
  have lp2 : ∀ (n : Nat) (x1 : Int32) (H : Heap) (locs : List Loc) (ls : Array Slot), vl_X6_firstUnmet_2 banned_ σ0 Q n x1 → va_P D vwCl (wC cy ad σ0) H → va_D A (wC cy ad σ0) → va_S A s.heap H locs → lv_has ls 3 [(0, .ref (ad 11)), (1, .int banned_), (2, .int x1)] → W p l e R s m ([.ref (ad 11), .int banned_] : List Value).toArray  below meth c H locs 0 0 Z (F0 m 2 ls []) := by
    intro n
    induction n with
    | zero => intro x1 H locs ls hv; exact absurd hv id
    | succ n ih2 =>
      intro x1 H locs ls hv hP hD hS hl
      refine lv_iload_n hx hb dX6_firstUnmet_2 rfl (lv_at hl 2 rfl) ?_
      refine lv_aload_n hx hb dX6_firstUnmet_3 rfl (lv_at hl 0 rfl) ?_
      refine va_get (ci := 6) (v := .ref (ad (17))) (C := RX6) (T := TX6) (N := 8) hx hb hts hinX6 hown hK hP 11 (wC_11 cy ad σ0) rfl 3 (by decide) (hts (.fieldLink RX6 29 "TaleBans$Steppe" "needs" "LTaleBans$Ledger;") (List.mem_of_getElem? (i := 1) rfl)) (fun x h => h) rfl dX6_firstUnmet_4 ?_
      refine va_getN (ci := 3) (v := .int (rdI σ0 7)) (C := RX3) (T := TX3) (N := 3) hx hb hts hinX3 hown hK hP 17 (wC_17 cy ad σ0) rfl 2 (by decide) (nw_2 hN) (fun x h => h) rfl dX6_firstUnmet_7 ?_
      refine lv_icmp_ge (tgt := 53) hx hb dX6_firstUnmet_10 (by decide) (fun c4 => ?_) (fun c4 => ?_)
      · have hv := hv.1 c4
        refine lv_bipush (v := (-9)) hx hb dX6_firstUnmet_53 (by decide) ?_
        rw [hZ]; rw [hQ] at hv
        exact W.iret (v := (-9)) hx hb hr (fun t ht hW => ⟨⟨(-9), (), rfl, hv, (P_of ht hP)⟩, hS.F ht⟩) hS.2.2 dX6_firstUnmet_55
      · have hv := hv.2 c4
        refine lv_aload_n hx hb dX6_firstUnmet_13 rfl (lv_at hl 0 rfl) ?_
        refine va_get (ci := 6) (v := .ref (ad (17))) (C := RX6) (T := TX6) (N := 8) hx hb hts hinX6 hown hK hP 11 (wC_11 cy ad σ0) rfl 3 (by decide) (hts (.fieldLink RX6 29 "TaleBans$Steppe" "needs" "LTaleBans$Ledger;") (List.mem_of_getElem? (i := 1) rfl)) (fun x h => h) rfl dX6_firstUnmet_14 ?_
        refine lv_iload_n hx hb dX6_firstUnmet_17 rfl (lv_at hl 2 rfl) ?_
        refine lv_iconst (v := 0) hx hb dX6_firstUnmet_18 (by decide) ?_
        obtain ⟨hp, hv⟩ := hv
        refine k_read_i (w := wC cy ad) (va_runVN (As := [.int x1, .int 0]) (rest := []) ⟨hx, hb, hml, hown, hts⟩ (h_X3_at D cy ad A 2 x1 0 σ0 (show 2 < 4 by decide) hp) ⟨va_cnB 2 hts gX6_firstUnmet_X3_at_n83 rfl rfl rfl (nwm_58 hN) (hts (.initialized RX3) (List.mem_of_getElem? (i := 3) rfl)) (by decide +kernel) ⟨le_R hRf (Nat.le_of_ble_eq_true rfl), le_R hRl (Nat.le_of_ble_eq_true rfl)⟩, (hts (.instanceMethod yX3_at) (List.mem_of_getElem? (i := 2) rfl)), (hts (.selects RX3 yX3_at yX3_at) (List.mem_of_getElem? (i := 4) rfl))⟩ ⟨(fun a U g mk q => ⟨q.1, q.2.blind⟩), va_recv hK hP (ci := 3) (q0 := 17) rfl (wC_17 cy ad σ0), (fun U hU hW => ⟨rfl, WdC.pre hP hK hD hN hU hW⟩)⟩ rfl rfl hl.1 rfl (lv_room (Nat.le_of_ble_eq_true rfl)) dX6_firstUnmet_19 ⟨le_R hRc (Nat.le_refl 0), le_R hRs (Nat.le_refl 0)⟩) hS (fun r H locs hr1 hP hS => ?_)
        subst hr1
        refine lv_iload_n hx hb dX6_firstUnmet_22 rfl (lv_at hl 1 rfl) ?_
        refine k_pure_i (va_runSN (As := [.int (fn_X3_at 2 x1 0 σ0), .int banned_]) (rest := []) ⟨hx, hb, hml, hown, hts⟩ (h_X8_isIn (fn_X3_at 2 x1 0 σ0) banned_) ⟨va_cnB 2 hts gX6_firstUnmet_X8_isIn_n85 rfl rfl rfl (nwm_59 hN) (hts (.initialized RX8) (List.mem_of_getElem? (i := 13) rfl)) (by decide +kernel) ⟨le_R hRf (Nat.le_of_ble_eq_true rfl), le_R hRl (Nat.le_of_ble_eq_true rfl)⟩, (hts (.static yX8_isIn) (List.mem_of_getElem? (i := 15) rfl)), trivial⟩ ⟨(fun a U g mk q => ⟨q.1, trivial⟩), (fun U hU hW => ⟨rfl, trivial⟩)⟩ rfl rfl hl.1 rfl (lv_room (Nat.le_of_ble_eq_true rfl)) dX6_firstUnmet_23 ⟨le_R hRc (Nat.le_refl 0), le_R hRs (Nat.le_refl 0)⟩) hS hP (fun r H locs hr1 hP hS => ?_)
        subst hr1
        refine lv_if_eq (tgt := 47) hx hb dX6_firstUnmet_26 (by decide) (fun c3 => ?_) (fun c3 => ?_)
        · have hv := hv.1 c3
          refine lv_iinc (v := (x1 + 1)) (lv' := [(2, .int (x1 + 1)), (0, .ref (ad 11)), (1, .int banned_)]) hx hb dX6_firstUnmet_47 hl (k := 2) rfl rfl (by decide) rfl (fun ls hl => ?_)
          refine lv_goto (tgt := 2) hx hb dX6_firstUnmet_50 (by decide) ?_
          exact ih2 (x1 + 1) _ _ _ hv hP hD hS (lv_sub hl [1, 2, 0] rfl)
        · have hv := hv.2 c3
          refine lv_aload_n hx hb dX6_firstUnmet_29 rfl (lv_at hl 0 rfl) ?_
          refine va_get (ci := 6) (v := .ref (ad (17))) (C := RX6) (T := TX6) (N := 8) hx hb hts hinX6 hown hK hP 11 (wC_11 cy ad σ0) rfl 3 (by decide) (hts (.fieldLink RX6 29 "TaleBans$Steppe" "needs" "LTaleBans$Ledger;") (List.mem_of_getElem? (i := 1) rfl)) (fun x h => h) rfl dX6_firstUnmet_30 ?_
          refine lv_iload_n hx hb dX6_firstUnmet_33 rfl (lv_at hl 2 rfl) ?_
          refine lv_iconst (v := 1) hx hb dX6_firstUnmet_34 (by decide) ?_
          obtain ⟨hp, hv⟩ := hv
          refine k_read_i (w := wC cy ad) (va_runVN (As := [.int x1, .int 1]) (rest := []) ⟨hx, hb, hml, hown, hts⟩ (h_X3_at D cy ad A 2 x1 1 σ0 (show 2 < 4 by decide) hp) ⟨va_cnB 2 hts gX6_firstUnmet_X3_at_n83 rfl rfl rfl (nwm_58 hN) (hts (.initialized RX3) (List.mem_of_getElem? (i := 3) rfl)) (by decide +kernel) ⟨le_R hRf (Nat.le_of_ble_eq_true rfl), le_R hRl (Nat.le_of_ble_eq_true rfl)⟩, (hts (.instanceMethod yX3_at) (List.mem_of_getElem? (i := 2) rfl)), (hts (.selects RX3 yX3_at yX3_at) (List.mem_of_getElem? (i := 4) rfl))⟩ ⟨(fun a U g mk q => ⟨q.1, q.2.blind⟩), va_recv hK hP (ci := 3) (q0 := 17) rfl (wC_17 cy ad σ0), (fun U hU hW => ⟨rfl, WdC.pre hP hK hD hN hU hW⟩)⟩ rfl rfl hl.1 rfl (lv_room (Nat.le_of_ble_eq_true rfl)) dX6_firstUnmet_35 ⟨le_R hRc (Nat.le_refl 0), le_R hRs (Nat.le_refl 0)⟩) hS (fun r H locs hr1 hP hS => ?_)
          subst hr1
          refine lv_iload_n hx hb dX6_firstUnmet_38 rfl (lv_at hl 1 rfl) ?_
          refine k_pure_i (va_runSN (As := [.int (fn_X3_at 2 x1 1 σ0), .int banned_]) (rest := []) ⟨hx, hb, hml, hown, hts⟩ (h_X8_isIn (fn_X3_at 2 x1 1 σ0) banned_) ⟨va_cnB 2 hts gX6_firstUnmet_X8_isIn_n85 rfl rfl rfl (nwm_59 hN) (hts (.initialized RX8) (List.mem_of_getElem? (i := 13) rfl)) (by decide +kernel) ⟨le_R hRf (Nat.le_of_ble_eq_true rfl), le_R hRl (Nat.le_of_ble_eq_true rfl)⟩, (hts (.static yX8_isIn) (List.mem_of_getElem? (i := 15) rfl)), trivial⟩ ⟨(fun a U g mk q => ⟨q.1, trivial⟩), (fun U hU hW => ⟨rfl, trivial⟩)⟩ rfl rfl hl.1 rfl (lv_room (Nat.le_of_ble_eq_true rfl)) dX6_firstUnmet_39 ⟨le_R hRc (Nat.le_refl 0), le_R hRs (Nat.le_refl 0)⟩) hS hP (fun r H locs hr1 hP hS => ?_)
          subst hr1
          refine lv_if_eq (tgt := 47) hx hb dX6_firstUnmet_42 (by decide) (fun c2 => ?_) (fun c2 => ?_)
          · have hv := hv.1 c2
            refine lv_iinc (v := (x1 + 1)) (lv' := [(2, .int (x1 + 1)), (0, .ref (ad 11)), (1, .int banned_)]) hx hb dX6_firstUnmet_47 hl (k := 2) rfl rfl (by decide) rfl (fun ls hl => ?_)
            refine lv_goto (tgt := 2) hx hb dX6_firstUnmet_50 (by decide) ?_
            exact ih2 (x1 + 1) _ _ _ hv hP hD hS (lv_sub hl [1, 2, 0] rfl)
          · have hv := hv.2 c2
            refine lv_iload_n hx hb dX6_firstUnmet_45 rfl (lv_at hl 2 rfl) ?_
            rw [hZ]; rw [hQ] at hv
            exact W.iret (v := x1) hx hb hr (fun t ht hW => ⟨⟨x1, (), rfl, hv, (P_of ht hP)⟩, hS.F ht⟩) hS.2.2 dX6_firstUnmet_46
  exact lp2 n2 0 _ _ _ hv hP hD hS (lv_sub hl [1, 2, 0] rfl)
set_option maxHeartbeats 4000000 in
set_option maxRecDepth 100000 in
theorem wk_X6_person (l : Launch) (h_X8_isOneOf : Ct_X8_isOneOf l) (sp : ∀ (p_ : Int32) (σ0 : S_), pre_X6_person p_ σ0 → vc_X6_person p_ σ0 (fun r => r = fn_X6_person p_ σ0)) : Ct_X6_person l := by
  intro D cy ad A p_  σ0  hpre
  refine Met.ofW (cc := cX6_person) (maxL := 2) (ret := (some (.object "TaleBans$Herder"))) (by decide) rfl ?_
  intro p e s m args below meth c s₁ B hml hv0
  obtain ⟨rfl, hP, hK, hD, hN⟩ := hv0
  have hx := B.exec
  have hb := B.bytes
  have hr := B.returns
  have hts := atoms_spec (ws := wsX6_person) B.pre
  have hown : s.vm.findClass RX6 = some m.cls := findClass_of_methodNamed B.named
  have hlocks := B.notSynchronized
  have hv := sp p_  σ0 hpre
  have hl := lv_entry ([.ref (ad 11), .int p_]) (n := 2) (Nat.le_of_ble_eq_true rfl)
  rw [lg_entry_eq]
  generalize (lg_sl ([.ref (ad 11), .int p_]) ++ List.replicate (2 - (lg_sl ([.ref (ad 11), .int p_])).length) Slot.unset).toArray = ls at hl ⊢
  have hl : lv_has ls 2 [(0, .ref (ad 11)), (1, .int p_)] := hl
  refine W_gen (fun R Z H locs hR hZ hH hlo => ?_)
  have hRf : R.frames = 1 := by rw [hR]; rfl
  have hRl : R.locals = 21 := by rw [hR]; rfl
  have hRc : R.cells = 0 := by rw [hR]; rfl
  have hRs : R.slots = 0 := by rw [hR]; rfl
  have hS : va_S A s.heap H locs := by rw [hH, hlo]; exact va_S.rf
  rw [← hH] at hP
  obtain ⟨Q, hQ⟩ : ∃ q : Option Nat → Prop, q = (fun r => r = fn_X6_person p_ σ0) := ⟨_, rfl⟩
  rw [← hQ] at hv
  have hinX6 : ∀ w ∈ wsX60, w ∈ wsX6_person := by decide +kernel
  refine lv_iload_n hx hb dX6_person_0 rfl (lv_at hl 1 rfl) ?_
  refine lv_aload_n hx hb dX6_person_1 rfl (lv_at hl 0 rfl) ?_
  refine va_get (ci := 6) (v := .int (rdI σ0 2)) (C := RX6) (T := TX6) (N := 8) hx hb hts hinX6 hown hK hP 11 (wC_11 cy ad σ0) rfl 5 (by decide) (hts (.fieldLink RX6 51 "TaleBans$Steppe" "persons" "I") (List.mem_of_getElem? (i := 1) rfl)) (fun x h => h) rfl dX6_person_2 ?_
  refine k_pure_i (va_runSN (As := [.int p_, .int (rdI σ0 2)]) (rest := []) ⟨hx, hb, hml, hown, hts⟩ (h_X8_isOneOf p_ (rdI σ0 2)) ⟨va_cnB 2 hts gX6_person_X8_isOneOf_n77 rfl rfl rfl (nwm_36 hN) (hts (.initialized RX8) (List.mem_of_getElem? (i := 4) rfl)) (by decide +kernel) ⟨le_R hRf (Nat.le_of_ble_eq_true rfl), le_R hRl (Nat.le_of_ble_eq_true rfl)⟩, (hts (.static yX8_isOneOf) (List.mem_of_getElem? (i := 3) rfl)), trivial⟩ ⟨(fun a U g mk q => ⟨q.1, trivial⟩), (fun U hU hW => ⟨rfl, trivial⟩)⟩ rfl rfl hl.1 rfl (lv_room (Nat.le_of_ble_eq_true rfl)) dX6_person_5 ⟨le_R hRc (Nat.le_refl 0), le_R hRs (Nat.le_refl 0)⟩) hS hP (fun r H locs hr1 hP hS => ?_)
  subst hr1
  refine lv_if_eq (tgt := 20) hx hb dX6_person_8 (by decide) (fun c1 => ?_) (fun c1 => ?_)
  · have hv := hv.1 c1
    refine lv_null hx hb dX6_person_20 ?_
    rw [hZ]; rw [hQ] at hv
    exact W.aret (v := .null) hx hb hr (Or.inl ⟨_, rfl⟩) (Or.inl rfl) (fun t ht hW => ⟨⟨none, (), rfl, hv, (P_of ht hP)⟩, hS.F ht⟩) hS.2.2 dX6_person_21
  · have hv := hv.2 c1
    refine lv_aload_n hx hb dX6_person_11 rfl (lv_at hl 0 rfl) ?_
    refine va_get (ci := 6) (v := .ref (ad 12)) (C := RX6) (T := TX6) (N := 8) hx hb hts hinX6 hown hK hP 11 (wC_11 cy ad σ0) rfl 0 (by decide) (hts (.fieldLink RX6 11 "TaleBans$Steppe" "people" "[LTaleBans$Herder;") (List.mem_of_getElem? (i := 2) rfl)) (fun x h => h) rfl dX6_person_12 ?_
    refine lv_iload_n hx hb dX6_person_15 rfl (lv_at hl 1 rfl) ?_
    obtain ⟨hi, hpg, hv⟩ := hv
    refine va_aldq hx hb hK hP 12 3 (wC_12 cy ad σ0) rfl hi dX6_person_16 ?_
    refine W_top (v' := .ref ((hget σ0 (Int32.toNatClampNeg p_)).1)) (by rw [hpg]; rfl) ?_
    refine lv_goto (tgt := 21) hx hb dX6_person_17 (by decide) ?_
    rw [hZ]; rw [hQ] at hv
    exact W.aret (v := .ref ((hget σ0 (Int32.toNatClampNeg p_)).1)) hx hb hr (Or.inl ⟨_, rfl⟩) (Or.inr ⟨_, rfl⟩) (fun t ht hW => ⟨⟨some (Int32.toNatClampNeg p_), (), rfl, hv, (P_of ht hP)⟩, hS.F ht⟩) hS.2.2 dX6_person_21
