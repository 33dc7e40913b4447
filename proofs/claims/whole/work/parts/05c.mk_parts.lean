set_option maxHeartbeats 4000000 in
set_option maxRecDepth 100000 in
theorem mk_X3_6 (l : Launch) (D : va_G) (cy : Nat → ClassId) (h0 : Nat) (sz : Nat) : Met l yX3_init wsX3_init ({ frames := 1, cells := 1, slots := 24, locals := 20 }) (va_Pc [.ref h0, .int 6] (MkS D cy [(h0, .inr (3, [.int 0, .null, .int 0]))] sz)) (va_Qv (S := Nat → Nat) (fun _ => True) (fun u t => va_P D vwCl [(h0, .inr (3, [.int 6, .ref (u 0), .int 0])), ((u 0), .inl (cy 0, 24, .inl (fun _ => 0)))] t.heap ∧ va_D (va_A [(h0, .inr (3, [.int 0, .null, .int 0]))] sz) [(h0, .inr (3, [.int 6, .ref (u 0), .int 0])), ((u 0), .inl (cy 0, 24, .inl (fun _ => 0)))]) (va_A [(h0, .inr (3, [.int 0, .null, .int 0]))] sz)) 1 24 (va_A [(h0, .inr (3, [.int 0, .null, .int 0]))] sz) := by
  refine Met.ofW (cc := cX3_init) (maxL := 2) (ret := none) (by decide) rfl ?_
  intro p e s m args below meth c s₁ B hml hv
  obtain ⟨rfl, hsz, hP, hD0, hKW⟩ := hv
  have hx := B.exec
  have hb := B.bytes
  have hr := B.returns
  have hts := atoms_spec (ws := wsX3_init) B.pre
  have hown : s.vm.findClass RX3 = some m.cls := findClass_of_methodNamed B.named
  have hlocks := B.notSynchronized
  have hin : meth.name = "<init>" := (name_of_methodNamed B.named B.method).1
  subst hsz
  have hK := hKW.1
  have hN := hKW.2
  have hD := hD0.self (sz := s.heap.size)
  generalize hAe : va_A [(h0, .inr (3, [.int 0, .null, .int 0]))] s.heap.size = A at hD ⊢
  have hA : ∀ q : Nat, s.heap.size ≤ q → A q := fun q h => by rw [← hAe]; exact Or.inr h
  have hS : va_S A s.heap s.heap [] := va_S.rf
  have hl := lv_entry ([.ref h0, .int 6]) (n := 2) (Nat.le_of_ble_eq_true rfl)
  rw [lg_entry_eq]
  generalize (lg_sl ([.ref h0, .int 6]) ++ List.replicate (2 - (lg_sl ([.ref h0, .int 6])).length) Slot.unset).toArray = ls at hl ⊢
  have hinX3 : ∀ w ∈ wsX30, w ∈ wsX3_init := by decide +kernel
  have hl : lv_has ls 2 [(0, .ref h0), (1, .int 6)] := hl
  refine lv_aload_n hx hb dX3_init_0 rfl (lv_at hl 0 rfl) ?_
  refine W.objInit hx hb hown (hts (.methodLink RX3 3 objectInit) (List.mem_of_getElem? (i := 1) rfl)) (hts (.instanceMethod objectInit) (List.mem_of_getElem? (i := 2) rfl)) (hts _ (List.mem_of_getElem? (i := 3) rfl)) rfl (by rw [hml]; exact hl.1) rfl dX3_init_1 (Nat.le_of_ble_eq_true rfl) (Nat.le_of_ble_eq_true rfl) ?_
  refine W.eq (g2 := F0 m 4 ls []) rfl ?_
  refine lv_aload_n hx hb dX3_init_4 rfl (lv_at hl 0 rfl) ?_
  refine lv_iload_n hx hb dX3_init_5 rfl (lv_at hl 1 rfl) ?_
  refine va_putF (D := D) (ci := 3) (v := .int 6) (ty := .int) (C := RX3) (T := TX3) (N := 3) hx hb hts hinX3 tyX3 tyX3_ok nmX3 hown hK hP hD hS 0 rfl rfl 0 (by decide) (hts (.fieldLink RX3 9 "TaleBans$Ledger" "limit" "I") (List.mem_of_getElem? (i := 4) rfl)) (fun _ h9 => h9) rfl hin rfl (by decide +kernel) rfl rfl (Nat.le_of_ble_eq_true rfl) dX3_init_6 (fun H locs hP hD hS => ?_)
  have hP : va_P D vwCl [(h0, .inr (3, [.int 6, .null, .int 0]))] H := hP
  have hD : va_D A [(h0, .inr (3, [.int 6, .null, .int 0]))] := hD
  refine lv_aload_n hx hb dX3_init_9 rfl (lv_at hl 0 rfl) ?_
  refine lv_iload_n hx hb dX3_init_10 rfl (lv_at hl 1 rfl) ?_
  refine lv_iconst (v := 4) hx hb dX3_init_11 (by decide) ?_
  refine lv_imul hx hb dX3_init_12 ?_
  refine W_top (v' := .int 24) rfl ?_
  refine k_newa (atype := .int) (a0 := (24, .inl (fun _ => 0))) (N' := 24) hx hb (hts (.arrayClass .int) (List.mem_of_getElem? (i := 5) rfl)) rfl (fun _ => rfl) hK 0 rfl hP hD hS hA (fun _ => rfl) (by decide) rfl (Nat.le_of_ble_eq_true rfl) (Nat.le_of_ble_eq_true rfl) (Nat.le_of_ble_eq_true rfl) dX3_init_13 (fun q1 H hP hD hS => ?_)
  have hP : va_P D vwCl [(h0, .inr (3, [.int 6, .null, .int 0])), (q1, .inl (cy 0, 24, .inl (fun _ => 0)))] H := hP
  have hD : va_D A [(h0, .inr (3, [.int 6, .null, .int 0])), (q1, .inl (cy 0, 24, .inl (fun _ => 0)))] := hD
  refine W.widen (k := 1) (n := 24) (Nat.le_of_ble_eq_true rfl) (Nat.le_of_ble_eq_true rfl) ?_
  refine va_putF (D := D) (ci := 3) (v := .ref q1) (ty := .array .int) (C := RX3) (T := TX3) (N := 3) hx hb hts hinX3 tyX3 tyX3_ok nmX3 hown hK hP hD hS 0 rfl rfl 1 (by decide) (hts (.fieldLink RX3 15 "TaleBans$Ledger" "cells" "[I") (List.mem_of_getElem? (i := 6) rfl)) (fun _ h9 => h9) rfl hin rfl (by decide +kernel) rfl rfl (Nat.le_of_ble_eq_true rfl) dX3_init_15 (fun H locs hP hD hS => ?_)
  have hP : va_P D vwCl [(h0, .inr (3, [.int 6, .ref q1, .int 0])), (q1, .inl (cy 0, 24, .inl (fun _ => 0)))] H := hP
  have hD : va_D A [(h0, .inr (3, [.int 6, .ref q1, .int 0])), (q1, .inl (cy 0, 24, .inl (fun _ => 0)))] := hD
  refine W.widen (k := 1) (n := 24) (Nat.le_of_ble_eq_true rfl) (Nat.le_of_ble_eq_true rfl) ?_
  have hP9 := hP.sub (ws' := [(h0, .inr (3, [.int 6, .ref q1, .int 0])), (q1, .inl (cy 0, 24, .inl (fun _ => 0)))]) [0, 1] rfl
  have hD9 := hD.sub (ws' := [(h0, .inr (3, [.int 6, .ref q1, .int 0])), (q1, .inl (cy 0, 24, .inl (fun _ => 0)))]) [0, 1] (by decide) rfl
  clear hP hD
  exact W.vret hx hb hr (fun t ht hW => ⟨⟨(fun k => [q1].getD k 0), rfl, trivial, P_of ht hP9, hD9⟩, hS.F ht⟩) hS.2.2 dX3_init_18
set_option maxHeartbeats 4000000 in
set_option maxRecDepth 100000 in
theorem mk_X3_8 (l : Launch) (D : va_G) (cy : Nat → ClassId) (h0 : Nat) (sz : Nat) : Met l yX3_init wsX3_init ({ frames := 1, cells := 1, slots := 32, locals := 20 }) (va_Pc [.ref h0, .int 8] (MkS D cy [(h0, .inr (3, [.int 0, .null, .int 0]))] sz)) (va_Qv (S := Nat → Nat) (fun _ => True) (fun u t => va_P D vwCl [(h0, .inr (3, [.int 8, .ref (u 0), .int 0])), ((u 0), .inl (cy 0, 32, .inl (fun _ => 0)))] t.heap ∧ va_D (va_A [(h0, .inr (3, [.int 0, .null, .int 0]))] sz) [(h0, .inr (3, [.int 8, .ref (u 0), .int 0])), ((u 0), .inl (cy 0, 32, .inl (fun _ => 0)))]) (va_A [(h0, .inr (3, [.int 0, .null, .int 0]))] sz)) 1 32 (va_A [(h0, .inr (3, [.int 0, .null, .int 0]))] sz) := by
  refine Met.ofW (cc := cX3_init) (maxL := 2) (ret := none) (by decide) rfl ?_
  intro p e s m args below meth c s₁ B hml hv
  obtain ⟨rfl, hsz, hP, hD0, hKW⟩ := hv
  have hx := B.exec
  have hb := B.bytes
  have hr := B.returns
  have hts := atoms_spec (ws := wsX3_init) B.pre
  have hown : s.vm.findClass RX3 = some m.cls := findClass_of_methodNamed B.named
  have hlocks := B.notSynchronized
  have hin : meth.name = "<init>" := (name_of_methodNamed B.named B.method).1
  subst hsz
  have hK := hKW.1
  have hN := hKW.2
  have hD := hD0.self (sz := s.heap.size)
  generalize hAe : va_A [(h0, .inr (3, [.int 0, .null, .int 0]))] s.heap.size = A at hD ⊢
  have hA : ∀ q : Nat, s.heap.size ≤ q → A q := fun q h => by rw [← hAe]; exact Or.inr h
  have hS : va_S A s.heap s.heap [] := va_S.rf
  have hl := lv_entry ([.ref h0, .int 8]) (n := 2) (Nat.le_of_ble_eq_true rfl)
  rw [lg_entry_eq]
  generalize (lg_sl ([.ref h0, .int 8]) ++ List.replicate (2 - (lg_sl ([.ref h0, .int 8])).length) Slot.unset).toArray = ls at hl ⊢
  have hinX3 : ∀ w ∈ wsX30, w ∈ wsX3_init := by decide +kernel
  have hl : lv_has ls 2 [(0, .ref h0), (1, .int 8)] := hl
  refine lv_aload_n hx hb dX3_init_0 rfl (lv_at hl 0 rfl) ?_
  refine W.objInit hx hb hown (hts (.methodLink RX3 3 objectInit) (List.mem_of_getElem? (i := 1) rfl)) (hts (.instanceMethod objectInit) (List.mem_of_getElem? (i := 2) rfl)) (hts _ (List.mem_of_getElem? (i := 3) rfl)) rfl (by rw [hml]; exact hl.1) rfl dX3_init_1 (Nat.le_of_ble_eq_true rfl) (Nat.le_of_ble_eq_true rfl) ?_
  refine W.eq (g2 := F0 m 4 ls []) rfl ?_
  refine lv_aload_n hx hb dX3_init_4 rfl (lv_at hl 0 rfl) ?_
  refine lv_iload_n hx hb dX3_init_5 rfl (lv_at hl 1 rfl) ?_
  refine va_putF (D := D) (ci := 3) (v := .int 8) (ty := .int) (C := RX3) (T := TX3) (N := 3) hx hb hts hinX3 tyX3 tyX3_ok nmX3 hown hK hP hD hS 0 rfl rfl 0 (by decide) (hts (.fieldLink RX3 9 "TaleBans$Ledger" "limit" "I") (List.mem_of_getElem? (i := 4) rfl)) (fun _ h9 => h9) rfl hin rfl (by decide +kernel) rfl rfl (Nat.le_of_ble_eq_true rfl) dX3_init_6 (fun H locs hP hD hS => ?_)
  have hP : va_P D vwCl [(h0, .inr (3, [.int 8, .null, .int 0]))] H := hP
  have hD : va_D A [(h0, .inr (3, [.int 8, .null, .int 0]))] := hD
  refine lv_aload_n hx hb dX3_init_9 rfl (lv_at hl 0 rfl) ?_
  refine lv_iload_n hx hb dX3_init_10 rfl (lv_at hl 1 rfl) ?_
  refine lv_iconst (v := 4) hx hb dX3_init_11 (by decide) ?_
  refine lv_imul hx hb dX3_init_12 ?_
  refine W_top (v' := .int 32) rfl ?_
  refine k_newa (atype := .int) (a0 := (32, .inl (fun _ => 0))) (N' := 32) hx hb (hts (.arrayClass .int) (List.mem_of_getElem? (i := 5) rfl)) rfl (fun _ => rfl) hK 0 rfl hP hD hS hA (fun _ => rfl) (by decide) rfl (Nat.le_of_ble_eq_true rfl) (Nat.le_of_ble_eq_true rfl) (Nat.le_of_ble_eq_true rfl) dX3_init_13 (fun q1 H hP hD hS => ?_)
  have hP : va_P D vwCl [(h0, .inr (3, [.int 8, .null, .int 0])), (q1, .inl (cy 0, 32, .inl (fun _ => 0)))] H := hP
  have hD : va_D A [(h0, .inr (3, [.int 8, .null, .int 0])), (q1, .inl (cy 0, 32, .inl (fun _ => 0)))] := hD
  refine W.widen (k := 1) (n := 32) (Nat.le_of_ble_eq_true rfl) (Nat.le_of_ble_eq_true rfl) ?_
  refine va_putF (D := D) (ci := 3) (v := .ref q1) (ty := .array .int) (C := RX3) (T := TX3) (N := 3) hx hb hts hinX3 tyX3 tyX3_ok nmX3 hown hK hP hD hS 0 rfl rfl 1 (by decide) (hts (.fieldLink RX3 15 "TaleBans$Ledger" "cells" "[I") (List.mem_of_getElem? (i := 6) rfl)) (fun _ h9 => h9) rfl hin rfl (by decide +kernel) rfl rfl (Nat.le_of_ble_eq_true rfl) dX3_init_15 (fun H locs hP hD hS => ?_)
  have hP : va_P D vwCl [(h0, .inr (3, [.int 8, .ref q1, .int 0])), (q1, .inl (cy 0, 32, .inl (fun _ => 0)))] H := hP
  have hD : va_D A [(h0, .inr (3, [.int 8, .ref q1, .int 0])), (q1, .inl (cy 0, 32, .inl (fun _ => 0)))] := hD
  refine W.widen (k := 1) (n := 32) (Nat.le_of_ble_eq_true rfl) (Nat.le_of_ble_eq_true rfl) ?_
  have hP9 := hP.sub (ws' := [(h0, .inr (3, [.int 8, .ref q1, .int 0])), (q1, .inl (cy 0, 32, .inl (fun _ => 0)))]) [0, 1] rfl
  have hD9 := hD.sub (ws' := [(h0, .inr (3, [.int 8, .ref q1, .int 0])), (q1, .inl (cy 0, 32, .inl (fun _ => 0)))]) [0, 1] (by decide) rfl
  clear hP hD
  exact W.vret hx hb hr (fun t ht hW => ⟨⟨(fun k => [q1].getD k 0), rfl, trivial, P_of ht hP9, hD9⟩, hS.F ht⟩) hS.2.2 dX3_init_18
set_option maxHeartbeats 4000000 in
set_option maxRecDepth 100000 in
theorem mk_X4 (l : Launch) (D : va_G) (cy : Nat → ClassId) (h0 : Nat) (g0 : Nat) (sz : Nat) : Met l yX4_init wsX4_init ({ frames := 1, cells := 6, slots := 75, locals := 20 }) (va_Pc [.ref h0, .ref g0] (MkS D cy [(h0, .inr (4, [.null, .null, .null, .null, .null, .null, .null, .int 0, .int 0, .int 0]))] sz)) (va_Qv (S := Nat → Nat) (fun _ => True) (fun u t => va_P D vwCl [(h0, .inr (4, [.ref g0, .ref (u 0), .ref (u 1), .ref (u 2), .ref (u 3), .ref (u 4), .ref (u 5), .int 0, .int 0, .int 0])), ((u 0), .inl (cy 0, 6, .inl (fun _ => 0))), ((u 1), .inl (cy 0, 6, .inl (fun _ => 0))), ((u 2), .inl (cy 0, 6, .inl (fun _ => 0))), ((u 3), .inl (cy 0, 36, .inl (fun _ => 0))), ((u 4), .inl (cy 0, 18, .inl (fun _ => 0))), ((u 5), .inl (cy 0, 3, .inl (fun _ => 0)))] t.heap ∧ va_D (va_A [(h0, .inr (4, [.null, .null, .null, .null, .null, .null, .null, .int 0, .int 0, .int 0]))] sz) [(h0, .inr (4, [.ref g0, .ref (u 0), .ref (u 1), .ref (u 2), .ref (u 3), .ref (u 4), .ref (u 5), .int 0, .int 0, .int 0])), ((u 0), .inl (cy 0, 6, .inl (fun _ => 0))), ((u 1), .inl (cy 0, 6, .inl (fun _ => 0))), ((u 2), .inl (cy 0, 6, .inl (fun _ => 0))), ((u 3), .inl (cy 0, 36, .inl (fun _ => 0))), ((u 4), .inl (cy 0, 18, .inl (fun _ => 0))), ((u 5), .inl (cy 0, 3, .inl (fun _ => 0)))]) (va_A [(h0, .inr (4, [.null, .null, .null, .null, .null, .null, .null, .int 0, .int 0, .int 0]))] sz)) 6 75 (va_A [(h0, .inr (4, [.null, .null, .null, .null, .null, .null, .null, .int 0, .int 0, .int 0]))] sz) := by
  refine Met.ofW (cc := cX4_init) (maxL := 2) (ret := none) (by decide) rfl ?_
  intro p e s m args below meth c s₁ B hml hv
  obtain ⟨rfl, hsz, hP, hD0, hKW⟩ := hv
  have hx := B.exec
  have hb := B.bytes
  have hr := B.returns
  have hts := atoms_spec (ws := wsX4_init) B.pre
  have hown : s.vm.findClass RX4 = some m.cls := findClass_of_methodNamed B.named
  have hlocks := B.notSynchronized
  have hin : meth.name = "<init>" := (name_of_methodNamed B.named B.method).1
  subst hsz
  have hK := hKW.1
  have hN := hKW.2
  have hD := hD0.self (sz := s.heap.size)
  generalize hAe : va_A [(h0, .inr (4, [.null, .null, .null, .null, .null, .null, .null, .int 0, .int 0, .int 0]))] s.heap.size = A at hD ⊢
  have hA : ∀ q : Nat, s.heap.size ≤ q → A q := fun q h => by rw [← hAe]; exact Or.inr h
  have hS : va_S A s.heap s.heap [] := va_S.rf
  have hl := lv_entry ([.ref h0, .ref g0]) (n := 2) (Nat.le_of_ble_eq_true rfl)
  rw [lg_entry_eq]
  generalize (lg_sl ([.ref h0, .ref g0]) ++ List.replicate (2 - (lg_sl ([.ref h0, .ref g0])).length) Slot.unset).toArray = ls at hl ⊢
  have hinX4 : ∀ w ∈ wsX40, w ∈ wsX4_init := by decide +kernel
  have hl : lv_has ls 2 [(0, .ref h0), (1, .ref g0)] := hl
  refine lv_aload_n hx hb dX4_init_0 rfl (lv_at hl 0 rfl) ?_
  refine W.objInit hx hb hown (hts (.methodLink RX4 3 objectInit) (List.mem_of_getElem? (i := 1) rfl)) (hts (.instanceMethod objectInit) (List.mem_of_getElem? (i := 2) rfl)) (hts _ (List.mem_of_getElem? (i := 3) rfl)) rfl (by rw [hml]; exact hl.1) rfl dX4_init_1 (Nat.le_of_ble_eq_true rfl) (Nat.le_of_ble_eq_true rfl) ?_
  refine W.eq (g2 := F0 m 4 ls []) rfl ?_
  refine lv_aload_n hx hb dX4_init_4 rfl (lv_at hl 0 rfl) ?_
  refine lv_bipush (v := 6) hx hb dX4_init_5 (by decide) ?_
  refine k_newa (atype := .int) (a0 := (6, .inl (fun _ => 0))) (N' := 6) hx hb (hts (.arrayClass .int) (List.mem_of_getElem? (i := 4) rfl)) rfl (fun _ => rfl) hK 0 rfl hP hD hS hA (fun _ => rfl) (by decide) rfl (Nat.le_of_ble_eq_true rfl) (Nat.le_of_ble_eq_true rfl) (Nat.le_of_ble_eq_true rfl) dX4_init_7 (fun q1 H hP hD hS => ?_)
  have hP : va_P D vwCl [(h0, .inr (4, [.null, .null, .null, .null, .null, .null, .null, .int 0, .int 0, .int 0])), (q1, .inl (cy 0, 6, .inl (fun _ => 0)))] H := hP
  have hD : va_D A [(h0, .inr (4, [.null, .null, .null, .null, .null, .null, .null, .int 0, .int 0, .int 0])), (q1, .inl (cy 0, 6, .inl (fun _ => 0)))] := hD
  refine W.widen (k := 1) (n := 6) (Nat.le_of_ble_eq_true rfl) (Nat.le_of_ble_eq_true rfl) ?_
  refine va_putF (D := D) (ci := 4) (v := .ref q1) (ty := .array .int) (C := RX4) (T := TX4) (N := 10) hx hb hts hinX4 tyX4 tyX4_ok nmX4 hown hK hP hD hS 0 rfl rfl 1 (by decide) (hts (.fieldLink RX4 9 "TaleBans$Seasons" "places" "[I") (List.mem_of_getElem? (i := 5) rfl)) (fun _ h9 => h9) rfl hin rfl (by decide +kernel) rfl rfl (Nat.le_of_ble_eq_true rfl) dX4_init_9 (fun H locs hP hD hS => ?_)
  have hP : va_P D vwCl [(h0, .inr (4, [.null, .ref q1, .null, .null, .null, .null, .null, .int 0, .int 0, .int 0])), (q1, .inl (cy 0, 6, .inl (fun _ => 0)))] H := hP
  have hD : va_D A [(h0, .inr (4, [.null, .ref q1, .null, .null, .null, .null, .null, .int 0, .int 0, .int 0])), (q1, .inl (cy 0, 6, .inl (fun _ => 0)))] := hD
  refine lv_aload_n hx hb dX4_init_12 rfl (lv_at hl 0 rfl) ?_
  refine lv_bipush (v := 6) hx hb dX4_init_13 (by decide) ?_
  refine k_newa (atype := .int) (a0 := (6, .inl (fun _ => 0))) (N' := 6) hx hb (hts (.arrayClass .int) (List.mem_of_getElem? (i := 4) rfl)) rfl (fun _ => rfl) hK 0 rfl hP hD hS hA (fun _ => rfl) (by decide) rfl (Nat.le_of_ble_eq_true rfl) (Nat.le_of_ble_eq_true rfl) (Nat.le_of_ble_eq_true rfl) dX4_init_15 (fun q2 H hP hD hS => ?_)
  have hP : va_P D vwCl [(h0, .inr (4, [.null, .ref q1, .null, .null, .null, .null, .null, .int 0, .int 0, .int 0])), (q1, .inl (cy 0, 6, .inl (fun _ => 0))), (q2, .inl (cy 0, 6, .inl (fun _ => 0)))] H := hP
  have hD : va_D A [(h0, .inr (4, [.null, .ref q1, .null, .null, .null, .null, .null, .int 0, .int 0, .int 0])), (q1, .inl (cy 0, 6, .inl (fun _ => 0))), (q2, .inl (cy 0, 6, .inl (fun _ => 0)))] := hD
  refine W.widen (k := 2) (n := 12) (Nat.le_of_ble_eq_true rfl) (Nat.le_of_ble_eq_true rfl) ?_
  refine va_putF (D := D) (ci := 4) (v := .ref q2) (ty := .array .int) (C := RX4) (T := TX4) (N := 10) hx hb hts hinX4 tyX4 tyX4_ok nmX4 hown hK hP hD hS 0 rfl rfl 2 (by decide) (hts (.fieldLink RX4 15 "TaleBans$Seasons" "memories" "[I") (List.mem_of_getElem? (i := 6) rfl)) (fun _ h9 => h9) rfl hin rfl (by decide +kernel) rfl rfl (Nat.le_of_ble_eq_true rfl) dX4_init_17 (fun H locs hP hD hS => ?_)
  have hP : va_P D vwCl [(h0, .inr (4, [.null, .ref q1, .ref q2, .null, .null, .null, .null, .int 0, .int 0, .int 0])), (q1, .inl (cy 0, 6, .inl (fun _ => 0))), (q2, .inl (cy 0, 6, .inl (fun _ => 0)))] H := hP
  have hD : va_D A [(h0, .inr (4, [.null, .ref q1, .ref q2, .null, .null, .null, .null, .int 0, .int 0, .int 0])), (q1, .inl (cy 0, 6, .inl (fun _ => 0))), (q2, .inl (cy 0, 6, .inl (fun _ => 0)))] := hD
  refine lv_aload_n hx hb dX4_init_20 rfl (lv_at hl 0 rfl) ?_
  refine lv_bipush (v := 6) hx hb dX4_init_21 (by decide) ?_
  refine k_newa (atype := .int) (a0 := (6, .inl (fun _ => 0))) (N' := 6) hx hb (hts (.arrayClass .int) (List.mem_of_getElem? (i := 4) rfl)) rfl (fun _ => rfl) hK 0 rfl hP hD hS hA (fun _ => rfl) (by decide) rfl (Nat.le_of_ble_eq_true rfl) (Nat.le_of_ble_eq_true rfl) (Nat.le_of_ble_eq_true rfl) dX4_init_23 (fun q3 H hP hD hS => ?_)
  have hP : va_P D vwCl [(h0, .inr (4, [.null, .ref q1, .ref q2, .null, .null, .null, .null, .int 0, .int 0, .int 0])), (q1, .inl (cy 0, 6, .inl (fun _ => 0))), (q2, .inl (cy 0, 6, .inl (fun _ => 0))), (q3, .inl (cy 0, 6, .inl (fun _ => 0)))] H := hP
  have hD : va_D A [(h0, .inr (4, [.null, .ref q1, .ref q2, .null, .null, .null, .null, .int 0, .int 0, .int 0])), (q1, .inl (cy 0, 6, .inl (fun _ => 0))), (q2, .inl (cy 0, 6, .inl (fun _ => 0))), (q3, .inl (cy 0, 6, .inl (fun _ => 0)))] := hD
  refine W.widen (k := 3) (n := 18) (Nat.le_of_ble_eq_true rfl) (Nat.le_of_ble_eq_true rfl) ?_
  refine va_putF (D := D) (ci := 4) (v := .ref q3) (ty := .array .int) (C := RX4) (T := TX4) (N := 10) hx hb hts hinX4 tyX4 tyX4_ok nmX4 hown hK hP hD hS 0 rfl rfl 3 (by decide) (hts (.fieldLink RX4 18 "TaleBans$Seasons" "known" "[I") (List.mem_of_getElem? (i := 7) rfl)) (fun _ h9 => h9) rfl hin rfl (by decide +kernel) rfl rfl (Nat.le_of_ble_eq_true rfl) dX4_init_25 (fun H locs hP hD hS => ?_)
  have hP : va_P D vwCl [(h0, .inr (4, [.null, .ref q1, .ref q2, .ref q3, .null, .null, .null, .int 0, .int 0, .int 0])), (q1, .inl (cy 0, 6, .inl (fun _ => 0))), (q2, .inl (cy 0, 6, .inl (fun _ => 0))), (q3, .inl (cy 0, 6, .inl (fun _ => 0)))] H := hP
  have hD : va_D A [(h0, .inr (4, [.null, .ref q1, .ref q2, .ref q3, .null, .null, .null, .int 0, .int 0, .int 0])), (q1, .inl (cy 0, 6, .inl (fun _ => 0))), (q2, .inl (cy 0, 6, .inl (fun _ => 0))), (q3, .inl (cy 0, 6, .inl (fun _ => 0)))] := hD
  refine lv_aload_n hx hb dX4_init_28 rfl (lv_at hl 0 rfl) ?_
  refine lv_bipush (v := 36) hx hb dX4_init_29 (by decide) ?_
  refine k_newa (atype := .int) (a0 := (36, .inl (fun _ => 0))) (N' := 36) hx hb (hts (.arrayClass .int) (List.mem_of_getElem? (i := 4) rfl)) rfl (fun _ => rfl) hK 0 rfl hP hD hS hA (fun _ => rfl) (by decide) rfl (Nat.le_of_ble_eq_true rfl) (Nat.le_of_ble_eq_true rfl) (Nat.le_of_ble_eq_true rfl) dX4_init_31 (fun q4 H hP hD hS => ?_)
  have hP : va_P D vwCl [(h0, .inr (4, [.null, .ref q1, .ref q2, .ref q3, .null, .null, .null, .int 0, .int 0, .int 0])), (q1, .inl (cy 0, 6, .inl (fun _ => 0))), (q2, .inl (cy 0, 6, .inl (fun _ => 0))), (q3, .inl (cy 0, 6, .inl (fun _ => 0))), (q4, .inl (cy 0, 36, .inl (fun _ => 0)))] H := hP
  have hD : va_D A [(h0, .inr (4, [.null, .ref q1, .ref q2, .ref q3, .null, .null, .null, .int 0, .int 0, .int 0])), (q1, .inl (cy 0, 6, .inl (fun _ => 0))), (q2, .inl (cy 0, 6, .inl (fun _ => 0))), (q3, .inl (cy 0, 6, .inl (fun _ => 0))), (q4, .inl (cy 0, 36, .inl (fun _ => 0)))] := hD
  refine W.widen (k := 4) (n := 54) (Nat.le_of_ble_eq_true rfl) (Nat.le_of_ble_eq_true rfl) ?_
  refine va_putF (D := D) (ci := 4) (v := .ref q4) (ty := .array .int) (C := RX4) (T := TX4) (N := 10) hx hb hts hinX4 tyX4 tyX4_ok nmX4 hown hK hP hD hS 0 rfl rfl 4 (by decide) (hts (.fieldLink RX4 21 "TaleBans$Seasons" "lastKnown" "[I") (List.mem_of_getElem? (i := 8) rfl)) (fun _ h9 => h9) rfl hin rfl (by decide +kernel) rfl rfl (Nat.le_of_ble_eq_true rfl) dX4_init_33 (fun H locs hP hD hS => ?_)
  have hP : va_P D vwCl [(h0, .inr (4, [.null, .ref q1, .ref q2, .ref q3, .ref q4, .null, .null, .int 0, .int 0, .int 0])), (q1, .inl (cy 0, 6, .inl (fun _ => 0))), (q2, .inl (cy 0, 6, .inl (fun _ => 0))), (q3, .inl (cy 0, 6, .inl (fun _ => 0))), (q4, .inl (cy 0, 36, .inl (fun _ => 0)))] H := hP
  have hD : va_D A [(h0, .inr (4, [.null, .ref q1, .ref q2, .ref q3, .ref q4, .null, .null, .int 0, .int 0, .int 0])), (q1, .inl (cy 0, 6, .inl (fun _ => 0))), (q2, .inl (cy 0, 6, .inl (fun _ => 0))), (q3, .inl (cy 0, 6, .inl (fun _ => 0))), (q4, .inl (cy 0, 36, .inl (fun _ => 0)))] := hD
  refine lv_aload_n hx hb dX4_init_36 rfl (lv_at hl 0 rfl) ?_
  refine lv_bipush (v := 18) hx hb dX4_init_37 (by decide) ?_
  refine k_newa (atype := .int) (a0 := (18, .inl (fun _ => 0))) (N' := 18) hx hb (hts (.arrayClass .int) (List.mem_of_getElem? (i := 4) rfl)) rfl (fun _ => rfl) hK 0 rfl hP hD hS hA (fun _ => rfl) (by decide) rfl (Nat.le_of_ble_eq_true rfl) (Nat.le_of_ble_eq_true rfl) (Nat.le_of_ble_eq_true rfl) dX4_init_39 (fun q5 H hP hD hS => ?_)
  have hP : va_P D vwCl [(h0, .inr (4, [.null, .ref q1, .ref q2, .ref q3, .ref q4, .null, .null, .int 0, .int 0, .int 0])), (q1, .inl (cy 0, 6, .inl (fun _ => 0))), (q2, .inl (cy 0, 6, .inl (fun _ => 0))), (q3, .inl (cy 0, 6, .inl (fun _ => 0))), (q4, .inl (cy 0, 36, .inl (fun _ => 0))), (q5, .inl (cy 0, 18, .inl (fun _ => 0)))] H := hP
  have hD : va_D A [(h0, .inr (4, [.null, .ref q1, .ref q2, .ref q3, .ref q4, .null, .null, .int 0, .int 0, .int 0])), (q1, .inl (cy 0, 6, .inl (fun _ => 0))), (q2, .inl (cy 0, 6, .inl (fun _ => 0))), (q3, .inl (cy 0, 6, .inl (fun _ => 0))), (q4, .inl (cy 0, 36, .inl (fun _ => 0))), (q5, .inl (cy 0, 18, .inl (fun _ => 0)))] := hD
  refine W.widen (k := 5) (n := 72) (Nat.le_of_ble_eq_true rfl) (Nat.le_of_ble_eq_true rfl) ?_
  refine va_putF (D := D) (ci := 4) (v := .ref q5) (ty := .array .int) (C := RX4) (T := TX4) (N := 10) hx hb hts hinX4 tyX4 tyX4_ok nmX4 hown hK hP hD hS 0 rfl rfl 5 (by decide) (hts (.fieldLink RX4 24 "TaleBans$Seasons" "lastTold" "[I") (List.mem_of_getElem? (i := 9) rfl)) (fun _ h9 => h9) rfl hin rfl (by decide +kernel) rfl rfl (Nat.le_of_ble_eq_true rfl) dX4_init_41 (fun H locs hP hD hS => ?_)
  have hP : va_P D vwCl [(h0, .inr (4, [.null, .ref q1, .ref q2, .ref q3, .ref q4, .ref q5, .null, .int 0, .int 0, .int 0])), (q1, .inl (cy 0, 6, .inl (fun _ => 0))), (q2, .inl (cy 0, 6, .inl (fun _ => 0))), (q3, .inl (cy 0, 6, .inl (fun _ => 0))), (q4, .inl (cy 0, 36, .inl (fun _ => 0))), (q5, .inl (cy 0, 18, .inl (fun _ => 0)))] H := hP
  have hD : va_D A [(h0, .inr (4, [.null, .ref q1, .ref q2, .ref q3, .ref q4, .ref q5, .null, .int 0, .int 0, .int 0])), (q1, .inl (cy 0, 6, .inl (fun _ => 0))), (q2, .inl (cy 0, 6, .inl (fun _ => 0))), (q3, .inl (cy 0, 6, .inl (fun _ => 0))), (q4, .inl (cy 0, 36, .inl (fun _ => 0))), (q5, .inl (cy 0, 18, .inl (fun _ => 0)))] := hD
  refine lv_aload_n hx hb dX4_init_44 rfl (lv_at hl 0 rfl) ?_
  refine lv_iconst (v := 3) hx hb dX4_init_45 (by decide) ?_
  refine k_newa (atype := .int) (a0 := (3, .inl (fun _ => 0))) (N' := 3) hx hb (hts (.arrayClass .int) (List.mem_of_getElem? (i := 4) rfl)) rfl (fun _ => rfl) hK 0 rfl hP hD hS hA (fun _ => rfl) (by decide) rfl (Nat.le_of_ble_eq_true rfl) (Nat.le_of_ble_eq_true rfl) (Nat.le_of_ble_eq_true rfl) dX4_init_46 (fun q6 H hP hD hS => ?_)
  have hP : va_P D vwCl [(h0, .inr (4, [.null, .ref q1, .ref q2, .ref q3, .ref q4, .ref q5, .null, .int 0, .int 0, .int 0])), (q1, .inl (cy 0, 6, .inl (fun _ => 0))), (q2, .inl (cy 0, 6, .inl (fun _ => 0))), (q3, .inl (cy 0, 6, .inl (fun _ => 0))), (q4, .inl (cy 0, 36, .inl (fun _ => 0))), (q5, .inl (cy 0, 18, .inl (fun _ => 0))), (q6, .inl (cy 0, 3, .inl (fun _ => 0)))] H := hP
  have hD : va_D A [(h0, .inr (4, [.null, .ref q1, .ref q2, .ref q3, .ref q4, .ref q5, .null, .int 0, .int 0, .int 0])), (q1, .inl (cy 0, 6, .inl (fun _ => 0))), (q2, .inl (cy 0, 6, .inl (fun _ => 0))), (q3, .inl (cy 0, 6, .inl (fun _ => 0))), (q4, .inl (cy 0, 36, .inl (fun _ => 0))), (q5, .inl (cy 0, 18, .inl (fun _ => 0))), (q6, .inl (cy 0, 3, .inl (fun _ => 0)))] := hD
  refine W.widen (k := 6) (n := 75) (Nat.le_of_ble_eq_true rfl) (Nat.le_of_ble_eq_true rfl) ?_
  refine va_putF (D := D) (ci := 4) (v := .ref q6) (ty := .array .int) (C := RX4) (T := TX4) (N := 10) hx hb hts hinX4 tyX4 tyX4_ok nmX4 hown hK hP hD hS 0 rfl rfl 6 (by decide) (hts (.fieldLink RX4 27 "TaleBans$Seasons" "toldNow" "[I") (List.mem_of_getElem? (i := 10) rfl)) (fun _ h9 => h9) rfl hin rfl (by decide +kernel) rfl rfl (Nat.le_of_ble_eq_true rfl) dX4_init_48 (fun H locs hP hD hS => ?_)
  have hP : va_P D vwCl [(h0, .inr (4, [.null, .ref q1, .ref q2, .ref q3, .ref q4, .ref q5, .ref q6, .int 0, .int 0, .int 0])), (q1, .inl (cy 0, 6, .inl (fun _ => 0))), (q2, .inl (cy 0, 6, .inl (fun _ => 0))), (q3, .inl (cy 0, 6, .inl (fun _ => 0))), (q4, .inl (cy 0, 36, .inl (fun _ => 0))), (q5, .inl (cy 0, 18, .inl (fun _ => 0))), (q6, .inl (cy 0, 3, .inl (fun _ => 0)))] H := hP
  have hD : va_D A [(h0, .inr (4, [.null, .ref q1, .ref q2, .ref q3, .ref q4, .ref q5, .ref q6, .int 0, .int 0, .int 0])), (q1, .inl (cy 0, 6, .inl (fun _ => 0))), (q2, .inl (cy 0, 6, .inl (fun _ => 0))), (q3, .inl (cy 0, 6, .inl (fun _ => 0))), (q4, .inl (cy 0, 36, .inl (fun _ => 0))), (q5, .inl (cy 0, 18, .inl (fun _ => 0))), (q6, .inl (cy 0, 3, .inl (fun _ => 0)))] := hD
  refine lv_aload_n hx hb dX4_init_51 rfl (lv_at hl 0 rfl) ?_
  refine lv_aload_n hx hb dX4_init_52 rfl (lv_at hl 1 rfl) ?_
  refine va_putF (D := D) (ci := 4) (v := .ref g0) (ty := .object "TaleBans$Steppe") (C := RX4) (T := TX4) (N := 10) hx hb hts hinX4 tyX4 tyX4_ok nmX4 hown hK hP hD hS 0 rfl rfl 0 (by decide) (hts (.fieldLink RX4 30 "TaleBans$Seasons" "land" "LTaleBans$Steppe;") (List.mem_of_getElem? (i := 11) rfl)) (fun _ h9 => h9) rfl hin rfl (by decide +kernel) rfl rfl (Nat.le_of_ble_eq_true rfl) dX4_init_53 (fun H locs hP hD hS => ?_)
  have hP : va_P D vwCl [(h0, .inr (4, [.ref g0, .ref q1, .ref q2, .ref q3, .ref q4, .ref q5, .ref q6, .int 0, .int 0, .int 0])), (q1, .inl (cy 0, 6, .inl (fun _ => 0))), (q2, .inl (cy 0, 6, .inl (fun _ => 0))), (q3, .inl (cy 0, 6, .inl (fun _ => 0))), (q4, .inl (cy 0, 36, .inl (fun _ => 0))), (q5, .inl (cy 0, 18, .inl (fun _ => 0))), (q6, .inl (cy 0, 3, .inl (fun _ => 0)))] H := hP
  have hD : va_D A [(h0, .inr (4, [.ref g0, .ref q1, .ref q2, .ref q3, .ref q4, .ref q5, .ref q6, .int 0, .int 0, .int 0])), (q1, .inl (cy 0, 6, .inl (fun _ => 0))), (q2, .inl (cy 0, 6, .inl (fun _ => 0))), (q3, .inl (cy 0, 6, .inl (fun _ => 0))), (q4, .inl (cy 0, 36, .inl (fun _ => 0))), (q5, .inl (cy 0, 18, .inl (fun _ => 0))), (q6, .inl (cy 0, 3, .inl (fun _ => 0)))] := hD
  refine W.widen (k := 6) (n := 75) (Nat.le_of_ble_eq_true rfl) (Nat.le_of_ble_eq_true rfl) ?_
  have hP9 := hP.sub (ws' := [(h0, .inr (4, [.ref g0, .ref q1, .ref q2, .ref q3, .ref q4, .ref q5, .ref q6, .int 0, .int 0, .int 0])), (q1, .inl (cy 0, 6, .inl (fun _ => 0))), (q2, .inl (cy 0, 6, .inl (fun _ => 0))), (q3, .inl (cy 0, 6, .inl (fun _ => 0))), (q4, .inl (cy 0, 36, .inl (fun _ => 0))), (q5, .inl (cy 0, 18, .inl (fun _ => 0))), (q6, .inl (cy 0, 3, .inl (fun _ => 0)))]) [0, 1, 2, 3, 4, 5, 6] rfl
  have hD9 := hD.sub (ws' := [(h0, .inr (4, [.ref g0, .ref q1, .ref q2, .ref q3, .ref q4, .ref q5, .ref q6, .int 0, .int 0, .int 0])), (q1, .inl (cy 0, 6, .inl (fun _ => 0))), (q2, .inl (cy 0, 6, .inl (fun _ => 0))), (q3, .inl (cy 0, 6, .inl (fun _ => 0))), (q4, .inl (cy 0, 36, .inl (fun _ => 0))), (q5, .inl (cy 0, 18, .inl (fun _ => 0))), (q6, .inl (cy 0, 3, .inl (fun _ => 0)))]) [0, 1, 2, 3, 4, 5, 6] (by decide) rfl
  clear hP hD
  exact W.vret hx hb hr (fun t ht hW => ⟨⟨(fun k => [q1, q2, q3, q4, q5, q6].getD k 0), rfl, trivial, P_of ht hP9, hD9⟩, hS.F ht⟩) hS.2.2 dX4_init_56
set_option maxHeartbeats 4000000 in
set_option maxRecDepth 100000 in
theorem mk_X5 (l : Launch) (D : va_G) (cy : Nat → ClassId) (h0 : Nat) (sz : Nat) : Met l yX5_init wsX5_init ({ frames := 1, cells := 1, slots := 60, locals := 20 }) (va_Pc [.ref h0] (MkS D cy [(h0, .inr (5, [.null, .int 0, .int 0]))] sz)) (va_Qv (S := Nat → Nat) (fun _ => True) (fun u t => va_P D vwCl [(h0, .inr (5, [.ref (u 0), .int (-1), .int 0])), ((u 0), .inl (cy 0, 60, .inl (fun _ => 0)))] t.heap ∧ va_D (va_A [(h0, .inr (5, [.null, .int 0, .int 0]))] sz) [(h0, .inr (5, [.ref (u 0), .int (-1), .int 0])), ((u 0), .inl (cy 0, 60, .inl (fun _ => 0)))]) (va_A [(h0, .inr (5, [.null, .int 0, .int 0]))] sz)) 1 60 (va_A [(h0, .inr (5, [.null, .int 0, .int 0]))] sz) := by
  refine Met.ofW (cc := cX5_init) (maxL := 1) (ret := none) (by decide) rfl ?_
  intro p e s m args below meth c s₁ B hml hv
  obtain ⟨rfl, hsz, hP, hD0, hKW⟩ := hv
  have hx := B.exec
  have hb := B.bytes
  have hr := B.returns
  have hts := atoms_spec (ws := wsX5_init) B.pre
  have hown : s.vm.findClass RX5 = some m.cls := findClass_of_methodNamed B.named
  have hlocks := B.notSynchronized
  have hin : meth.name = "<init>" := (name_of_methodNamed B.named B.method).1
  subst hsz
  have hK := hKW.1
  have hN := hKW.2
  have hD := hD0.self (sz := s.heap.size)
  generalize hAe : va_A [(h0, .inr (5, [.null, .int 0, .int 0]))] s.heap.size = A at hD ⊢
  have hA : ∀ q : Nat, s.heap.size ≤ q → A q := fun q h => by rw [← hAe]; exact Or.inr h
  have hS : va_S A s.heap s.heap [] := va_S.rf
  have hl := lv_entry ([.ref h0]) (n := 1) (Nat.le_of_ble_eq_true rfl)
  rw [lg_entry_eq]
  generalize (lg_sl ([.ref h0]) ++ List.replicate (1 - (lg_sl ([.ref h0])).length) Slot.unset).toArray = ls at hl ⊢
  have hinX5 : ∀ w ∈ wsX50, w ∈ wsX5_init := by decide +kernel
  have hl : lv_has ls 1 [(0, .ref h0)] := hl
  refine lv_aload_n hx hb dX5_init_0 rfl (lv_at hl 0 rfl) ?_
  refine W.objInit hx hb hown (hts (.methodLink RX5 3 objectInit) (List.mem_of_getElem? (i := 1) rfl)) (hts (.instanceMethod objectInit) (List.mem_of_getElem? (i := 2) rfl)) (hts _ (List.mem_of_getElem? (i := 3) rfl)) rfl (by rw [hml]; exact hl.1) rfl dX5_init_1 (Nat.le_of_ble_eq_true rfl) (Nat.le_of_ble_eq_true rfl) ?_
  refine W.eq (g2 := F0 m 4 ls []) rfl ?_
  refine lv_aload_n hx hb dX5_init_4 rfl (lv_at hl 0 rfl) ?_
  refine lv_bipush (v := 60) hx hb dX5_init_5 (by decide) ?_
  refine k_newa (atype := .int) (a0 := (60, .inl (fun _ => 0))) (N' := 60) hx hb (hts (.arrayClass .int) (List.mem_of_getElem? (i := 4) rfl)) rfl (fun _ => rfl) hK 0 rfl hP hD hS hA (fun _ => rfl) (by decide) rfl (Nat.le_of_ble_eq_true rfl) (Nat.le_of_ble_eq_true rfl) (Nat.le_of_ble_eq_true rfl) dX5_init_7 (fun q1 H hP hD hS => ?_)
  have hP : va_P D vwCl [(h0, .inr (5, [.null, .int 0, .int 0])), (q1, .inl (cy 0, 60, .inl (fun _ => 0)))] H := hP
  have hD : va_D A [(h0, .inr (5, [.null, .int 0, .int 0])), (q1, .inl (cy 0, 60, .inl (fun _ => 0)))] := hD
  refine W.widen (k := 1) (n := 60) (Nat.le_of_ble_eq_true rfl) (Nat.le_of_ble_eq_true rfl) ?_
  refine va_putF (D := D) (ci := 5) (v := .ref q1) (ty := .array .int) (C := RX5) (T := TX5) (N := 3) hx hb hts hinX5 tyX5 tyX5_ok nmX5 hown hK hP hD hS 0 rfl rfl 0 (by decide) (hts (.fieldLink RX5 9 "TaleBans$Sheet" "cells" "[I") (List.mem_of_getElem? (i := 5) rfl)) (fun _ h9 => h9) rfl hin rfl (by decide +kernel) rfl rfl (Nat.le_of_ble_eq_true rfl) dX5_init_9 (fun H locs hP hD hS => ?_)
  have hP : va_P D vwCl [(h0, .inr (5, [.ref q1, .int 0, .int 0])), (q1, .inl (cy 0, 60, .inl (fun _ => 0)))] H := hP
  have hD : va_D A [(h0, .inr (5, [.ref q1, .int 0, .int 0])), (q1, .inl (cy 0, 60, .inl (fun _ => 0)))] := hD
  refine lv_aload_n hx hb dX5_init_12 rfl (lv_at hl 0 rfl) ?_
  refine lv_iconst (v := (-1)) hx hb dX5_init_13 (by decide) ?_
  refine va_put (D := D) (ci := 5) (v := .int (-1)) (ty := .int) (C := RX5) (T := TX5) (N := 3) hx hb hts hinX5 tyX5 tyX5_ok nmX5 hown hK hP hD hS 0 rfl rfl 1 (by decide) (hts (.fieldLink RX5 15 "TaleBans$Sheet" "lane" "I") (List.mem_of_getElem? (i := 6) rfl)) (fun _ h9 => h9) rfl (by decide +kernel) rfl rfl (Nat.le_of_ble_eq_true rfl) dX5_init_14 (fun H locs hP hD hS => ?_)
  have hP : va_P D vwCl [(h0, .inr (5, [.ref q1, .int (-1), .int 0])), (q1, .inl (cy 0, 60, .inl (fun _ => 0)))] H := hP
  have hD : va_D A [(h0, .inr (5, [.ref q1, .int (-1), .int 0])), (q1, .inl (cy 0, 60, .inl (fun _ => 0)))] := hD
  refine W.widen (k := 1) (n := 60) (Nat.le_of_ble_eq_true rfl) (Nat.le_of_ble_eq_true rfl) ?_
  have hP9 := hP.sub (ws' := [(h0, .inr (5, [.ref q1, .int (-1), .int 0])), (q1, .inl (cy 0, 60, .inl (fun _ => 0)))]) [0, 1] rfl
  have hD9 := hD.sub (ws' := [(h0, .inr (5, [.ref q1, .int (-1), .int 0])), (q1, .inl (cy 0, 60, .inl (fun _ => 0)))]) [0, 1] (by decide) rfl
  clear hP hD
  exact W.vret hx hb hr (fun t ht hW => ⟨⟨(fun k => [q1].getD k 0), rfl, trivial, P_of ht hP9, hD9⟩, hS.F ht⟩) hS.2.2 dX5_init_17
set_option maxHeartbeats 4000000 in
set_option maxRecDepth 100000 in
theorem mk_X7 (l : Launch) (D : va_G) (cy : Nat → ClassId) (h0 : Nat) (sz : Nat) : Met l yX7_init wsX7_init ({ frames := 1, cells := 0, slots := 0, locals := 20 }) (va_Pc [.ref h0] (MkS D cy [(h0, .inr (7, [.int 0]))] sz)) (va_Qv (S := Nat → Nat) (fun _ => True) (fun u t => va_P D vwCl [(h0, .inr (7, [.int 0]))] t.heap ∧ va_D (va_A [(h0, .inr (7, [.int 0]))] sz) [(h0, .inr (7, [.int 0]))]) (va_A [(h0, .inr (7, [.int 0]))] sz)) 0 0 (va_A [(h0, .inr (7, [.int 0]))] sz) := by
  refine Met.ofW (cc := cX7_init) (maxL := 1) (ret := none) (by decide) rfl ?_
  intro p e s m args below meth c s₁ B hml hv
  obtain ⟨rfl, hsz, hP, hD0, hKW⟩ := hv
  have hx := B.exec
  have hb := B.bytes
  have hr := B.returns
  have hts := atoms_spec (ws := wsX7_init) B.pre
  have hown : s.vm.findClass RX7 = some m.cls := findClass_of_methodNamed B.named
  have hlocks := B.notSynchronized
  have hin : meth.name = "<init>" := (name_of_methodNamed B.named B.method).1
  subst hsz
  have hK := hKW.1
  have hN := hKW.2
  have hD := hD0.self (sz := s.heap.size)
  generalize hAe : va_A [(h0, .inr (7, [.int 0]))] s.heap.size = A at hD ⊢
  have hA : ∀ q : Nat, s.heap.size ≤ q → A q := fun q h => by rw [← hAe]; exact Or.inr h
  have hS : va_S A s.heap s.heap [] := va_S.rf
  have hl := lv_entry ([.ref h0]) (n := 1) (Nat.le_of_ble_eq_true rfl)
  rw [lg_entry_eq]
  generalize (lg_sl ([.ref h0]) ++ List.replicate (1 - (lg_sl ([.ref h0])).length) Slot.unset).toArray = ls at hl ⊢
  have hl : lv_has ls 1 [(0, .ref h0)] := hl
  refine lv_aload_n hx hb dX7_init_0 rfl (lv_at hl 0 rfl) ?_
  refine W.objInit hx hb hown (hts (.methodLink RX7 1 objectInit) (List.mem_of_getElem? (i := 1) rfl)) (hts (.instanceMethod objectInit) (List.mem_of_getElem? (i := 2) rfl)) (hts _ (List.mem_of_getElem? (i := 3) rfl)) rfl (by rw [hml]; exact hl.1) rfl dX7_init_1 (Nat.le_of_ble_eq_true rfl) (Nat.le_of_ble_eq_true rfl) ?_
  refine W.eq (g2 := F0 m 4 ls []) rfl ?_
  refine W.widen (k := 0) (n := 0) (Nat.le_of_ble_eq_true rfl) (Nat.le_of_ble_eq_true rfl) ?_
  have hP9 := hP.sub (ws' := [(h0, .inr (7, [.int 0]))]) [0] rfl
  have hD9 := hD.sub (ws' := [(h0, .inr (7, [.int 0]))]) [0] (by decide) rfl
  clear hP hD
  exact W.vret hx hb hr (fun t ht hW => ⟨⟨(fun _ => 0), rfl, trivial, P_of ht hP9, hD9⟩, hS.F ht⟩) hS.2.2 dX7_init_4
set_option maxHeartbeats 4000000 in
set_option maxRecDepth 100000 in
theorem mk_X6 (l : Launch) (D : va_G) (cy : Nat → ClassId) (h0 : Nat) (sz : Nat) : Met l yX6_init wsX6_init ({ frames := 2, cells := 9, slots := 130, locals := 41 }) (va_Pc [.ref h0] (MkT D cy [(h0, .inr (6, [.null, .null, .null, .null, .null, .int 0, .int 0, .int 0]))] sz)) (va_Qv (S := Nat → Nat) (fun _ => True) (fun u t => va_P D vwCl [(h0, .inr (6, [.ref (u 0), .ref (u 1), .ref (u 3), .ref (u 5), .ref (u 7), .int 0, .int 0, .int 0])), ((u 0), .inl (cy 3, 6, .inr (.inr (.inr (.inr (fun _ => none)))))), ((u 1), .inr (3, [.int 6, .ref (u 2), .int 0])), ((u 2), .inl (cy 0, 24, .inl (fun _ => 0))), ((u 3), .inr (3, [.int 8, .ref (u 4), .int 0])), ((u 4), .inl (cy 0, 32, .inl (fun _ => 0))), ((u 5), .inr (3, [.int 6, .ref (u 6), .int 0])), ((u 6), .inl (cy 0, 24, .inl (fun _ => 0))), ((u 7), .inr (3, [.int 8, .ref (u 8), .int 0])), ((u 8), .inl (cy 0, 32, .inl (fun _ => 0)))] t.heap ∧ va_D (va_A [(h0, .inr (6, [.null, .null, .null, .null, .null, .int 0, .int 0, .int 0]))] sz) [(h0, .inr (6, [.ref (u 0), .ref (u 1), .ref (u 3), .ref (u 5), .ref (u 7), .int 0, .int 0, .int 0])), ((u 0), .inl (cy 3, 6, .inr (.inr (.inr (.inr (fun _ => none)))))), ((u 1), .inr (3, [.int 6, .ref (u 2), .int 0])), ((u 2), .inl (cy 0, 24, .inl (fun _ => 0))), ((u 3), .inr (3, [.int 8, .ref (u 4), .int 0])), ((u 4), .inl (cy 0, 32, .inl (fun _ => 0))), ((u 5), .inr (3, [.int 6, .ref (u 6), .int 0])), ((u 6), .inl (cy 0, 24, .inl (fun _ => 0))), ((u 7), .inr (3, [.int 8, .ref (u 8), .int 0])), ((u 8), .inl (cy 0, 32, .inl (fun _ => 0)))]) (va_A [(h0, .inr (6, [.null, .null, .null, .null, .null, .int 0, .int 0, .int 0]))] sz)) 9 130 (va_A [(h0, .inr (6, [.null, .null, .null, .null, .null, .int 0, .int 0, .int 0]))] sz) := by
  refine Met.ofW (cc := cX6_init) (maxL := 1) (ret := none) (by decide) rfl ?_
  intro p e s m args below meth c s₁ B hml hv
  obtain ⟨rfl, ⟨hsz, hP, hD0, hKW⟩, hO⟩ := hv
  have hx := B.exec
  have hb := B.bytes
  have hr := B.returns
  have hts := atoms_spec (ws := wsX6_init) B.pre
  have hown : s.vm.findClass RX6 = some m.cls := findClass_of_methodNamed B.named
  have hlocks := B.notSynchronized
  have hin : meth.name = "<init>" := (name_of_methodNamed B.named B.method).1
  subst hsz
  have hK := hKW.1
  have hN := hKW.2
  have hD := hD0.self (sz := s.heap.size)
  generalize hAe : va_A [(h0, .inr (6, [.null, .null, .null, .null, .null, .int 0, .int 0, .int 0]))] s.heap.size = A at hD ⊢
  have hA : ∀ q : Nat, s.heap.size ≤ q → A q := fun q h => by rw [← hAe]; exact Or.inr h
  have hS : va_S A s.heap s.heap [] := va_S.rf
  have hl := lv_entry ([.ref h0]) (n := 1) (Nat.le_of_ble_eq_true rfl)
  rw [lg_entry_eq]
  generalize (lg_sl ([.ref h0]) ++ List.replicate (1 - (lg_sl ([.ref h0])).length) Slot.unset).toArray = ls at hl ⊢
  have hinX3 : ∀ w ∈ wsX30, w ∈ wsX6_init := by decide +kernel
  have hinX6 : ∀ w ∈ wsX60, w ∈ wsX6_init := by decide +kernel
  have hl : lv_has ls 1 [(0, .ref h0)] := hl
  refine lv_aload_n hx hb dX6_init_0 rfl (lv_at hl 0 rfl) ?_
  refine W.objInit hx hb hown (hts (.methodLink RX6 3 objectInit) (List.mem_of_getElem? (i := 1) rfl)) (hts (.instanceMethod objectInit) (List.mem_of_getElem? (i := 2) rfl)) (hts _ (List.mem_of_getElem? (i := 3) rfl)) rfl (by rw [hml]; exact hl.1) rfl dX6_init_1 (Nat.le_of_ble_eq_true rfl) (Nat.le_of_ble_eq_true rfl) ?_
  refine W.eq (g2 := F0 m 4 ls []) rfl ?_
  refine lv_aload_n hx hb dX6_init_4 rfl (lv_at hl 0 rfl) ?_
  refine lv_bipush (v := 6) hx hb dX6_init_5 (by decide) ?_
  refine k_newq (N' := 6) hx hb hown (hts (.classLink RX6 9 RX2) (List.mem_of_getElem? (i := 4) rfl)) hO.2 hK 3 rfl hP hD hS hA (by decide) rfl (Nat.le_of_ble_eq_true rfl) (Nat.le_of_ble_eq_true rfl) (Nat.le_of_ble_eq_true rfl) dX6_init_7 (fun q1 H hP hD hS => ?_)
  have hP : va_P D vwCl [(h0, .inr (6, [.null, .null, .null, .null, .null, .int 0, .int 0, .int 0])), (q1, .inl (cy 3, 6, .inr (.inr (.inr (.inr (fun _ => none))))))] H := hP
  have hD : va_D A [(h0, .inr (6, [.null, .null, .null, .null, .null, .int 0, .int 0, .int 0])), (q1, .inl (cy 3, 6, .inr (.inr (.inr (.inr (fun _ => none))))))] := hD
  refine W.widen (k := 1) (n := 6) (Nat.le_of_ble_eq_true rfl) (Nat.le_of_ble_eq_true rfl) ?_
  refine va_putF (D := D) (ci := 6) (v := .ref q1) (ty := .array (.object "TaleBans$Herder")) (C := RX6) (T := TX6) (N := 8) hx hb hts hinX6 tyX6 tyX6_ok nmX6 hown hK hP hD hS 0 rfl rfl 0 (by decide) (hts (.fieldLink RX6 11 "TaleBans$Steppe" "people" "[LTaleBans$Herder;") (List.mem_of_getElem? (i := 5) rfl)) (fun _ h9 => h9) rfl hin rfl (by decide +kernel) rfl rfl (Nat.le_of_ble_eq_true rfl) dX6_init_10 (fun H locs hP hD hS => ?_)
  have hP : va_P D vwCl [(h0, .inr (6, [.ref q1, .null, .null, .null, .null, .int 0, .int 0, .int 0])), (q1, .inl (cy 3, 6, .inr (.inr (.inr (.inr (fun _ => none))))))] H := hP
  have hD : va_D A [(h0, .inr (6, [.ref q1, .null, .null, .null, .null, .int 0, .int 0, .int 0])), (q1, .inl (cy 3, 6, .inr (.inr (.inr (.inr (fun _ => none))))))] := hD
  refine lv_aload_n hx hb dX6_init_13 rfl (lv_at hl 0 rfl) ?_
  refine va_new (ci := 3) (fs := [.int 0, .null, .int 0]) (C := RX3) (T := TX3) (N := 3) hx hb hts hinX3 tyX3 tyX3_ok hown (hts (.classLink RX6 17 RX3) (List.mem_of_getElem? (i := 6) rfl)) (hts (.instantiable RX3 3) (List.mem_of_getElem? (i := 7) rfl)) (hts (.initialized RX3) (List.mem_of_getElem? (i := 8) rfl)) hK hP hD hS hA rfl (fun j hj => by rcases (show j = 0 ∨ j = 1 ∨ j = 2 by omega) with rfl | rfl | rfl <;> rfl) (Nat.le_of_ble_eq_true rfl) (Nat.le_of_ble_eq_true rfl) dX6_init_14 (fun q2 H hP hD hS => ?_)
  have hP : va_P D vwCl [(h0, .inr (6, [.ref q1, .null, .null, .null, .null, .int 0, .int 0, .int 0])), (q1, .inl (cy 3, 6, .inr (.inr (.inr (.inr (fun _ => none)))))), (q2, .inr (3, [.int 0, .null, .int 0]))] H := hP
  have hD : va_D A [(h0, .inr (6, [.ref q1, .null, .null, .null, .null, .int 0, .int 0, .int 0])), (q1, .inl (cy 3, 6, .inr (.inr (.inr (.inr (fun _ => none)))))), (q2, .inr (3, [.int 0, .null, .int 0]))] := hD
  refine W.widen (k := 2) (n := 9) (Nat.le_of_ble_eq_true rfl) (Nat.le_of_ble_eq_true rfl) ?_
  refine lv_dup hx hb dX6_init_17 rfl ?_
  refine lv_bipush (v := 6) hx hb dX6_init_18 (by decide) ?_
  have hPc := hP.sub (ws' := [(q2, .inr (3, [.int 0, .null, .int 0]))]) [2] rfl
  have hDc := hD.sub (ws' := [(q2, .inr (3, [.int 0, .null, .int 0]))]) [2] (by decide) rfl
  have hFc := va_free (wc := [(q2, .inr (3, [.int 0, .null, .int 0]))]) hD hS hA [2] rfl
  refine va_callv (va_runIN (As := [.int 6]) (rest := [.ref q2, .ref h0]) ⟨hx, hb, hml, hown, hts⟩ (mk_X3_6 l D cy q2 H.size) ⟨va_cnB 1 hts gX6_init_X3_init_n19 rfl rfl rfl (nwm_21 hN) (hts (.initialized RX3) (List.mem_of_getElem? (i := 8) rfl)) (by decide +kernel) ⟨Nat.le_of_ble_eq_true rfl, Nat.le_of_ble_eq_true rfl⟩, rfl, (hts (.instanceMethod yX3_init) (List.mem_of_getElem? (i := 13) rfl))⟩ ⟨fun a U g mk q => ⟨q.1, q.2.blind⟩, fun U hU hW => ⟨rfl, MkS.pre hPc hDc hKW hU hW⟩⟩ rfl rfl hl.1 rfl (lv_room (Nat.le_of_ble_eq_true rfl)) dX6_init_20 ⟨Nat.le_of_ble_eq_true rfl, Nat.le_of_ble_eq_true rfl⟩) hS (fun q _ h => hFc q h) hFc (fun u3 t H1 locs ht hvm hw hB hz1 hk1 hS => ?_)
  obtain ⟨hP1, hD1⟩ := hB
  rw [ht] at hP1
  obtain ⟨hP, hD⟩ := va_join (wr := [(h0, .inr (6, [.ref q1, .null, .null, .null, .null, .int 0, .int 0, .int 0])), (q1, .inl (cy 3, 6, .inr (.inr (.inr (.inr (fun _ => none))))))]) (w1 := [(q2, .inr (3, [.int 6, .ref (u3 0), .int 0])), ((u3 0), .inl (cy 0, 24, .inl (fun _ => 0)))]) hP hD [2] [0, 1] rfl rfl (by decide) (by decide) hk1 hFc hP1 hD1
  clear hP1 hD1 hPc hDc
  generalize H1 = H at hP hS ⊢
  have hP : va_P D vwCl [(h0, .inr (6, [.ref q1, .null, .null, .null, .null, .int 0, .int 0, .int 0])), (q1, .inl (cy 3, 6, .inr (.inr (.inr (.inr (fun _ => none)))))), (q2, .inr (3, [.int 6, .ref (u3 0), .int 0])), ((u3 0), .inl (cy 0, 24, .inl (fun _ => 0)))] H := hP
  have hD : va_D A [(h0, .inr (6, [.ref q1, .null, .null, .null, .null, .int 0, .int 0, .int 0])), (q1, .inl (cy 3, 6, .inr (.inr (.inr (.inr (fun _ => none)))))), (q2, .inr (3, [.int 6, .ref (u3 0), .int 0])), ((u3 0), .inl (cy 0, 24, .inl (fun _ => 0)))] := hD
  refine W.widen (k := 3) (n := 33) (Nat.le_of_ble_eq_true rfl) (Nat.le_of_ble_eq_true rfl) ?_
  refine va_putF (D := D) (ci := 6) (v := .ref q2) (ty := .object "TaleBans$Ledger") (C := RX6) (T := TX6) (N := 8) hx hb hts hinX6 tyX6 tyX6_ok nmX6 hown hK hP hD hS 0 rfl rfl 1 (by decide) (hts (.fieldLink RX6 22 "TaleBans$Steppe" "tales" "LTaleBans$Ledger;") (List.mem_of_getElem? (i := 9) rfl)) (fun _ h9 => h9) rfl hin rfl (by decide +kernel) rfl rfl (Nat.le_of_ble_eq_true rfl) dX6_init_23 (fun H locs hP hD hS => ?_)
  have hP : va_P D vwCl [(h0, .inr (6, [.ref q1, .ref q2, .null, .null, .null, .int 0, .int 0, .int 0])), (q1, .inl (cy 3, 6, .inr (.inr (.inr (.inr (fun _ => none)))))), (q2, .inr (3, [.int 6, .ref (u3 0), .int 0])), ((u3 0), .inl (cy 0, 24, .inl (fun _ => 0)))] H := hP
  have hD : va_D A [(h0, .inr (6, [.ref q1, .ref q2, .null, .null, .null, .int 0, .int 0, .int 0])), (q1, .inl (cy 3, 6, .inr (.inr (.inr (.inr (fun _ => none)))))), (q2, .inr (3, [.int 6, .ref (u3 0), .int 0])), ((u3 0), .inl (cy 0, 24, .inl (fun _ => 0)))] := hD
  refine lv_aload_n hx hb dX6_init_26 rfl (lv_at hl 0 rfl) ?_
  refine va_new (ci := 3) (fs := [.int 0, .null, .int 0]) (C := RX3) (T := TX3) (N := 3) hx hb hts hinX3 tyX3 tyX3_ok hown (hts (.classLink RX6 17 RX3) (List.mem_of_getElem? (i := 6) rfl)) (hts (.instantiable RX3 3) (List.mem_of_getElem? (i := 7) rfl)) (hts (.initialized RX3) (List.mem_of_getElem? (i := 8) rfl)) hK hP hD hS hA rfl (fun j hj => by rcases (show j = 0 ∨ j = 1 ∨ j = 2 by omega) with rfl | rfl | rfl <;> rfl) (Nat.le_of_ble_eq_true rfl) (Nat.le_of_ble_eq_true rfl) dX6_init_27 (fun q4 H hP hD hS => ?_)
  have hP : va_P D vwCl [(h0, .inr (6, [.ref q1, .ref q2, .null, .null, .null, .int 0, .int 0, .int 0])), (q1, .inl (cy 3, 6, .inr (.inr (.inr (.inr (fun _ => none)))))), (q2, .inr (3, [.int 6, .ref (u3 0), .int 0])), ((u3 0), .inl (cy 0, 24, .inl (fun _ => 0))), (q4, .inr (3, [.int 0, .null, .int 0]))] H := hP
  have hD : va_D A [(h0, .inr (6, [.ref q1, .ref q2, .null, .null, .null, .int 0, .int 0, .int 0])), (q1, .inl (cy 3, 6, .inr (.inr (.inr (.inr (fun _ => none)))))), (q2, .inr (3, [.int 6, .ref (u3 0), .int 0])), ((u3 0), .inl (cy 0, 24, .inl (fun _ => 0))), (q4, .inr (3, [.int 0, .null, .int 0]))] := hD
  refine W.widen (k := 4) (n := 36) (Nat.le_of_ble_eq_true rfl) (Nat.le_of_ble_eq_true rfl) ?_
  refine lv_dup hx hb dX6_init_30 rfl ?_
  refine lv_bipush (v := 8) hx hb dX6_init_31 (by decide) ?_
  have hPc := hP.sub (ws' := [(q4, .inr (3, [.int 0, .null, .int 0]))]) [4] rfl
  have hDc := hD.sub (ws' := [(q4, .inr (3, [.int 0, .null, .int 0]))]) [4] (by decide) rfl
  have hFc := va_free (wc := [(q4, .inr (3, [.int 0, .null, .int 0]))]) hD hS hA [4] rfl
  refine va_callv (va_runIN (As := [.int 8]) (rest := [.ref q4, .ref h0]) ⟨hx, hb, hml, hown, hts⟩ (mk_X3_8 l D cy q4 H.size) ⟨va_cnB 1 hts gX6_init_X3_init_n19 rfl rfl rfl (nwm_21 hN) (hts (.initialized RX3) (List.mem_of_getElem? (i := 8) rfl)) (by decide +kernel) ⟨Nat.le_of_ble_eq_true rfl, Nat.le_of_ble_eq_true rfl⟩, rfl, (hts (.instanceMethod yX3_init) (List.mem_of_getElem? (i := 13) rfl))⟩ ⟨fun a U g mk q => ⟨q.1, q.2.blind⟩, fun U hU hW => ⟨rfl, MkS.pre hPc hDc hKW hU hW⟩⟩ rfl rfl hl.1 rfl (lv_room (Nat.le_of_ble_eq_true rfl)) dX6_init_33 ⟨Nat.le_of_ble_eq_true rfl, Nat.le_of_ble_eq_true rfl⟩) hS (fun q _ h => hFc q h) hFc (fun u5 t H1 locs ht hvm hw hB hz1 hk1 hS => ?_)
  obtain ⟨hP1, hD1⟩ := hB
  rw [ht] at hP1
  obtain ⟨hP, hD⟩ := va_join (wr := [(h0, .inr (6, [.ref q1, .ref q2, .null, .null, .null, .int 0, .int 0, .int 0])), (q1, .inl (cy 3, 6, .inr (.inr (.inr (.inr (fun _ => none)))))), (q2, .inr (3, [.int 6, .ref (u3 0), .int 0])), ((u3 0), .inl (cy 0, 24, .inl (fun _ => 0)))]) (w1 := [(q4, .inr (3, [.int 8, .ref (u5 0), .int 0])), ((u5 0), .inl (cy 0, 32, .inl (fun _ => 0)))]) hP hD [4] [0, 1, 2, 3] rfl rfl (by decide) (by decide) hk1 hFc hP1 hD1
  clear hP1 hD1 hPc hDc
  generalize H1 = H at hP hS ⊢
  have hP : va_P D vwCl [(h0, .inr (6, [.ref q1, .ref q2, .null, .null, .null, .int 0, .int 0, .int 0])), (q1, .inl (cy 3, 6, .inr (.inr (.inr (.inr (fun _ => none)))))), (q2, .inr (3, [.int 6, .ref (u3 0), .int 0])), ((u3 0), .inl (cy 0, 24, .inl (fun _ => 0))), (q4, .inr (3, [.int 8, .ref (u5 0), .int 0])), ((u5 0), .inl (cy 0, 32, .inl (fun _ => 0)))] H := hP
  have hD : va_D A [(h0, .inr (6, [.ref q1, .ref q2, .null, .null, .null, .int 0, .int 0, .int 0])), (q1, .inl (cy 3, 6, .inr (.inr (.inr (.inr (fun _ => none)))))), (q2, .inr (3, [.int 6, .ref (u3 0), .int 0])), ((u3 0), .inl (cy 0, 24, .inl (fun _ => 0))), (q4, .inr (3, [.int 8, .ref (u5 0), .int 0])), ((u5 0), .inl (cy 0, 32, .inl (fun _ => 0)))] := hD
  refine W.widen (k := 5) (n := 68) (Nat.le_of_ble_eq_true rfl) (Nat.le_of_ble_eq_true rfl) ?_
  refine va_putF (D := D) (ci := 6) (v := .ref q4) (ty := .object "TaleBans$Ledger") (C := RX6) (T := TX6) (N := 8) hx hb hts hinX6 tyX6 tyX6_ok nmX6 hown hK hP hD hS 0 rfl rfl 2 (by decide) (hts (.fieldLink RX6 26 "TaleBans$Steppe" "moves" "LTaleBans$Ledger;") (List.mem_of_getElem? (i := 10) rfl)) (fun _ h9 => h9) rfl hin rfl (by decide +kernel) rfl rfl (Nat.le_of_ble_eq_true rfl) dX6_init_36 (fun H locs hP hD hS => ?_)
  have hP : va_P D vwCl [(h0, .inr (6, [.ref q1, .ref q2, .ref q4, .null, .null, .int 0, .int 0, .int 0])), (q1, .inl (cy 3, 6, .inr (.inr (.inr (.inr (fun _ => none)))))), (q2, .inr (3, [.int 6, .ref (u3 0), .int 0])), ((u3 0), .inl (cy 0, 24, .inl (fun _ => 0))), (q4, .inr (3, [.int 8, .ref (u5 0), .int 0])), ((u5 0), .inl (cy 0, 32, .inl (fun _ => 0)))] H := hP
  have hD : va_D A [(h0, .inr (6, [.ref q1, .ref q2, .ref q4, .null, .null, .int 0, .int 0, .int 0])), (q1, .inl (cy 3, 6, .inr (.inr (.inr (.inr (fun _ => none)))))), (q2, .inr (3, [.int 6, .ref (u3 0), .int 0])), ((u3 0), .inl (cy 0, 24, .inl (fun _ => 0))), (q4, .inr (3, [.int 8, .ref (u5 0), .int 0])), ((u5 0), .inl (cy 0, 32, .inl (fun _ => 0)))] := hD
  refine lv_aload_n hx hb dX6_init_39 rfl (lv_at hl 0 rfl) ?_
  refine va_new (ci := 3) (fs := [.int 0, .null, .int 0]) (C := RX3) (T := TX3) (N := 3) hx hb hts hinX3 tyX3 tyX3_ok hown (hts (.classLink RX6 17 RX3) (List.mem_of_getElem? (i := 6) rfl)) (hts (.instantiable RX3 3) (List.mem_of_getElem? (i := 7) rfl)) (hts (.initialized RX3) (List.mem_of_getElem? (i := 8) rfl)) hK hP hD hS hA rfl (fun j hj => by rcases (show j = 0 ∨ j = 1 ∨ j = 2 by omega) with rfl | rfl | rfl <;> rfl) (Nat.le_of_ble_eq_true rfl) (Nat.le_of_ble_eq_true rfl) dX6_init_40 (fun q6 H hP hD hS => ?_)
  have hP : va_P D vwCl [(h0, .inr (6, [.ref q1, .ref q2, .ref q4, .null, .null, .int 0, .int 0, .int 0])), (q1, .inl (cy 3, 6, .inr (.inr (.inr (.inr (fun _ => none)))))), (q2, .inr (3, [.int 6, .ref (u3 0), .int 0])), ((u3 0), .inl (cy 0, 24, .inl (fun _ => 0))), (q4, .inr (3, [.int 8, .ref (u5 0), .int 0])), ((u5 0), .inl (cy 0, 32, .inl (fun _ => 0))), (q6, .inr (3, [.int 0, .null, .int 0]))] H := hP
  have hD : va_D A [(h0, .inr (6, [.ref q1, .ref q2, .ref q4, .null, .null, .int 0, .int 0, .int 0])), (q1, .inl (cy 3, 6, .inr (.inr (.inr (.inr (fun _ => none)))))), (q2, .inr (3, [.int 6, .ref (u3 0), .int 0])), ((u3 0), .inl (cy 0, 24, .inl (fun _ => 0))), (q4, .inr (3, [.int 8, .ref (u5 0), .int 0])), ((u5 0), .inl (cy 0, 32, .inl (fun _ => 0))), (q6, .inr (3, [.int 0, .null, .int 0]))] := hD
  refine W.widen (k := 6) (n := 71) (Nat.le_of_ble_eq_true rfl) (Nat.le_of_ble_eq_true rfl) ?_
  refine lv_dup hx hb dX6_init_43 rfl ?_
  refine lv_bipush (v := 6) hx hb dX6_init_44 (by decide) ?_
  have hPc := hP.sub (ws' := [(q6, .inr (3, [.int 0, .null, .int 0]))]) [6] rfl
  have hDc := hD.sub (ws' := [(q6, .inr (3, [.int 0, .null, .int 0]))]) [6] (by decide) rfl
  have hFc := va_free (wc := [(q6, .inr (3, [.int 0, .null, .int 0]))]) hD hS hA [6] rfl
  refine va_callv (va_runIN (As := [.int 6]) (rest := [.ref q6, .ref h0]) ⟨hx, hb, hml, hown, hts⟩ (mk_X3_6 l D cy q6 H.size) ⟨va_cnB 1 hts gX6_init_X3_init_n19 rfl rfl rfl (nwm_21 hN) (hts (.initialized RX3) (List.mem_of_getElem? (i := 8) rfl)) (by decide +kernel) ⟨Nat.le_of_ble_eq_true rfl, Nat.le_of_ble_eq_true rfl⟩, rfl, (hts (.instanceMethod yX3_init) (List.mem_of_getElem? (i := 13) rfl))⟩ ⟨fun a U g mk q => ⟨q.1, q.2.blind⟩, fun U hU hW => ⟨rfl, MkS.pre hPc hDc hKW hU hW⟩⟩ rfl rfl hl.1 rfl (lv_room (Nat.le_of_ble_eq_true rfl)) dX6_init_46 ⟨Nat.le_of_ble_eq_true rfl, Nat.le_of_ble_eq_true rfl⟩) hS (fun q _ h => hFc q h) hFc (fun u7 t H1 locs ht hvm hw hB hz1 hk1 hS => ?_)
  obtain ⟨hP1, hD1⟩ := hB
  rw [ht] at hP1
  obtain ⟨hP, hD⟩ := va_join (wr := [(h0, .inr (6, [.ref q1, .ref q2, .ref q4, .null, .null, .int 0, .int 0, .int 0])), (q1, .inl (cy 3, 6, .inr (.inr (.inr (.inr (fun _ => none)))))), (q2, .inr (3, [.int 6, .ref (u3 0), .int 0])), ((u3 0), .inl (cy 0, 24, .inl (fun _ => 0))), (q4, .inr (3, [.int 8, .ref (u5 0), .int 0])), ((u5 0), .inl (cy 0, 32, .inl (fun _ => 0)))]) (w1 := [(q6, .inr (3, [.int 6, .ref (u7 0), .int 0])), ((u7 0), .inl (cy 0, 24, .inl (fun _ => 0)))]) hP hD [6] [0, 1, 2, 3, 4, 5] rfl rfl (by decide) (by decide) hk1 hFc hP1 hD1
  clear hP1 hD1 hPc hDc
  generalize H1 = H at hP hS ⊢
  have hP : va_P D vwCl [(h0, .inr (6, [.ref q1, .ref q2, .ref q4, .null, .null, .int 0, .int 0, .int 0])), (q1, .inl (cy 3, 6, .inr (.inr (.inr (.inr (fun _ => none)))))), (q2, .inr (3, [.int 6, .ref (u3 0), .int 0])), ((u3 0), .inl (cy 0, 24, .inl (fun _ => 0))), (q4, .inr (3, [.int 8, .ref (u5 0), .int 0])), ((u5 0), .inl (cy 0, 32, .inl (fun _ => 0))), (q6, .inr (3, [.int 6, .ref (u7 0), .int 0])), ((u7 0), .inl (cy 0, 24, .inl (fun _ => 0)))] H := hP
  have hD : va_D A [(h0, .inr (6, [.ref q1, .ref q2, .ref q4, .null, .null, .int 0, .int 0, .int 0])), (q1, .inl (cy 3, 6, .inr (.inr (.inr (.inr (fun _ => none)))))), (q2, .inr (3, [.int 6, .ref (u3 0), .int 0])), ((u3 0), .inl (cy 0, 24, .inl (fun _ => 0))), (q4, .inr (3, [.int 8, .ref (u5 0), .int 0])), ((u5 0), .inl (cy 0, 32, .inl (fun _ => 0))), (q6, .inr (3, [.int 6, .ref (u7 0), .int 0])), ((u7 0), .inl (cy 0, 24, .inl (fun _ => 0)))] := hD
  refine W.widen (k := 7) (n := 95) (Nat.le_of_ble_eq_true rfl) (Nat.le_of_ble_eq_true rfl) ?_
  refine va_putF (D := D) (ci := 6) (v := .ref q6) (ty := .object "TaleBans$Ledger") (C := RX6) (T := TX6) (N := 8) hx hb hts hinX6 tyX6 tyX6_ok nmX6 hown hK hP hD hS 0 rfl rfl 3 (by decide) (hts (.fieldLink RX6 29 "TaleBans$Steppe" "needs" "LTaleBans$Ledger;") (List.mem_of_getElem? (i := 11) rfl)) (fun _ h9 => h9) rfl hin rfl (by decide +kernel) rfl rfl (Nat.le_of_ble_eq_true rfl) dX6_init_49 (fun H locs hP hD hS => ?_)
  have hP : va_P D vwCl [(h0, .inr (6, [.ref q1, .ref q2, .ref q4, .ref q6, .null, .int 0, .int 0, .int 0])), (q1, .inl (cy 3, 6, .inr (.inr (.inr (.inr (fun _ => none)))))), (q2, .inr (3, [.int 6, .ref (u3 0), .int 0])), ((u3 0), .inl (cy 0, 24, .inl (fun _ => 0))), (q4, .inr (3, [.int 8, .ref (u5 0), .int 0])), ((u5 0), .inl (cy 0, 32, .inl (fun _ => 0))), (q6, .inr (3, [.int 6, .ref (u7 0), .int 0])), ((u7 0), .inl (cy 0, 24, .inl (fun _ => 0)))] H := hP
  have hD : va_D A [(h0, .inr (6, [.ref q1, .ref q2, .ref q4, .ref q6, .null, .int 0, .int 0, .int 0])), (q1, .inl (cy 3, 6, .inr (.inr (.inr (.inr (fun _ => none)))))), (q2, .inr (3, [.int 6, .ref (u3 0), .int 0])), ((u3 0), .inl (cy 0, 24, .inl (fun _ => 0))), (q4, .inr (3, [.int 8, .ref (u5 0), .int 0])), ((u5 0), .inl (cy 0, 32, .inl (fun _ => 0))), (q6, .inr (3, [.int 6, .ref (u7 0), .int 0])), ((u7 0), .inl (cy 0, 24, .inl (fun _ => 0)))] := hD
  refine lv_aload_n hx hb dX6_init_52 rfl (lv_at hl 0 rfl) ?_
  refine va_new (ci := 3) (fs := [.int 0, .null, .int 0]) (C := RX3) (T := TX3) (N := 3) hx hb hts hinX3 tyX3 tyX3_ok hown (hts (.classLink RX6 17 RX3) (List.mem_of_getElem? (i := 6) rfl)) (hts (.instantiable RX3 3) (List.mem_of_getElem? (i := 7) rfl)) (hts (.initialized RX3) (List.mem_of_getElem? (i := 8) rfl)) hK hP hD hS hA rfl (fun j hj => by rcases (show j = 0 ∨ j = 1 ∨ j = 2 by omega) with rfl | rfl | rfl <;> rfl) (Nat.le_of_ble_eq_true rfl) (Nat.le_of_ble_eq_true rfl) dX6_init_53 (fun q8 H hP hD hS => ?_)
  have hP : va_P D vwCl [(h0, .inr (6, [.ref q1, .ref q2, .ref q4, .ref q6, .null, .int 0, .int 0, .int 0])), (q1, .inl (cy 3, 6, .inr (.inr (.inr (.inr (fun _ => none)))))), (q2, .inr (3, [.int 6, .ref (u3 0), .int 0])), ((u3 0), .inl (cy 0, 24, .inl (fun _ => 0))), (q4, .inr (3, [.int 8, .ref (u5 0), .int 0])), ((u5 0), .inl (cy 0, 32, .inl (fun _ => 0))), (q6, .inr (3, [.int 6, .ref (u7 0), .int 0])), ((u7 0), .inl (cy 0, 24, .inl (fun _ => 0))), (q8, .inr (3, [.int 0, .null, .int 0]))] H := hP
  have hD : va_D A [(h0, .inr (6, [.ref q1, .ref q2, .ref q4, .ref q6, .null, .int 0, .int 0, .int 0])), (q1, .inl (cy 3, 6, .inr (.inr (.inr (.inr (fun _ => none)))))), (q2, .inr (3, [.int 6, .ref (u3 0), .int 0])), ((u3 0), .inl (cy 0, 24, .inl (fun _ => 0))), (q4, .inr (3, [.int 8, .ref (u5 0), .int 0])), ((u5 0), .inl (cy 0, 32, .inl (fun _ => 0))), (q6, .inr (3, [.int 6, .ref (u7 0), .int 0])), ((u7 0), .inl (cy 0, 24, .inl (fun _ => 0))), (q8, .inr (3, [.int 0, .null, .int 0]))] := hD
  refine W.widen (k := 8) (n := 98) (Nat.le_of_ble_eq_true rfl) (Nat.le_of_ble_eq_true rfl) ?_
  refine lv_dup hx hb dX6_init_56 rfl ?_
  refine lv_bipush (v := 8) hx hb dX6_init_57 (by decide) ?_
  have hPc := hP.sub (ws' := [(q8, .inr (3, [.int 0, .null, .int 0]))]) [8] rfl
  have hDc := hD.sub (ws' := [(q8, .inr (3, [.int 0, .null, .int 0]))]) [8] (by decide) rfl
  have hFc := va_free (wc := [(q8, .inr (3, [.int 0, .null, .int 0]))]) hD hS hA [8] rfl
  refine va_callv (va_runIN (As := [.int 8]) (rest := [.ref q8, .ref h0]) ⟨hx, hb, hml, hown, hts⟩ (mk_X3_8 l D cy q8 H.size) ⟨va_cnB 1 hts gX6_init_X3_init_n19 rfl rfl rfl (nwm_21 hN) (hts (.initialized RX3) (List.mem_of_getElem? (i := 8) rfl)) (by decide +kernel) ⟨Nat.le_of_ble_eq_true rfl, Nat.le_of_ble_eq_true rfl⟩, rfl, (hts (.instanceMethod yX3_init) (List.mem_of_getElem? (i := 13) rfl))⟩ ⟨fun a U g mk q => ⟨q.1, q.2.blind⟩, fun U hU hW => ⟨rfl, MkS.pre hPc hDc hKW hU hW⟩⟩ rfl rfl hl.1 rfl (lv_room (Nat.le_of_ble_eq_true rfl)) dX6_init_59 ⟨Nat.le_of_ble_eq_true rfl, Nat.le_of_ble_eq_true rfl⟩) hS (fun q _ h => hFc q h) hFc (fun u9 t H1 locs ht hvm hw hB hz1 hk1 hS => ?_)
  obtain ⟨hP1, hD1⟩ := hB
  rw [ht] at hP1
  obtain ⟨hP, hD⟩ := va_join (wr := [(h0, .inr (6, [.ref q1, .ref q2, .ref q4, .ref q6, .null, .int 0, .int 0, .int 0])), (q1, .inl (cy 3, 6, .inr (.inr (.inr (.inr (fun _ => none)))))), (q2, .inr (3, [.int 6, .ref (u3 0), .int 0])), ((u3 0), .inl (cy 0, 24, .inl (fun _ => 0))), (q4, .inr (3, [.int 8, .ref (u5 0), .int 0])), ((u5 0), .inl (cy 0, 32, .inl (fun _ => 0))), (q6, .inr (3, [.int 6, .ref (u7 0), .int 0])), ((u7 0), .inl (cy 0, 24, .inl (fun _ => 0)))]) (w1 := [(q8, .inr (3, [.int 8, .ref (u9 0), .int 0])), ((u9 0), .inl (cy 0, 32, .inl (fun _ => 0)))]) hP hD [8] [0, 1, 2, 3, 4, 5, 6, 7] rfl rfl (by decide) (by decide) hk1 hFc hP1 hD1
  clear hP1 hD1 hPc hDc
  generalize H1 = H at hP hS ⊢
  have hP : va_P D vwCl [(h0, .inr (6, [.ref q1, .ref q2, .ref q4, .ref q6, .null, .int 0, .int 0, .int 0])), (q1, .inl (cy 3, 6, .inr (.inr (.inr (.inr (fun _ => none)))))), (q2, .inr (3, [.int 6, .ref (u3 0), .int 0])), ((u3 0), .inl (cy 0, 24, .inl (fun _ => 0))), (q4, .inr (3, [.int 8, .ref (u5 0), .int 0])), ((u5 0), .inl (cy 0, 32, .inl (fun _ => 0))), (q6, .inr (3, [.int 6, .ref (u7 0), .int 0])), ((u7 0), .inl (cy 0, 24, .inl (fun _ => 0))), (q8, .inr (3, [.int 8, .ref (u9 0), .int 0])), ((u9 0), .inl (cy 0, 32, .inl (fun _ => 0)))] H := hP
  have hD : va_D A [(h0, .inr (6, [.ref q1, .ref q2, .ref q4, .ref q6, .null, .int 0, .int 0, .int 0])), (q1, .inl (cy 3, 6, .inr (.inr (.inr (.inr (fun _ => none)))))), (q2, .inr (3, [.int 6, .ref (u3 0), .int 0])), ((u3 0), .inl (cy 0, 24, .inl (fun _ => 0))), (q4, .inr (3, [.int 8, .ref (u5 0), .int 0])), ((u5 0), .inl (cy 0, 32, .inl (fun _ => 0))), (q6, .inr (3, [.int 6, .ref (u7 0), .int 0])), ((u7 0), .inl (cy 0, 24, .inl (fun _ => 0))), (q8, .inr (3, [.int 8, .ref (u9 0), .int 0])), ((u9 0), .inl (cy 0, 32, .inl (fun _ => 0)))] := hD
  refine W.widen (k := 9) (n := 130) (Nat.le_of_ble_eq_true rfl) (Nat.le_of_ble_eq_true rfl) ?_
  refine va_putF (D := D) (ci := 6) (v := .ref q8) (ty := .object "TaleBans$Ledger") (C := RX6) (T := TX6) (N := 8) hx hb hts hinX6 tyX6 tyX6_ok nmX6 hown hK hP hD hS 0 rfl rfl 4 (by decide) (hts (.fieldLink RX6 32 "TaleBans$Steppe" "readings" "LTaleBans$Ledger;") (List.mem_of_getElem? (i := 12) rfl)) (fun _ h9 => h9) rfl hin rfl (by decide +kernel) rfl rfl (Nat.le_of_ble_eq_true rfl) dX6_init_62 (fun H locs hP hD hS => ?_)
  have hP : va_P D vwCl [(h0, .inr (6, [.ref q1, .ref q2, .ref q4, .ref q6, .ref q8, .int 0, .int 0, .int 0])), (q1, .inl (cy 3, 6, .inr (.inr (.inr (.inr (fun _ => none)))))), (q2, .inr (3, [.int 6, .ref (u3 0), .int 0])), ((u3 0), .inl (cy 0, 24, .inl (fun _ => 0))), (q4, .inr (3, [.int 8, .ref (u5 0), .int 0])), ((u5 0), .inl (cy 0, 32, .inl (fun _ => 0))), (q6, .inr (3, [.int 6, .ref (u7 0), .int 0])), ((u7 0), .inl (cy 0, 24, .inl (fun _ => 0))), (q8, .inr (3, [.int 8, .ref (u9 0), .int 0])), ((u9 0), .inl (cy 0, 32, .inl (fun _ => 0)))] H := hP
  have hD : va_D A [(h0, .inr (6, [.ref q1, .ref q2, .ref q4, .ref q6, .ref q8, .int 0, .int 0, .int 0])), (q1, .inl (cy 3, 6, .inr (.inr (.inr (.inr (fun _ => none)))))), (q2, .inr (3, [.int 6, .ref (u3 0), .int 0])), ((u3 0), .inl (cy 0, 24, .inl (fun _ => 0))), (q4, .inr (3, [.int 8, .ref (u5 0), .int 0])), ((u5 0), .inl (cy 0, 32, .inl (fun _ => 0))), (q6, .inr (3, [.int 6, .ref (u7 0), .int 0])), ((u7 0), .inl (cy 0, 24, .inl (fun _ => 0))), (q8, .inr (3, [.int 8, .ref (u9 0), .int 0])), ((u9 0), .inl (cy 0, 32, .inl (fun _ => 0)))] := hD
  refine W.widen (k := 9) (n := 130) (Nat.le_of_ble_eq_true rfl) (Nat.le_of_ble_eq_true rfl) ?_
  have hP9 := hP.sub (ws' := [(h0, .inr (6, [.ref q1, .ref q2, .ref q4, .ref q6, .ref q8, .int 0, .int 0, .int 0])), (q1, .inl (cy 3, 6, .inr (.inr (.inr (.inr (fun _ => none)))))), (q2, .inr (3, [.int 6, .ref (u3 0), .int 0])), ((u3 0), .inl (cy 0, 24, .inl (fun _ => 0))), (q4, .inr (3, [.int 8, .ref (u5 0), .int 0])), ((u5 0), .inl (cy 0, 32, .inl (fun _ => 0))), (q6, .inr (3, [.int 6, .ref (u7 0), .int 0])), ((u7 0), .inl (cy 0, 24, .inl (fun _ => 0))), (q8, .inr (3, [.int 8, .ref (u9 0), .int 0])), ((u9 0), .inl (cy 0, 32, .inl (fun _ => 0)))]) [0, 1, 2, 3, 4, 5, 6, 7, 8, 9] rfl
  have hD9 := hD.sub (ws' := [(h0, .inr (6, [.ref q1, .ref q2, .ref q4, .ref q6, .ref q8, .int 0, .int 0, .int 0])), (q1, .inl (cy 3, 6, .inr (.inr (.inr (.inr (fun _ => none)))))), (q2, .inr (3, [.int 6, .ref (u3 0), .int 0])), ((u3 0), .inl (cy 0, 24, .inl (fun _ => 0))), (q4, .inr (3, [.int 8, .ref (u5 0), .int 0])), ((u5 0), .inl (cy 0, 32, .inl (fun _ => 0))), (q6, .inr (3, [.int 6, .ref (u7 0), .int 0])), ((u7 0), .inl (cy 0, 24, .inl (fun _ => 0))), (q8, .inr (3, [.int 8, .ref (u9 0), .int 0])), ((u9 0), .inl (cy 0, 32, .inl (fun _ => 0)))]) [0, 1, 2, 3, 4, 5, 6, 7, 8, 9] (by decide) rfl
  clear hP hD
  exact W.vret hx hb hr (fun t ht hW => ⟨⟨(fun k => [q1, q2, (u3 0), q4, (u5 0), q6, (u7 0), q8, (u9 0)].getD k 0), rfl, trivial, P_of ht hP9, hD9⟩, hS.F ht⟩) hS.2.2 dX6_init_65
